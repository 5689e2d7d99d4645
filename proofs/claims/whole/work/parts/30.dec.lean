/-! answers by cases; switches -/
def Dec1 (c : Bool) (A B : Prop) : Prop := (c = false ∧ A) ∨ (c = true ∧ B)
theorem Dec1.no {c : Bool} {A B : Prop} (h : c = false) (a : A) : Dec1 c A B := Or.inl ⟨h, a⟩
theorem Dec1.yes {c : Bool} {A B : Prop} (h : c = true) (b : B) : Dec1 c A B := Or.inr ⟨h, b⟩
theorem Dec1.join {c : Bool} {A B A' B' : Prop} (h : Dec1 c A B) (h' : Dec1 c A' B') : (c = false ∧ A ∧ A') ∨ (c = true ∧ B ∧ B') := by
  rcases h with ⟨e, a⟩ | ⟨e, b⟩
  · rcases h' with ⟨e', a'⟩ | ⟨e', b'⟩
    · exact Or.inl ⟨e, a, a'⟩
    · rw [e] at e'; cases e'
  · rcases h' with ⟨e', a'⟩ | ⟨e', b'⟩
    · rw [e] at e'; cases e'
    · exact Or.inr ⟨e, b, b'⟩
def swA (y : Int32) (l : List Int32) : Int32 := if y.toInt < 0 then -1 else l.getD y.toInt.toNat (-1)
theorem swA_at {y : Int32} {l : List Int32} {j : Nat} (h : y.toInt = (j : Int)) : swA y l = l.getD j (-1) := by
  rw [swA, if_neg (by omega), show y.toInt.toNat = j by omega]
theorem swA_o {y : Int32} {l : List Int32} {m : Nat} (h : y.toInt < 0 ∨ (m : Int) < y.toInt) (hl : l.length = m + 1) : swA y l = -1 := by
  unfold swA
  by_cases c : y.toInt < 0
  · rw [if_pos c]
  · rw [if_neg c, List.getD_eq_getElem?_getD, List.getElem?_eq_none (by omega)]
    rfl
theorem tn_of {x : Int32} {k : Nat} (e : x = nI k) (h : k < 2 ^ 31) : tn x = k := by rw [e]; exact tn_nI h
def ifA (c : Bool) (a b : Int32) : Int32 := if c then a else b
theorem ifA_t {c : Bool} {a b : Int32} (h : c = true) : ifA c a b = a := by rw [h]; rfl
theorem ifA_f {c : Bool} {a b : Int32} (h : c = false) : ifA c a b = b := by rw [h]; rfl
theorem and_f1 {a b : Bool} (h : a = false) : (a && b) = false := by rw [h]; rfl
theorem and_f2 {a b : Bool} (h : b = false) : (a && b) = false := by rw [h]; cases a <;> rfl
theorem and_t {a b : Bool} (h : a = true) (h2 : b = true) : (a && b) = true := by rw [h, h2]; rfl
def okTank (l m a : Int32) : Bool := wi m (nI 0) (nI 10000) && (wi l (nI 0) m && wi a l m)
