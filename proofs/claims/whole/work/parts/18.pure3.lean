theorem opt_cases (o : Option Nat) : o = none ∨ ∃ x, o = some x := by
  cases o with
  | none => exact Or.inl rfl
  | some x => exact Or.inr ⟨x, rfl⟩
theorem nbB_t {fo : Nat → Int32} {m : Nat} (h : pureB fo m = true) : nbB fo (m + 1) = some m := by rw [nbB, if_pos h]
theorem nbB_f {fo : Nat → Int32} {m : Nat} (h : pureB fo m = false) : nbB fo (m + 1) = nbB fo m := by rw [nbB, if_neg (by rw [h]; decide)]
theorem nbEc_t {fo : Nat → Int32} {c j : Nat} (h : pureB fo j = true) : nbEc fo (c + 1) j = some j := by rw [nbEc, if_pos h]
theorem nbEc_f {fo : Nat → Int32} {c j : Nat} (h : pureB fo j = false) : nbEc fo (c + 1) j = nbEc fo c (j + 1) := by rw [nbEc, if_neg (by rw [h]; decide)]
/-- the last number in front of m, the first from j on, that p holds of -/
def lstB (p : Nat → Bool) : Nat → Option Nat
  | 0 => none
  | m + 1 => if p m then some m else lstB p m
def fstE (p : Nat → Bool) : Nat → Nat → Option Nat
  | 0, _ => none
  | c + 1, j => if p j then some j else fstE p c (j + 1)
theorem lstB_t {p : Nat → Bool} {m : Nat} (h : p m = true) : lstB p (m + 1) = some m := by rw [lstB, if_pos h]
theorem lstB_f {p : Nat → Bool} {m : Nat} (h : p m = false) : lstB p (m + 1) = lstB p m := by rw [lstB, if_neg (by rw [h]; decide)]
theorem fstE_t {p : Nat → Bool} {c j : Nat} (h : p j = true) : fstE p (c + 1) j = some j := by rw [fstE, if_pos h]
theorem fstE_f {p : Nat → Bool} {c j : Nat} (h : p j = false) : fstE p (c + 1) j = fstE p c (j + 1) := by rw [fstE, if_neg (by rw [h]; decide)]
theorem bord_s {fo kd : Nat → Int32} {m x : Nat} (h1 : pureB fo m = true) (h2 : nbB fo m = some x) (h3 : ¬ kd x = kd m) : bord fo kd m = some x := by simp [bord, h1, h2, eqB_f h3]
theorem bord_n1 {fo kd : Nat → Int32} {m : Nat} (h1 : pureB fo m = false) : bord fo kd m = none := by simp [bord, h1]
theorem bord_n2 {fo kd : Nat → Int32} {m : Nat} (h2 : nbB fo m = none) : bord fo kd m = none := by simp [bord, h2]
theorem bord_n3 {fo kd : Nat → Int32} {m x : Nat} (h2 : nbB fo m = some x) (h3 : kd x = kd m) : bord fo kd m = none := by simp [bord, h2, eqB_t h3]
theorem bord_lt {fo kd : Nat → Int32} {m x : Nat} (h : bord fo kd m = some x) : x < m ∧ pureB fo x = true ∧ pureB fo m = true ∧ nbB fo m = some x ∧ ¬ kd x = kd m := by
  unfold bord at h
  by_cases hp : pureB fo m = true
  · rw [if_pos hp] at h
    cases hn : nbB fo m with
    | none => rw [hn] at h; cases h
    | some y =>
      rw [hn] at h
      simp only [] at h
      by_cases he : kd y = kd m
      · rw [eqB_t he] at h; simp at h
      · rw [eqB_f he] at h
        simp at h
        subst h
        exact ⟨(nbB_lt hn).1, (nbB_lt hn).2, hp, rfl, he⟩
  · rw [if_neg hp] at h
    cases h
theorem isS_t {o : Option Nat} {x : Nat} (h : o = some x) : o.isSome = true := by rw [h]; rfl
theorem isS_f {o : Option Nat} (h : o = none) : o.isSome = false := by rw [h]; rfl
theorem enc_n {o : Option Nat} (h : o = none) : enc o = -1 := by rw [h]; rfl
theorem enc_s {o : Option Nat} {x : Nat} (h : o = some x) : enc o = nI x := by rw [h]; rfl
theorem evB_t {h f : Nat} (hf : h < f) (hl : f < 2 ^ 31) (c : nI ((f - h) - 1) - nI ((f - h) - 1) / nI 2 * nI 2 = 0) : evB h f = true := by
  rw [pk_rem (by omega) (by decide) (by decide)] at c
  have : (f - h - 1) % 2 = 0 := by
    have h2 : (f - h - 1) % 2 < 2 := Nat.mod_lt _ (by decide)
    have := (nI_eq (b := 0) (by omega) (by decide)).mp c
    exact this
  simp [evB, this]
theorem evB_f {h f : Nat} (hf : h < f) (hl : f < 2 ^ 31) (c : ¬ nI ((f - h) - 1) - nI ((f - h) - 1) / nI 2 * nI 2 = 0) : evB h f = false := by
  rw [pk_rem (by omega) (by decide) (by decide)] at c
  have : ¬ (f - h - 1) % 2 = 0 := fun q => c (by rw [q]; rfl)
  simp [evB, this]
theorem clB_n1 {may kd : Nat → Int32} {b : Option Nat} : clB may kd none b = false := by cases b <;> rfl
theorem clB_n2 {may kd : Nat → Int32} {a : Option Nat} : clB may kd a none = false := by cases a <;> rfl
theorem clB_s {may kd : Nat → Int32} {h f : Nat} : clB may kd (some h) (some f) = eqB (may (kx kd h f)) 0 := rfl
/-- a row of truths -/
def Z01 (f : Nat → Int32) (n : Nat) : Prop := ∀ i, i < n → f i = b01 (!eqB (f i) 0)
theorem not_t {b : Bool} (h : (!b) = true) : b = false := by cases b; rfl; cases h
theorem not_f {b : Bool} (h : (!b) = false) : b = true := by cases b; cases h; rfl
theorem kx_of {kd : Nat → Int32} {h f a b : Nat} (ha : kd h = nI a) (hb : kd f = nI b) (ha8 : a < 8) (hb8 : b < 8) : kx kd h f = a * 8 + b := by
  simp only [kx, ha, hb, tn_nI (show a < 2 ^ 31 by omega), tn_nI (show b < 2 ^ 31 by omega)]
theorem cpy_0 {f g : Nat → Int32} {n j : Nat} (h : j < n) : va_cpy f g 0 0 n j = f j := by rw [pk_cpy_in (by omega) (by omega)]; simp
def Kin (kd : Nat → Int32) (n : Nat) : Prop := ∀ j, j < n → inB (kd j) 8 = true
