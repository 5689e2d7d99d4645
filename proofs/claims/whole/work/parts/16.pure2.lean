/-! what the class's and the reference's methods answer and do, as plain functions of rows -/
def enc : Option Nat → Int32
  | none => -1
  | some j => nI j
theorem enc_ne {j : Nat} (h : j < 2 ^ 31) : ¬ nI j = -1 := by
  intro h2
  have := congrArg Int32.toInt h2
  rw [nI_toInt h] at this
  have h3 : (-1 : Int32).toInt = -1 := by decide
  omega
def pureB (fo : Nat → Int32) (m : Nat) : Bool := eqB (fo m) (-1)
/-- the first pure one towards the begin, towards the end -/
def nbB (fo : Nat → Int32) : Nat → Option Nat
  | 0 => none
  | m + 1 => if pureB fo m then some m else nbB fo m
def nbEc (fo : Nat → Int32) : Nat → Nat → Option Nat
  | 0, _ => none
  | c + 1, j => if pureB fo j then some j else nbEc fo c (j + 1)
def nbE (fo : Nat → Int32) (n m : Nat) : Option Nat := nbEc fo (n - (m + 1)) (m + 1)
theorem nbB_lt {fo : Nat → Int32} : ∀ {m x : Nat}, nbB fo m = some x → x < m ∧ pureB fo x = true
  | 0, x, h => by simp [nbB] at h
  | m + 1, x, h => by
    unfold nbB at h
    by_cases hp : pureB fo m = true
    · rw [if_pos hp] at h
      cases h
      exact ⟨by omega, hp⟩
    · rw [if_neg hp] at h
      have := nbB_lt h
      exact ⟨by omega, this.2⟩
theorem nbEc_lt {fo : Nat → Int32} : ∀ {c j x : Nat}, nbEc fo c j = some x → j ≤ x ∧ x < j + c ∧ pureB fo x = true
  | 0, j, x, h => by simp [nbEc] at h
  | c + 1, j, x, h => by
    unfold nbEc at h
    by_cases hp : pureB fo j = true
    · rw [if_pos hp] at h
      cases h
      exact ⟨by omega, by omega, hp⟩
    · rw [if_neg hp] at h
      have := nbEc_lt h
      exact ⟨by omega, by omega, this.2.2⟩
theorem nbE_lt {fo : Nat → Int32} {n m x : Nat} (h : nbE fo n m = some x) : m < x ∧ x < n ∧ pureB fo x = true := by
  have := nbEc_lt h
  exact ⟨by omega, by omega, this.2.2⟩
/-- the hind one of the border whose fore one is m -/
def bord (fo kd : Nat → Int32) (m : Nat) : Option Nat := if pureB fo m then (match nbB fo m with
  | some x => if eqB (kd x) (kd m) then none else some x
  | none => none) else none
def kx (kd : Nat → Int32) (h f : Nat) : Nat := tn (kd h) * 8 + tn (kd f)
def clB (may kd : Nat → Int32) (a b : Option Nat) : Bool := match a, b with
  | some h, some f => eqB (may (kx kd h f)) 0
  | _, _ => false
def clashB (may kd fo : Nat → Int32) (n m : Nat) : Bool := if pureB fo m then clB may kd (nbB fo m) (some m) || clB may kd (some m) (nbE fo n m) else clB may kd (nbB fo m) (nbE fo n m)
def evB (h f : Nat) : Bool := decide ((f - h - 1) % 2 = 0)
/-- a border goes one step: the far side of what is to mix now, and what was gone -/
def farS (mx kd w : Nat → Int32) (h f : Nat) : Option Nat × (Nat → Int32) :=
  if mx (kx kd h f) = 0 then (none, w)
  else if (if w f < mx (kx kd h f) then upd w f (w f + 1) else w) f < mx (kx kd h f) then (none, if w f < mx (kx kd h f) then upd w f (w f + 1) else w)
  else (if evB h f then (if h = 0 then none else some (h - 1)) else some (f + 1), if w f < mx (kx kd h f) then upd w f (w f + 1) else w)
abbrev Pst : Type := (Nat → Int32) × (Nat → Int32) × (Nat → Int32)
/-- one measure more becomes mixed -/
def mixOneS (b : Nat → Int32) (q : Pst) (h f g : Nat) : Pst :=
  if pureB q.2.1 g && eqB (b g) (b (if evB h f then h else f)) then (upd q.1 (if evB h f then h else f) (q.1 h), upd q.2.1 (if evB h f then h else f) (q.1 f), upd q.2.2 (if evB h f then f else g) 0) else q
/-- what a border does in a step -/
def coreS (mx b : Nat → Int32) (lo hi : Nat) (q : Pst) (h f : Nat) : Pst := match (farS mx q.1 q.2.2 h f).1 with
  | none => (q.1, q.2.1, (farS mx q.1 q.2.2 h f).2)
  | some g => if lo ≤ g ∧ g < hi then mixOneS b (q.1, q.2.1, (farS mx q.1 q.2.2 h f).2) h f g else (q.1, q.2.1, (farS mx q.1 q.2.2 h f).2)
/-- the class: one pass, with the pure one that was seen last -/
def mixStep (mx b : Nat → Int32) (lo hi h : Nat) (u : Option Nat × Pst) : Option Nat × Pst := if pureB u.2.2.1 h then (some h, match u.1 with
  | none => u.2
  | some f => if eqB (u.2.1 h) (u.2.1 f) then u.2 else coreS mx b lo hi u.2 h f) else u
def mixC (mx b : Nat → Int32) (lo hi : Nat) : Nat → Option Nat × Pst → Option Nat × Pst
  | 0, u => u
  | c + 1, u => mixC mx b lo hi c (mixStep mx b lo hi (lo + c) u)
/-- the reference: border by border -/
def mixMStep (mx b : Nat → Int32) (lo hi y : Nat) (q : Pst) : Pst := match bord q.2.1 q.1 y with
  | none => q
  | some x => if x < lo then q else coreS mx b lo hi q x y
def mixM (mx b : Nat → Int32) (lo hi : Nat) : Nat → Pst → Pst
  | 0, q => q
  | c + 1, q => mixM mx b lo hi c (mixMStep mx b lo hi (lo + c) q)
/-- wishes -/
def wantS (wt wm wc ca : Nat → Int32) (w : Nat) : Int32 := if nI 0 < wm w - (ca (tn (wt w)) - wc w) then wm w - (ca (tn (wt w)) - wc w) else nI 0
def lateS (kp wb : Nat → Int32) (t : Int32) (w : Nat) : Int32 := if nI 0 < (if eqB (kp w) (-1) then t else kp w) - wb w then (if eqB (kp w) (-1) then t else kp w) - wb w else nI 0
def sumI (f : Nat → Int32) : Nat → Int32
  | 0 => nI 0
  | n + 1 => sumI f n + f n
theorem sumI_congr {f g : Nat → Int32} : ∀ {n : Nat}, (∀ i, i < n → f i = g i) → sumI f n = sumI g n
  | 0, _ => rfl
  | n + 1, h => by rw [sumI, sumI, sumI_congr (fun i hi => h i (by omega)), h n (by omega)]
def keepF (kp wa : Nat → Int32) (t : Int32) (n : Nat) : Nat → Int32 := fun j => if j < n ∧ kp j = -1 ∧ wa j = 0 then t else kp j
theorem keepF_0 (kp wa : Nat → Int32) (t : Int32) : keepF kp wa t 0 = kp := by
  funext j
  simp [keepF]
theorem keepF_t {kp wa : Nat → Int32} {t : Int32} {i : Nat} (h1 : kp i = -1) (h2 : wa i = 0) : keepF kp wa t (i + 1) = upd (keepF kp wa t i) i t := by
  funext j
  by_cases hj : j = i
  · subst hj
    simp [keepF, upd, h1, h2]
  · simp only [keepF, upd, if_neg hj, show (j < i + 1) = (j < i) by simp; omega]
theorem keepF_f {kp wa : Nat → Int32} {t : Int32} {i : Nat} (h : ¬ (kp i = -1 ∧ wa i = 0)) : keepF kp wa t (i + 1) = keepF kp wa t i := by
  funext j
  by_cases hj : j = i
  · subst hj
    simp only [keepF]
    rw [if_neg (fun q => h q.2), if_neg (fun q => h q.2)]
  · simp only [keepF, show (j < i + 1) = (j < i) by simp; omega]
theorem keepF_at {kp wa : Nat → Int32} {t : Int32} {i : Nat} : keepF kp wa t i i = kp i := by simp [keepF]
/-- a mixed one may come out into a tank -/
def bearB (fo am : Nat → Int32) (g : Int32) (t : Nat) : Bool := decide ((fo t + nI 1) * nI 100 ≤ g * (am t + nI 1))
theorem iincM1 (x : Int32) : x + Int32.ofInt (-1) = x - nI 1 := by
  rw [show Int32.ofInt (-1) = -1 by decide, Int32.sub_eq_add_neg]
  rfl
theorem nI_m1 : nI 0 - nI 1 < 0 := by decide
theorem m1_eq : nI 0 - nI 1 = -1 := by decide
theorem predN (c : Nat) : nI (c + 1) - nI 1 = nI c := nI_pred c
