/-! truths and numbers that contracts speak of -/
def wi (v lo hi : Int32) : Bool := decide (lo ≤ v) && decide (v ≤ hi)
theorem wi_t {v lo hi : Int32} (h1 : ¬ v < lo) (h2 : ¬ hi < v) : nI 1 = b01 (wi v lo hi) := by
  have a := Int32.not_lt.mp h1
  have b := Int32.not_lt.mp h2
  simp [wi, b01, a, b]
  rfl
theorem wi_f1 {v lo hi : Int32} (h1 : v < lo) : nI 0 = b01 (wi v lo hi) := by
  have a : ¬ lo ≤ v := fun q => Int32.not_lt.mpr q h1
  simp [wi, b01, a]
  rfl
theorem wi_f2 {v lo hi : Int32} (h2 : hi < v) : nI 0 = b01 (wi v lo hi) := by
  have a : ¬ v ≤ hi := fun q => Int32.not_lt.mpr q h2
  simp [wi, b01, a]
  rfl
theorem wi_nn (x : Int32) {a b : Nat} (ha : a < 2 ^ 31) (hb : b < 2 ^ 31) : wi x (nI a) (nI b) = (decide ((a : Int) ≤ x.toInt) && decide (x.toInt ≤ (b : Int))) := by
  simp only [wi, Int32.le_iff_toInt_le, nI_toInt ha, nI_toInt hb]
theorem wi_upto (x : Int32) {n : Nat} (hn : n < 2 ^ 31) : wi x (nI 0) (nI n) = inB x (n + 1) := by
  rw [wi_nn x (by decide) hn]
  simp only [inB]
  congr 1
  apply decide_eq_decide.mpr
  omega
theorem toInt_rng (x : Int32) : -2147483648 ≤ x.toInt ∧ x.toInt < 2147483648 := ⟨Int32.le_toInt x, Int32.toInt_lt x⟩
theorem wi_pred (x : Int32) {n : Nat} (hn : n < 2 ^ 31) : wi x (nI 0) (nI n - nI 1) = inB x n := by
  cases n with
  | zero =>
    have h : (nI 0 - nI 1).toInt = -1 := by decide
    simp only [wi, inB, Int32.le_iff_toInt_le, h, nI_toInt (show 0 < 2 ^ 31 by decide)]
    by_cases h0 : 0 ≤ x.toInt
    · have h1 : ¬ x.toInt ≤ -1 := by omega
      have h2 : ¬ x.toInt < ((0 : Nat) : Int) := by omega
      simp [h0, h1, h2]
    · simp [h0]
  | succ n =>
    rw [show nI (n + 1) - nI 1 = nI n from nI_pred n, wi_upto x (by omega)]
theorem inB_f {x : Int32} {n : Nat} (h : inB x n = false) : ¬ ∃ j, j < n ∧ j < 2 ^ 31 ∧ x = nI j := by
  rintro ⟨j, hj, h2, rfl⟩
  rw [inB_nI h2] at h
  simp at h
  omega
/-- some number in front of n that p holds of -/
def anyB (p : Nat → Bool) : Nat → Bool
  | 0 => false
  | n + 1 => anyB p n || p n
theorem anyB_t {p : Nat → Bool} {i : Nat} (hp : p i = true) : ∀ {n : Nat}, i < n → anyB p n = true
  | 0, h => absurd h (Nat.not_lt_zero i)
  | n + 1, h => by
    rcases Nat.lt_or_ge i n with q | q
    · simp [anyB, anyB_t hp q]
    · have : i = n := by omega
      subst this
      simp [anyB, hp]
theorem anyB_f {p : Nat → Bool} : ∀ {n : Nat}, (∀ i, i < n → p i = false) → anyB p n = false
  | 0, _ => rfl
  | n + 1, h => by rw [anyB, anyB_f (n := n) (fun i hi => h i (by omega)), h n (by omega)]; rfl
theorem anyB_iff {p : Nat → Bool} {n : Nat} : anyB p n = true ↔ ∃ i, i < n ∧ p i = true := by
  refine ⟨fun h => ?_, fun ⟨i, hi, hp⟩ => anyB_t hp hi⟩
  apply Classical.byContradiction
  intro hc
  have : anyB p n = false := anyB_f (fun i hi => by
    cases hq : p i with
    | false => rfl
    | true => exact absurd ⟨i, hi, hq⟩ hc)
  rw [this] at h
  cases h
theorem anyB_congr {p q : Nat → Bool} : ∀ {n : Nat}, (∀ i, i < n → p i = q i) → anyB p n = anyB q n
  | 0, _ => rfl
  | n + 1, h => by rw [anyB, anyB, anyB_congr (fun i hi => h i (by omega)), h n (by omega)]
/-- how many numbers in front of n p holds of -/
def cntB (p : Nat → Bool) : Nat → Nat
  | 0 => 0
  | n + 1 => cntB p n + (if p n then 1 else 0)
theorem cntB_le (p : Nat → Bool) : ∀ n, cntB p n ≤ n
  | 0 => Nat.le_refl 0
  | n + 1 => by
    have := cntB_le p n
    simp only [cntB]
    split <;> omega
theorem cntB_t {p : Nat → Bool} {n : Nat} (h : p n = true) : cntB p (n + 1) = cntB p n + 1 := by simp [cntB, h]
theorem cntB_f {p : Nat → Bool} {n : Nat} (h : p n = false) : cntB p (n + 1) = cntB p n := by simp [cntB, h]
theorem cntB_congr {p q : Nat → Bool} : ∀ {n : Nat}, (∀ i, i < n → p i = q i) → cntB p n = cntB q n
  | 0, _ => rfl
  | n + 1, h => by rw [cntB, cntB, cntB_congr (fun i hi => h i (by omega)), h n (by omega)]
def eqB (x y : Int32) : Bool := decide (x = y)
theorem eqB_t {x y : Int32} (h : x = y) : eqB x y = true := by simp [eqB, h]
theorem eqB_f {x y : Int32} (h : ¬ x = y) : eqB x y = false := by simp [eqB, h]
theorem b1_t {b : Bool} (h : b = true) : nI 1 = b01 b := by rw [h]; rfl
theorem b0_f {b : Bool} (h : b = false) : nI 0 = b01 b := by rw [h]; rfl
