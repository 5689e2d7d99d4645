/-! THE REFERENCE'S ROWS as tables and as a moment -/
def modT (M : Mem) : Mem := fun r => if r = 2 then (fun i => b01 (eqB (M 51 i) 0)) else if r = 3 then M 52 else if r = 4 then M 53 else if r = 9 then M 45 else if r = 10 then M 46 else if r = 11 then M 47 else fun _ => 0
def modR (M : Mem) : Mem := fun r => if r = 2 then M 35 else if r = 3 then M 36 else if r = 4 then M 37 else if r = 5 then M 38 else if r = 7 then M 48 else if r = 8 then M 49 else if r = 9 then M 50 else if r = 10 then M 44 else if r = 11 then M 41 else if r = 12 then M 59 else if r = 0 then (fun j => M 34 (if j = 0 then 24 else if j = 1 then 25 else 6)) else fun _ => 0
theorem add_m1 (x : Int32) : x + (-1) = x - nI 1 := (Int32.sub_eq_add_neg x (nI 1)).symm
theorem clN_t {nv kd : Nat → Int32} {h f j : Nat} (e : kx kd h f = j) (c : ¬ nv j = 0) : clB (fun i => b01 (eqB (nv i) 0)) kd (some h) (some f) = true := by
  rw [clB_s, e, eqB_f (x := nv j) c]; rfl
theorem clN_f {nv kd : Nat → Int32} {h f j : Nat} (e : kx kd h f = j) (c : nv j = 0) : clB (fun i => b01 (eqB (nv i) 0)) kd (some h) (some f) = false := by
  rw [clB_s, e, eqB_t (x := nv j) c]; rfl
theorem or_t1 {a b : Bool} (h : a = true) : (a || b) = true := by rw [h]; rfl
theorem or_t2 {a b : Bool} (h : b = true) : (a || b) = true := by rw [h]; cases a <;> rfl
theorem or_f {a b : Bool} (h : a = false) (h2 : b = false) : (a || b) = false := by rw [h, h2]; rfl
theorem clash_p {may kd fo : Nat → Int32} {n m : Nat} (h : pureB fo m = true) : clashB may kd fo n m = (clB may kd (nbB fo m) (some m) || clB may kd (some m) (nbE fo n m)) := by rw [clashB, if_pos h]
theorem clash_n {may kd fo : Nat → Int32} {n m : Nat} (h : pureB fo m = false) : clashB may kd fo n m = clB may kd (nbB fo m) (nbE fo n m) := by rw [clashB, if_neg (by rw [h]; decide)]
theorem bear_t {fo am : Nat → Int32} {g : Int32} {t : Nat} (h : ¬ g * (am t + nI 1) < nI 100 * (fo t + nI 1)) : bearB fo am g t = true := by
  rw [Int32.mul_comm] at h
  rw [bearB, decide_eq_true_eq, Int32.mul_comm (fo t + nI 1), Int32.mul_comm g]
  exact Int32.not_lt.mp h
theorem bear_f {fo am : Nat → Int32} {g : Int32} {t : Nat} (h : g * (am t + nI 1) < nI 100 * (fo t + nI 1)) : bearB fo am g t = false := by
  rw [bearB, decide_eq_false_iff_not, Int32.mul_comm (fo t + nI 1)]
  exact Int32.not_le.mpr h
theorem upd_0 {f : Nat → Int32} {t : Nat} : upd f t (f t + nI 0) = f := by
  funext j
  by_cases h : j = t
  · subst h; rw [pk_us]; exact Int32.add_zero _
  · rw [pk_un h]
theorem iinc_m1 (n : Nat) : nI (n + 1) + Int32.ofInt (-1) = nI n := by rw [iincM1]; exact nI_pred n
