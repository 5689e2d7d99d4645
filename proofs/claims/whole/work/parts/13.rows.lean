/-! more rows: named memories, numbers, branches over numbers and truths, calls that only read -/
def b01 (b : Bool) : Int32 := if b then 1 else 0
def inB (x : Int32) (n : Nat) : Bool := decide (0 ≤ x.toInt) && decide (x.toInt < (n : Int))
abbrev tn (x : Int32) : Nat := x.toNatClampNeg
theorem tn_nI {n : Nat} (h : n < 2 ^ 31) : tn (nI n) = n := nI_clamp h
theorem b01_n (b : Bool) : narrow .boolean (.int (b01 b)) = .int (b01 b) := by cases b <;> rfl
theorem b01_v (b : Bool) : vp_nar .boolean (b01 b) = b01 b := by cases b <;> rfl
theorem b01_0 {b : Bool} : b01 b = 0 ↔ b = false := by cases b <;> decide
theorem inB_nI {j n : Nat} (h : j < 2 ^ 31) : inB (nI j) n = decide (j < n) := by
  simp only [inB, nI_toInt h]
  by_cases hj : j < n <;> simp [hj] <;> omega
theorem inB_of {x : Int32} {n : Nat} (h : inB x n = true) (hn : n ≤ 2 ^ 31) : ∃ j, j < n ∧ x = nI j := by
  simp only [inB, Bool.and_eq_true, decide_eq_true_eq] at h
  refine ⟨x.toInt.toNat, by omega, ?_⟩
  apply Int32.toInt_inj.mp
  rw [nI_toInt (by omega)]
  omega
/-- nothing outside the cells from lo on to in front of hi has changed -/
def Fr (lo hi : Nat) (M M' : Mem) : Prop := ∀ k, (k < lo ∨ hi ≤ k) → M' k = M k
theorem Fr.rf {lo hi : Nat} {M : Mem} : Fr lo hi M M := fun _ _ => rfl
theorem Fr.up {lo hi : Nat} {M M' : Mem} {k : Nat} {f : Nat → Int32} (h : Fr lo hi M M') (h1 : lo ≤ k) (h2 : k < hi) : Fr lo hi M (va_up M' k f) := fun i hi' => by rw [va_up_ne _ _ (by omega)]; exact h i hi'
theorem Fr.tr {lo hi lo2 hi2 : Nat} {M M' M2 : Mem} (h : Fr lo hi M M') (h2 : Fr lo2 hi2 M' M2) (h3 : lo ≤ lo2) (h4 : hi2 ≤ hi) : Fr lo hi M M2 := fun i hi' => (h2 i (by omega)).trans (h i hi')
theorem Fr.wd {lo hi lo2 hi2 : Nat} {M M' : Mem} (h : Fr lo2 hi2 M M') (h3 : lo ≤ lo2) (h4 : hi2 ≤ hi) : Fr lo hi M M' := fun i hi' => h i (by omega)
section ROWS
variable {p : Program} {l : Launch} {e : Env} {R : Room} {s : State} {m : MethodId} {args : Array Value} {below : List Frame} {meth : Method} {c : Code} {H : Heap} {locs : List Loc} {cells slots : Nat} {Q : State → Prop}
variable {cc : ByteArray} {pc nL : Nat} {ls : Array Slot} {rest st0 : List Value} {own : String} {G : GT} {N K : Nat} {ad : Nat → Nat} {M : Mem}
theorem m_top {x y : Int32} (h : x = y) (k : W p l e R s m args below meth c H locs cells slots Q (F0 m pc ls (.int y :: rest))) : W p l e R s m args below meth c H locs cells slots Q (F0 m pc ls (.int x :: rest)) := h ▸ k
theorem n_putI (k j : Nat) (S : CallFix p m c cc nL s args TB own) (hw : Wd G N K ad M s H locs) (hk : k < N) {ci : Nat} {fl : List (Option Nat)} (hsh : shp k = (3, ci, fl)) (hfl : fl[j]? = some none) {Cn : String} {T : u_T} {NN : Nat} (hcl : vwCl[ci]? = some (Cn, T, NN)) (hin : ∀ w ∈ u_ws Cn T NN, w ∈ TB) {ty0 : Nat → FieldType} (hty : ∀ k, k < NN → parseFieldDescriptor (T k).2.2.1 = some (ty0 k)) (hnm : ∀ a, a < NN → ∀ b, b < NN → a ≠ b → (T a).2.1 ≠ (T b).2.1) (hj : j < NN) (hti : ty0 j = .int) (hfin : (T j).2.2.2 = false) {index : Nat} (hlk : Cond.fieldLink own index (T j).1 (T j).2.1 (T j).2.2.1 ∈ TB) {x : Int32} (hdg : decode cc pc = .ok (.putfield index, 3))
    (kk : ∀ (M1 : Mem) (H1 : Heap) (locs1 : List Loc), M1 = va_up M k (upd (M k) j x) → Wd G N K ad M1 s H1 locs1 → W p l e R s m args below meth c H1 locs1 cells slots Q (F0 m (pc + 3) ls rest)) : W p l e R s m args below meth c H locs cells slots Q (F0 m pc ls (.int x :: .ref (ad k) :: rest)) :=
  m_putI k j S hw hk hsh hfl hcl hin hty hnm hj hti hfin hlk hdg (fun H1 locs1 h => kk _ H1 locs1 rfl h)
theorem n_ast (k j : Nat) (S : CallFix p m c cc nL s args TB own) (hw : Wd G N K ad M s H locs) (hk : k < N) {n : Nat} (hsh : shp k = (0, n, [])) (hn : n < 2 ^ 31) (hj : j < n) {i x : Int32} (hi : i = nI j) (hdg : decode cc pc = .ok (.iastore, 1))
    (kk : ∀ (M1 : Mem) (H1 : Heap) (locs1 : List Loc), M1 = va_up M k (upd (M k) j x) → Wd G N K ad M1 s H1 locs1 → W p l e R s m args below meth c H1 locs1 cells slots Q (F0 m (pc + 1) ls rest)) : W p l e R s m args below meth c H locs cells slots Q (F0 m pc ls (.int x :: .int i :: .ref (ad k) :: rest)) :=
  m_ast k j S hw hk hsh hn hj hi hdg (fun H1 locs1 h => kk _ H1 locs1 rfl h)
theorem n_zst (k j : Nat) (S : CallFix p m c cc nL s args TB own) (hw : Wd G N K ad M s H locs) (hk : k < N) {n : Nat} (hsh : shp k = (1, n, [])) (hn : n < 2 ^ 31) (hj : j < n) {i x : Int32} (hi : i = nI j) (hx : vp_nar .boolean x = x) (hdg : decode cc pc = .ok (.bastore, 1))
    (kk : ∀ (M1 : Mem) (H1 : Heap) (locs1 : List Loc), M1 = va_up M k (upd (M k) j x) → Wd G N K ad M1 s H1 locs1 → W p l e R s m args below meth c H1 locs1 cells slots Q (F0 m (pc + 1) ls rest)) : W p l e R s m args below meth c H locs cells slots Q (F0 m pc ls (.int x :: .int i :: .ref (ad k) :: rest)) :=
  m_zst k j S hw hk hsh hn hj hi hx hdg (fun H1 locs1 h => kk _ H1 locs1 rfl h)
theorem n_cpy (k0 k1 sp dp n : Nat) {index : Nat} (S : CallFix p m c cc nL s args TB own) (hls : ls.size = nL) (hlk : Cond.methodLink own index arraycopyName ∈ TB) (hw : Wd G N K ad M s H locs) (hk0 : k0 < N) (hk1 : k1 < N) {n0 n1 : Nat} (hs0 : shp k0 = (0, n0, [])) (hs1 : shp k1 = (0, n1, [])) (hn0 : n0 < 2 ^ 31) (hn1 : n1 < 2 ^ 31) {isp idp i : Int32} (h1 : isp = nI sp) (h2 : idp = nI dp) (h3 : i = nI n) (h4 : sp + n ≤ n0) (h5 : dp + n ≤ n1)
    (hframes : 1 ≤ R.frames) (hlocals : (rest.map fun v => v.category).sum + (nativeFrameWords "java/lang/System" "arraycopy" 5 + 11) ≤ R.locals) (hdg : decode cc pc = .ok (.invokestatic index, 3))
    (kk : ∀ (M1 : Mem) (H1 : Heap) (locs1 : List Loc), M1 = va_up M k1 (va_cpy (M k0) (M k1) sp dp n) → Wd G N K ad M1 s H1 locs1 → W p l e R s m args below meth c H1 locs1 cells slots Q (F0 m (pc + 3) ls rest)) : W p l e R s m args below meth c H locs cells slots Q (F0 m pc ls (.int i :: .int idp :: .ref (ad k1) :: .int isp :: .ref (ad k0) :: rest)) :=
  m_cpy k0 k1 sp dp n S hls hlk hw hk0 hk1 hs0 hs1 hn0 hn1 h1 h2 h3 h4 h5 hframes hlocals hdg (fun H1 locs1 h => kk _ H1 locs1 rfl h)
/-- branches over numbers -/
theorem n_ge (S : CallFix p m c cc nL s args TB own) {a b : Nat} {off : Int} {tgt : Nat} (ha : a < 2 ^ 31) (hb : b < 2 ^ 31) (hdg : decode cc pc = .ok (.if_icmp .ge off, 3)) (ht : (pc : Int) + off = (tgt : Int)) (kt : b ≤ a → W p l e R s m args below meth c H locs cells slots Q (F0 m tgt ls rest)) (kf : a < b → W p l e R s m args below meth c H locs cells slots Q (F0 m (pc + 3) ls rest)) : W p l e R s m args below meth c H locs cells slots Q (F0 m pc ls (.int (nI b) :: .int (nI a) :: rest)) :=
  lv_icmp_ge S.1 S.2.1 hdg ht (fun h => kt ((nI_leI hb ha).mp h)) (fun h => kf (Nat.not_le.mp fun z => h ((nI_leI hb ha).mpr z)))
theorem n_lt (S : CallFix p m c cc nL s args TB own) {a b : Nat} {off : Int} {tgt : Nat} (ha : a < 2 ^ 31) (hb : b < 2 ^ 31) (hdg : decode cc pc = .ok (.if_icmp .lt off, 3)) (ht : (pc : Int) + off = (tgt : Int)) (kt : a < b → W p l e R s m args below meth c H locs cells slots Q (F0 m tgt ls rest)) (kf : b ≤ a → W p l e R s m args below meth c H locs cells slots Q (F0 m (pc + 3) ls rest)) : W p l e R s m args below meth c H locs cells slots Q (F0 m pc ls (.int (nI b) :: .int (nI a) :: rest)) :=
  lv_icmp_lt S.1 S.2.1 hdg ht (fun h => kt ((nI_ltI ha hb).mp h)) (fun h => kf (Nat.not_lt.mp fun z => h ((nI_ltI ha hb).mpr z)))
theorem n_gt (S : CallFix p m c cc nL s args TB own) {a b : Nat} {off : Int} {tgt : Nat} (ha : a < 2 ^ 31) (hb : b < 2 ^ 31) (hdg : decode cc pc = .ok (.if_icmp .gt off, 3)) (ht : (pc : Int) + off = (tgt : Int)) (kt : b < a → W p l e R s m args below meth c H locs cells slots Q (F0 m tgt ls rest)) (kf : a ≤ b → W p l e R s m args below meth c H locs cells slots Q (F0 m (pc + 3) ls rest)) : W p l e R s m args below meth c H locs cells slots Q (F0 m pc ls (.int (nI b) :: .int (nI a) :: rest)) :=
  lv_icmp_gt S.1 S.2.1 hdg ht (fun h => kt ((nI_ltI hb ha).mp h)) (fun h => kf (Nat.not_lt.mp fun z => h ((nI_ltI hb ha).mpr z)))
theorem n_le (S : CallFix p m c cc nL s args TB own) {a b : Nat} {off : Int} {tgt : Nat} (ha : a < 2 ^ 31) (hb : b < 2 ^ 31) (hdg : decode cc pc = .ok (.if_icmp .le off, 3)) (ht : (pc : Int) + off = (tgt : Int)) (kt : a ≤ b → W p l e R s m args below meth c H locs cells slots Q (F0 m tgt ls rest)) (kf : b < a → W p l e R s m args below meth c H locs cells slots Q (F0 m (pc + 3) ls rest)) : W p l e R s m args below meth c H locs cells slots Q (F0 m pc ls (.int (nI b) :: .int (nI a) :: rest)) :=
  lv_icmp_le S.1 S.2.1 hdg ht (fun h => kt ((nI_leI ha hb).mp h)) (fun h => kf (Nat.not_le.mp fun z => h ((nI_leI ha hb).mpr z)))
theorem n_eq (S : CallFix p m c cc nL s args TB own) {a b : Nat} {off : Int} {tgt : Nat} (ha : a < 2 ^ 31) (hb : b < 2 ^ 31) (hdg : decode cc pc = .ok (.if_icmp .eq off, 3)) (ht : (pc : Int) + off = (tgt : Int)) (kt : a = b → W p l e R s m args below meth c H locs cells slots Q (F0 m tgt ls rest)) (kf : a ≠ b → W p l e R s m args below meth c H locs cells slots Q (F0 m (pc + 3) ls rest)) : W p l e R s m args below meth c H locs cells slots Q (F0 m pc ls (.int (nI b) :: .int (nI a) :: rest)) :=
  lv_icmp_eq S.1 S.2.1 hdg ht (fun h => kt ((nI_eq ha hb).mp h)) (fun h => kf (fun z => h ((nI_eq ha hb).mpr z)))
theorem n_ne (S : CallFix p m c cc nL s args TB own) {a b : Nat} {off : Int} {tgt : Nat} (ha : a < 2 ^ 31) (hb : b < 2 ^ 31) (hdg : decode cc pc = .ok (.if_icmp .ne off, 3)) (ht : (pc : Int) + off = (tgt : Int)) (kt : a ≠ b → W p l e R s m args below meth c H locs cells slots Q (F0 m tgt ls rest)) (kf : a = b → W p l e R s m args below meth c H locs cells slots Q (F0 m (pc + 3) ls rest)) : W p l e R s m args below meth c H locs cells slots Q (F0 m pc ls (.int (nI b) :: .int (nI a) :: rest)) :=
  lv_icmp_ne S.1 S.2.1 hdg ht (fun h => kt (fun z => h ((nI_eq ha hb).mpr z))) (fun h => kf ((nI_eq ha hb).mp h))
/-- branches over truths -/
theorem b_eq (S : CallFix p m c cc nL s args TB own) {b : Bool} {off : Int} {tgt : Nat} (hdg : decode cc pc = .ok (.ifCond .eq off, 3)) (ht : (pc : Int) + off = (tgt : Int)) (kt : b = false → W p l e R s m args below meth c H locs cells slots Q (F0 m tgt ls rest)) (kf : b = true → W p l e R s m args below meth c H locs cells slots Q (F0 m (pc + 3) ls rest)) : W p l e R s m args below meth c H locs cells slots Q (F0 m pc ls (.int (b01 b) :: rest)) :=
  lv_if_eq S.1 S.2.1 hdg ht (fun h => kt (b01_0.mp h)) (fun h => kf (by cases b; exact absurd rfl h; rfl))
theorem b_ne (S : CallFix p m c cc nL s args TB own) {b : Bool} {off : Int} {tgt : Nat} (hdg : decode cc pc = .ok (.ifCond .ne off, 3)) (ht : (pc : Int) + off = (tgt : Int)) (kt : b = true → W p l e R s m args below meth c H locs cells slots Q (F0 m tgt ls rest)) (kf : b = false → W p l e R s m args below meth c H locs cells slots Q (F0 m (pc + 3) ls rest)) : W p l e R s m args below meth c H locs cells slots Q (F0 m pc ls (.int (b01 b) :: rest)) :=
  lv_if_ne S.1 S.2.1 hdg ht (fun h => kt (by cases b; exact absurd rfl h; rfl)) (fun h => kf (b01_0.mp h))
end ROWS
/-- contracts of methods that only read -/
abbrev CrI (l : Launch) (G : GT) (N K : Nat) (ad : Nat → Nat) (y : MethodName) (cd : ByteArray) (mL : Nat) (ty : FieldType) (fr lo : Nat) (av : List Value) (M : Mem) (v : Int32) : Prop := CmI l G N K ad y cd mL ty fr lo av M (fun r M' => r = v ∧ M' = M)
section ROWS2
variable {p : Program} {l : Launch} {e : Env} {R : Room} {s : State} {m : MethodId} {args : Array Value} {below : List Frame} {meth : Method} {c : Code} {H : Heap} {locs : List Loc} {cells slots : Nat} {Q : State → Prop}
variable {cc : ByteArray} {pc nL : Nat} {ls : Array Slot} {rest st0 : List Value} {own : String} {G : GT} {N K : Nat} {ad : Nat → Nat} {M : Mem}
theorem r_VI (k : Nat) {y : MethodName} {cd : ByteArray} {mL fr lo index : Nat} {ty : FieldType} {As : List Value} {v : Int32} (S : CallFix p m c cc nL s args TB own) (hw : Wd G N K ad M s H locs) (hk : k < N) {ci : Nat} {fl : List (Option Nat)} (hsh : shp k = (3, ci, fl)) {Cn : String} {T : u_T} {NN : Nat} (hcl : vwCl[ci]? = some (Cn, T, NN)) (hM : CrI l G N K ad y cd mL ty fr lo (.ref (ad k) :: As) M v)
    (mf : MFv y cd mL (some ty) Cn As.length) (hlk : Cond.methodLink own index y ∈ TB) (hR : fr + 1 ≤ R.frames ∧ 8 + (mL + 11) + lo ≤ R.locals) (hcs : cells ≤ R.cells ∧ slots ≤ R.slots) (hls : ls.size = nL) (hst : st0 = As.reverse ++ .ref (ad k) :: rest) (hrest : (rest.map fun v => v.category).sum ≤ 8) (hdg : decode cc pc = .ok (.invokevirtual index, 3))
    (kk : ∀ (H1 : Heap) (locs1 : List Loc), Wd G N K ad M s H1 locs1 → W p l e R s m args below meth c H1 locs1 cells slots Q (F0 m (pc + 3) ls (.int v :: rest))) : W p l e R s m args below meth c H locs cells slots Q (F0 m pc ls st0) :=
  m_VI k S hw hk hsh hcl hM mf hlk hR hcs hls hst hrest hdg (fun r M1 H1 locs1 hp h => by rw [hp.1]; rw [hp.2] at h; exact kk H1 locs1 h)
theorem r_SI {y : MethodName} {cd : ByteArray} {mL fr lo index : Nat} {ty : FieldType} {As : List Value} {v : Int32} (S : CallFix p m c cc nL s args TB own) (hw : Wd G N K ad M s H locs) (hM : CrI l G N K ad y cd mL ty fr lo As M v)
    (mf : MFs y cd mL (some ty) As.length) (hlk : Cond.methodLink own index y ∈ TB) (hR : fr + 1 ≤ R.frames ∧ 8 + (mL + 11) + lo ≤ R.locals) (hcs : cells ≤ R.cells ∧ slots ≤ R.slots) (hls : ls.size = nL) (hst : st0 = As.reverse ++ rest) (hrest : (rest.map fun v => v.category).sum ≤ 8) (hdg : decode cc pc = .ok (.invokestatic index, 3))
    (kk : ∀ (H1 : Heap) (locs1 : List Loc), Wd G N K ad M s H1 locs1 → W p l e R s m args below meth c H1 locs1 cells slots Q (F0 m (pc + 3) ls (.int v :: rest))) : W p l e R s m args below meth c H locs cells slots Q (F0 m pc ls st0) :=
  m_SI S hw hM mf hlk hR hcs hls hst hrest hdg (fun r M1 H1 locs1 hp h => by rw [hp.1]; rw [hp.2] at h; exact kk H1 locs1 h)
theorem r_NI {y : MethodName} {cd : ByteArray} {mL fr lo index : Nat} {ty : FieldType} {As : List Value} {v : Int32} (S : CallFix p m c cc nL s args TB own) (hw : Wd G N K ad M s H locs) (hM : CrI l G N K ad y cd mL ty fr lo As M v)
    (mf : MFs y cd mL (some ty) As.length) (hlk : (own, index, y) ∈ nests) (hR : fr + 1 ≤ R.frames ∧ 8 + (mL + 11) + lo ≤ R.locals) (hcs : cells ≤ R.cells ∧ slots ≤ R.slots) (hls : ls.size = nL) (hst : st0 = As.reverse ++ rest) (hrest : (rest.map fun v => v.category).sum ≤ 8) (hdg : decode cc pc = .ok (.invokestatic index, 3))
    (kk : ∀ (H1 : Heap) (locs1 : List Loc), Wd G N K ad M s H1 locs1 → W p l e R s m args below meth c H1 locs1 cells slots Q (F0 m (pc + 3) ls (.int v :: rest))) : W p l e R s m args below meth c H locs cells slots Q (F0 m pc ls st0) :=
  m_NI S hw hM mf hlk hR hcs hls hst hrest hdg (fun r M1 H1 locs1 hp h => by rw [hp.1]; rw [hp.2] at h; exact kk H1 locs1 h)
end ROWS2
theorem IsM.s0 {N K mb : Nat} (h : IsM N K mb) : shp mb = (3, 1, [none, none, none, some (mb + 1), some (mb + 6), some (mb + 11), some (mb + 12)]) := h.sh 0 (by decide)
theorem IsM.s1 {N K mb : Nat} (h : IsM N K mb) : shp (mb + 1) = (3, 2, [none, some (mb + 2), some (mb + 3), some (mb + 4), some (mb + 5)]) := h.sh 1 (by decide)
theorem IsM.s2 {N K mb : Nat} (h : IsM N K mb) : shp (mb + 2) = (0, 120, []) := h.sh 2 (by decide)
theorem IsM.s3 {N K mb : Nat} (h : IsM N K mb) : shp (mb + 3) = (0, 120, []) := h.sh 3 (by decide)
theorem IsM.s4 {N K mb : Nat} (h : IsM N K mb) : shp (mb + 4) = (0, 120, []) := h.sh 4 (by decide)
theorem IsM.s5 {N K mb : Nat} (h : IsM N K mb) : shp (mb + 5) = (0, 120, []) := h.sh 5 (by decide)
theorem IsM.s6 {N K mb : Nat} (h : IsM N K mb) : shp (mb + 6) = (3, 4, [some (mb + 7), some (mb + 8), some (mb + 9), some (mb + 10)]) := h.sh 6 (by decide)
theorem IsM.s7 {N K mb : Nat} (h : IsM N K mb) : shp (mb + 7) = (0, 48, []) := h.sh 7 (by decide)
theorem IsM.s8 {N K mb : Nat} (h : IsM N K mb) : shp (mb + 8) = (0, 48, []) := h.sh 8 (by decide)
theorem IsM.s9 {N K mb : Nat} (h : IsM N K mb) : shp (mb + 9) = (0, 48, []) := h.sh 9 (by decide)
theorem IsM.s10 {N K mb : Nat} (h : IsM N K mb) : shp (mb + 10) = (0, 6, []) := h.sh 10 (by decide)
theorem IsM.s11 {N K mb : Nat} (h : IsM N K mb) : shp (mb + 11) = (0, 200, []) := h.sh 11 (by decide)
theorem IsM.s12 {N K mb : Nat} (h : IsM N K mb) : shp (mb + 12) = (0, 20, []) := h.sh 12 (by decide)
