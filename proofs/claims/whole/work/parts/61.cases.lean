/-! THE LAW'S CASES: a call of the class, the same call of the reference, the answers are one -/
def Keep (M M1 : Mem) : Prop := ∀ k, 34 ≤ k → k < 61 → M1 k = M k
theorem Dec1.kp {c : Bool} {X : Prop} {M M1 : Mem} {r z : Int32} (h : Dec1 c (r = z ∧ M1 = M) X) (f : X → Keep M M1) : Keep M M1 := by
  rcases h with ⟨-, -, rfl⟩ | ⟨-, h⟩
  · exact fun _ _ _ => rfl
  · exact f h
/-- at a case: the machine, the script, the world, the law's numbers, room -/
def LA (p : Program) (s : State) (m : MethodId) (c : Code) (G : GT) (b L i : Nat) (xs : Nat → Int32) (cells slots : Nat) : Prop := CallFix p m c cL_law 4 s #[Value.ref b] TB RL ∧ va_X b L xs s s.heap ∧ b < s.heap.size ∧ (¬ (fun q : Nat => G.1 ≤ q) b) ∧ 6 * i + 5 < L ∧ L ≤ 3072 ∧ cells + 26 ≤ 600000 ∧ slots + 1732 ≤ 7302250
abbrev LL (ls : Array Slot) (b i : Nat) (ad : Nat → Nat) : Prop := lv_has ls 4 [(0, .ref b), (1, .ref (ad 0)), (2, .ref (ad 34)), (3, .int (nI (6 * i)))]
/-- what follows a case -/
def LK (p : Program) (l : Launch) (e : Env) (s : State) (m : MethodId) (below : List Frame) (meth : Method) (c : Code) (G : GT) (b i cells slots : Nat) (Q : State → Prop) (ls : Array Slot) : Prop := ∀ (K1 : Nat) (ad1 : Nat → Nat) (M1 : Mem) (H1 : Heap) (locs1 : List Loc), Inv (1000 * i + 1000) K1 M1 → Wd G (61 + 13 * K1) K1 ad1 M1 s H1 locs1 → LL ls b i ad1 → W p l e room_1 s m #[Value.ref b] below meth c H1 locs1 (cells + 26) (slots + 1732) Q (F0 m 791 ls [])

section LAW
variable {p : Program} {l : Launch} {e : Env} {s : State} {m : MethodId} {below : List Frame} {meth : Method} {c : Code} {H : Heap} {locs : List Loc} {cells slots : Nat} {Q : State → Prop} {ls : Array Slot} {G : GT} {K : Nat} {ad : Nat → Nat} {M : Mem} {b L i : Nat} {xs : Nat → Int32}

set_option maxHeartbeats 4000000 in
set_option maxRecDepth 100000 in
theorem lc_line (hA : LA p s m c G b L i xs cells slots) (hw : Wd G (61 + 13 * K) K ad M s H locs) (hl : LL ls b i ad) (hI : Inv (1000 * i) K M) (kk : LK p l e s m below meth c G b i cells slots Q ls) : W p l e room_1 s m #[Value.ref b] below meth c H locs cells slots Q (F0 m 124 ls []) := by
  obtain ⟨S, hX, hbl, hbA, hi, hL, hcc, hss⟩ := hA
  obtain ⟨P, D, n, b0, Wn, h⟩ := hI
  obtain ⟨t, htB, ht0, hAt, hTr⟩ := h.att (by omega)
  obtain ⟨hP0, hPK, hPb, hD, hD6, hn, hn1, hbn, hbn1, ht, ht30, hWn, hW20, hpl, hrt, hz2, hvr, hwt⟩ := id hAt
  obtain ⟨hP0', hP200, hD', -, hn', -, hbn', -, ht', -, hWn', -, hpl', hrt', hvr', hwt'⟩ := id hTr
  have hcs : cells ≤ room_1.cells ∧ slots ≤ room_1.slots := ⟨Nat.le_trans (Nat.le_add_right _ 26) hcc, Nat.le_trans (Nat.le_add_right _ 1732) hss⟩
  obtain ⟨x1, ex1⟩ : ∃ x, xs (nI (6 * i + 1)).toNatClampNeg = x := ⟨_, rfl⟩
  refine lv_aload_n S.1 S.2.1 dL_law_124 rfl (lv_at hl 1 rfl) ?_
  refine lv_aload_n S.1 S.2.1 dL_law_125 rfl (lv_at hl 0 rfl) ?_
  refine lv_iload_n S.1 S.2.1 dL_law_126 rfl (lv_at hl 3 rfl) ?_
  refine lv_iconst (v := nI 1) S.1 S.2.1 dL_law_127 (by decide) ?_
  refine lv_iadd S.1 S.2.1 dL_law_128 ?_
  refine m_top (nI_add (6 * i) 1) ?_
  refine va_sld S.1 S.2.1 hX hbl hbA hw.2.2.1 (vp_in_nI (by omega) (by omega)) dL_law_129 ?_
  refine m_top ex1 ?_
  refine m_VI (As := [.int x1]) (rest := []) 0 S hw (by omega) rfl rfl (c_X7_line l G (61 + 13 * K) K ad M (by omega)  x1) mf_X7_line wm_L_13 ⟨by decide, by decide⟩ hcs hl.1 rfl (Nat.le_of_ble_eq_true rfl) dL_law_130 (fun r1 M1 H locs hp1 hw => ?_)
  have e1 : Keep M M1 := Dec1.kp hp1 (fun h9 k h1 h2 => h9.2.2.2.2.2.2.2.2.2.2.2.2.2.2.2.2.2.2.2.2.2.2.2 k (by omega))
  refine lv_aload_n S.1 S.2.1 dL_law_133 rfl (lv_at hl 2 rfl) ?_
  refine lv_aload_n S.1 S.2.1 dL_law_134 rfl (lv_at hl 0 rfl) ?_
  refine lv_iload_n S.1 S.2.1 dL_law_135 rfl (lv_at hl 3 rfl) ?_
  refine lv_iconst (v := nI 1) S.1 S.2.1 dL_law_136 (by decide) ?_
  refine lv_iadd S.1 S.2.1 dL_law_137 ?_
  refine m_top (nI_add (6 * i) 1) ?_
  refine va_sld S.1 S.2.1 hX hbl hbA hw.2.2.1 (vp_in_nI (by omega) (by omega)) dL_law_138 ?_
  refine m_top ex1 ?_
  refine m_VI (As := [.int x1]) (rest := [.int r1]) 34 S hw (by omega) rfl rfl (c_X8_line l G (61 + 13 * K) K ad M1 (by omega)  x1) mf_X8_line wm_L_17 ⟨by decide, by decide⟩ hcs hl.1 rfl (Nat.le_of_ble_eq_true rfl) dL_law_139 (fun r2 M2 H locs hp2 hw => ?_)
  have hst := (st_line h hp1 hp2)
  refine lv_icmp_eq (tgt := 791) S.1 S.2.1 dL_law_142 (by decide) (fun _ => ?_) (fun c9 => absurd hst.1 c9)
  exact W.widen (by omega) (by omega) (kk K ad M2 _ _ hst.2 hw hl)

set_option maxHeartbeats 4000000 in
set_option maxRecDepth 100000 in
theorem lc_door (hA : LA p s m c G b L i xs cells slots) (hw : Wd G (61 + 13 * K) K ad M s H locs) (hl : LL ls b i ad) (hI : Inv (1000 * i) K M) (kk : LK p l e s m below meth c G b i cells slots Q ls) : W p l e room_1 s m #[Value.ref b] below meth c H locs cells slots Q (F0 m 147 ls []) := by
  obtain ⟨S, hX, hbl, hbA, hi, hL, hcc, hss⟩ := hA
  obtain ⟨P, D, n, b0, Wn, h⟩ := hI
  obtain ⟨t, htB, ht0, hAt, hTr⟩ := h.att (by omega)
  obtain ⟨hP0, hPK, hPb, hD, hD6, hn, hn1, hbn, hbn1, ht, ht30, hWn, hW20, hpl, hrt, hz2, hvr, hwt⟩ := id hAt
  obtain ⟨hP0', hP200, hD', -, hn', -, hbn', -, ht', -, hWn', -, hpl', hrt', hvr', hwt'⟩ := id hTr
  have hcs : cells ≤ room_1.cells ∧ slots ≤ room_1.slots := ⟨Nat.le_trans (Nat.le_add_right _ 26) hcc, Nat.le_trans (Nat.le_add_right _ 1732) hss⟩
  obtain ⟨x1, ex1⟩ : ∃ x, xs (nI (6 * i + 1)).toNatClampNeg = x := ⟨_, rfl⟩
  refine lv_aload_n S.1 S.2.1 dL_law_147 rfl (lv_at hl 1 rfl) ?_
  refine lv_aload_n S.1 S.2.1 dL_law_148 rfl (lv_at hl 0 rfl) ?_
  refine lv_iload_n S.1 S.2.1 dL_law_149 rfl (lv_at hl 3 rfl) ?_
  refine lv_iconst (v := nI 1) S.1 S.2.1 dL_law_150 (by decide) ?_
  refine lv_iadd S.1 S.2.1 dL_law_151 ?_
  refine m_top (nI_add (6 * i) 1) ?_
  refine va_sld S.1 S.2.1 hX hbl hbA hw.2.2.1 (vp_in_nI (by omega) (by omega)) dL_law_152 ?_
  refine m_top ex1 ?_
  refine m_VI (As := [.int x1]) (rest := []) 0 S hw (by omega) rfl rfl (c_X7_door l G (61 + 13 * K) K ad M (by omega) D hD hD6 n hn hn1 x1) mf_X7_door wm_L_18 ⟨by decide, by decide⟩ hcs hl.1 rfl (Nat.le_of_ble_eq_true rfl) dL_law_153 (fun r1 M1 H locs hp1 hw => ?_)
  have e1 : Keep M M1 := Dec1.kp hp1 (fun h9 => Dec1.kp h9 (fun h9 => Dec1.kp h9 (fun h9 k h1 h2 => h9.2.2.2.2.2.2.2.2 k (by omega))))
  refine lv_aload_n S.1 S.2.1 dL_law_156 rfl (lv_at hl 2 rfl) ?_
  refine lv_aload_n S.1 S.2.1 dL_law_157 rfl (lv_at hl 0 rfl) ?_
  refine lv_iload_n S.1 S.2.1 dL_law_158 rfl (lv_at hl 3 rfl) ?_
  refine lv_iconst (v := nI 1) S.1 S.2.1 dL_law_159 (by decide) ?_
  refine lv_iadd S.1 S.2.1 dL_law_160 ?_
  refine m_top (nI_add (6 * i) 1) ?_
  refine va_sld S.1 S.2.1 hX hbl hbA hw.2.2.1 (vp_in_nI (by omega) (by omega)) dL_law_161 ?_
  refine m_top ex1 ?_
  refine m_VI (As := [.int x1]) (rest := [.int r1]) 34 S hw (by omega) rfl rfl (c_X8_door l G (61 + 13 * K) K ad M1 (by omega) D (by rw [e1 34 (by decide) (by decide)]; exact hD') hD6 n (by rw [e1 34 (by decide) (by decide)]; exact hn') hn1 x1) mf_X8_door wm_L_21 ⟨by decide, by decide⟩ hcs hl.1 rfl (Nat.le_of_ble_eq_true rfl) dL_law_162 (fun r2 M2 H locs hp2 hw => ?_)
  have hst := (st_door h hp1 hp2)
  refine lv_icmp_eq (tgt := 791) S.1 S.2.1 dL_law_165 (by decide) (fun _ => ?_) (fun c9 => absurd hst.1 c9)
  exact W.widen (by omega) (by omega) (kk K ad M2 _ _ hst.2 hw hl)

set_option maxHeartbeats 4000000 in
set_option maxRecDepth 100000 in
theorem lc_tank (hA : LA p s m c G b L i xs cells slots) (hw : Wd G (61 + 13 * K) K ad M s H locs) (hl : LL ls b i ad) (hI : Inv (1000 * i) K M) (kk : LK p l e s m below meth c G b i cells slots Q ls) : W p l e room_1 s m #[Value.ref b] below meth c H locs cells slots Q (F0 m 170 ls []) := by
  obtain ⟨S, hX, hbl, hbA, hi, hL, hcc, hss⟩ := hA
  obtain ⟨P, D, n, b0, Wn, h⟩ := hI
  obtain ⟨t, htB, ht0, hAt, hTr⟩ := h.att (by omega)
  obtain ⟨hP0, hPK, hPb, hD, hD6, hn, hn1, hbn, hbn1, ht, ht30, hWn, hW20, hpl, hrt, hz2, hvr, hwt⟩ := id hAt
  obtain ⟨hP0', hP200, hD', -, hn', -, hbn', -, ht', -, hWn', -, hpl', hrt', hvr', hwt'⟩ := id hTr
  have hcs : cells ≤ room_1.cells ∧ slots ≤ room_1.slots := ⟨Nat.le_trans (Nat.le_add_right _ 26) hcc, Nat.le_trans (Nat.le_add_right _ 1732) hss⟩
  obtain ⟨x1, ex1⟩ : ∃ x, xs (nI (6 * i + 1)).toNatClampNeg = x := ⟨_, rfl⟩
  obtain ⟨x2, ex2⟩ : ∃ x, xs (nI (6 * i + 2)).toNatClampNeg = x := ⟨_, rfl⟩
  obtain ⟨x3, ex3⟩ : ∃ x, xs (nI (6 * i + 3)).toNatClampNeg = x := ⟨_, rfl⟩
  obtain ⟨x4, ex4⟩ : ∃ x, xs (nI (6 * i + 4)).toNatClampNeg = x := ⟨_, rfl⟩
  obtain ⟨x5, ex5⟩ : ∃ x, xs (nI (6 * i + 5)).toNatClampNeg = x := ⟨_, rfl⟩
  refine lv_aload_n S.1 S.2.1 dL_law_170 rfl (lv_at hl 1 rfl) ?_
  refine lv_aload_n S.1 S.2.1 dL_law_171 rfl (lv_at hl 0 rfl) ?_
  refine lv_iload_n S.1 S.2.1 dL_law_172 rfl (lv_at hl 3 rfl) ?_
  refine lv_iconst (v := nI 1) S.1 S.2.1 dL_law_173 (by decide) ?_
  refine lv_iadd S.1 S.2.1 dL_law_174 ?_
  refine m_top (nI_add (6 * i) 1) ?_
  refine va_sld S.1 S.2.1 hX hbl hbA hw.2.2.1 (vp_in_nI (by omega) (by omega)) dL_law_175 ?_
  refine m_top ex1 ?_
  refine lv_aload_n S.1 S.2.1 dL_law_176 rfl (lv_at hl 0 rfl) ?_
  refine lv_iload_n S.1 S.2.1 dL_law_177 rfl (lv_at hl 3 rfl) ?_
  refine lv_iconst (v := nI 2) S.1 S.2.1 dL_law_178 (by decide) ?_
  refine lv_iadd S.1 S.2.1 dL_law_179 ?_
  refine m_top (nI_add (6 * i) 2) ?_
  refine va_sld S.1 S.2.1 hX hbl hbA hw.2.2.1 (vp_in_nI (by omega) (by omega)) dL_law_180 ?_
  refine m_top ex2 ?_
  refine lv_aload_n S.1 S.2.1 dL_law_181 rfl (lv_at hl 0 rfl) ?_
  refine lv_iload_n S.1 S.2.1 dL_law_182 rfl (lv_at hl 3 rfl) ?_
  refine lv_iconst (v := nI 3) S.1 S.2.1 dL_law_183 (by decide) ?_
  refine lv_iadd S.1 S.2.1 dL_law_184 ?_
  refine m_top (nI_add (6 * i) 3) ?_
  refine va_sld S.1 S.2.1 hX hbl hbA hw.2.2.1 (vp_in_nI (by omega) (by omega)) dL_law_185 ?_
  refine m_top ex3 ?_
  refine lv_aload_n S.1 S.2.1 dL_law_186 rfl (lv_at hl 0 rfl) ?_
  refine lv_iload_n S.1 S.2.1 dL_law_187 rfl (lv_at hl 3 rfl) ?_
  refine lv_iconst (v := nI 4) S.1 S.2.1 dL_law_188 (by decide) ?_
  refine lv_iadd S.1 S.2.1 dL_law_189 ?_
  refine m_top (nI_add (6 * i) 4) ?_
  refine va_sld S.1 S.2.1 hX hbl hbA hw.2.2.1 (vp_in_nI (by omega) (by omega)) dL_law_190 ?_
  refine m_top ex4 ?_
  refine lv_aload_n S.1 S.2.1 dL_law_191 rfl (lv_at hl 0 rfl) ?_
  refine lv_iload_n S.1 S.2.1 dL_law_192 rfl (lv_at hl 3 rfl) ?_
  refine lv_iconst (v := nI 5) S.1 S.2.1 dL_law_193 (by decide) ?_
  refine lv_iadd S.1 S.2.1 dL_law_194 ?_
  refine m_top (nI_add (6 * i) 5) ?_
  refine va_sld S.1 S.2.1 hX hbl hbA hw.2.2.1 (vp_in_nI (by omega) (by omega)) dL_law_195 ?_
  refine m_top ex5 ?_
  refine m_VI (As := [.int x1, .int x2, .int x3, .int x4, .int x5]) (rest := []) 0 S hw (by omega) rfl rfl (c_X7_tank l G (61 + 13 * K) K ad M (by omega) D hD hD6 x1 x2 x3 x4 x5) mf_X7_tank wm_L_22 ⟨by decide, by decide⟩ hcs hl.1 rfl (Nat.le_of_ble_eq_true rfl) dL_law_196 (fun r1 M1 H locs hp1 hw => ?_)
  have e1 : Keep M M1 := Dec1.kp hp1 (fun h9 => Dec1.kp h9 (fun h9 => Dec1.kp h9 (fun h9 k h1 h2 => h9.2.2.2.2.2.2.2.2.2.2.2.2 k (by omega))))
  refine lv_aload_n S.1 S.2.1 dL_law_199 rfl (lv_at hl 2 rfl) ?_
  refine lv_aload_n S.1 S.2.1 dL_law_200 rfl (lv_at hl 0 rfl) ?_
  refine lv_iload_n S.1 S.2.1 dL_law_201 rfl (lv_at hl 3 rfl) ?_
  refine lv_iconst (v := nI 1) S.1 S.2.1 dL_law_202 (by decide) ?_
  refine lv_iadd S.1 S.2.1 dL_law_203 ?_
  refine m_top (nI_add (6 * i) 1) ?_
  refine va_sld S.1 S.2.1 hX hbl hbA hw.2.2.1 (vp_in_nI (by omega) (by omega)) dL_law_204 ?_
  refine m_top ex1 ?_
  refine lv_aload_n S.1 S.2.1 dL_law_205 rfl (lv_at hl 0 rfl) ?_
  refine lv_iload_n S.1 S.2.1 dL_law_206 rfl (lv_at hl 3 rfl) ?_
  refine lv_iconst (v := nI 2) S.1 S.2.1 dL_law_207 (by decide) ?_
  refine lv_iadd S.1 S.2.1 dL_law_208 ?_
  refine m_top (nI_add (6 * i) 2) ?_
  refine va_sld S.1 S.2.1 hX hbl hbA hw.2.2.1 (vp_in_nI (by omega) (by omega)) dL_law_209 ?_
  refine m_top ex2 ?_
  refine lv_aload_n S.1 S.2.1 dL_law_210 rfl (lv_at hl 0 rfl) ?_
  refine lv_iload_n S.1 S.2.1 dL_law_211 rfl (lv_at hl 3 rfl) ?_
  refine lv_iconst (v := nI 3) S.1 S.2.1 dL_law_212 (by decide) ?_
  refine lv_iadd S.1 S.2.1 dL_law_213 ?_
  refine m_top (nI_add (6 * i) 3) ?_
  refine va_sld S.1 S.2.1 hX hbl hbA hw.2.2.1 (vp_in_nI (by omega) (by omega)) dL_law_214 ?_
  refine m_top ex3 ?_
  refine lv_aload_n S.1 S.2.1 dL_law_215 rfl (lv_at hl 0 rfl) ?_
  refine lv_iload_n S.1 S.2.1 dL_law_216 rfl (lv_at hl 3 rfl) ?_
  refine lv_iconst (v := nI 4) S.1 S.2.1 dL_law_217 (by decide) ?_
  refine lv_iadd S.1 S.2.1 dL_law_218 ?_
  refine m_top (nI_add (6 * i) 4) ?_
  refine va_sld S.1 S.2.1 hX hbl hbA hw.2.2.1 (vp_in_nI (by omega) (by omega)) dL_law_219 ?_
  refine m_top ex4 ?_
  refine lv_aload_n S.1 S.2.1 dL_law_220 rfl (lv_at hl 0 rfl) ?_
  refine lv_iload_n S.1 S.2.1 dL_law_221 rfl (lv_at hl 3 rfl) ?_
  refine lv_iconst (v := nI 5) S.1 S.2.1 dL_law_222 (by decide) ?_
  refine lv_iadd S.1 S.2.1 dL_law_223 ?_
  refine m_top (nI_add (6 * i) 5) ?_
  refine va_sld S.1 S.2.1 hX hbl hbA hw.2.2.1 (vp_in_nI (by omega) (by omega)) dL_law_224 ?_
  refine m_top ex5 ?_
  refine m_VI (As := [.int x1, .int x2, .int x3, .int x4, .int x5]) (rest := [.int r1]) 34 S hw (by omega) rfl rfl (c_X8_tank l G (61 + 13 * K) K ad M1 (by omega) D (by rw [e1 34 (by decide) (by decide)]; exact hD') hD6 x1 x2 x3 x4 x5) mf_X8_tank wm_L_26 ⟨by decide, by decide⟩ hcs hl.1 rfl (Nat.le_of_ble_eq_true rfl) dL_law_225 (fun r2 M2 H locs hp2 hw => ?_)
  have hst := (st_tank h hp1 hp2)
  refine lv_icmp_eq (tgt := 791) S.1 S.2.1 dL_law_228 (by decide) (fun _ => ?_) (fun c9 => absurd hst.1 c9)
  exact W.widen (by omega) (by omega) (kk K ad M2 _ _ hst.2 hw hl)

set_option maxHeartbeats 4000000 in
set_option maxRecDepth 100000 in
theorem lc_follow (hA : LA p s m c G b L i xs cells slots) (hw : Wd G (61 + 13 * K) K ad M s H locs) (hl : LL ls b i ad) (hI : Inv (1000 * i) K M) (kk : LK p l e s m below meth c G b i cells slots Q ls) : W p l e room_1 s m #[Value.ref b] below meth c H locs cells slots Q (F0 m 233 ls []) := by
  obtain ⟨S, hX, hbl, hbA, hi, hL, hcc, hss⟩ := hA
  obtain ⟨P, D, n, b0, Wn, h⟩ := hI
  obtain ⟨t, htB, ht0, hAt, hTr⟩ := h.att (by omega)
  obtain ⟨hP0, hPK, hPb, hD, hD6, hn, hn1, hbn, hbn1, ht, ht30, hWn, hW20, hpl, hrt, hz2, hvr, hwt⟩ := id hAt
  obtain ⟨hP0', hP200, hD', -, hn', -, hbn', -, ht', -, hWn', -, hpl', hrt', hvr', hwt'⟩ := id hTr
  have hcs : cells ≤ room_1.cells ∧ slots ≤ room_1.slots := ⟨Nat.le_trans (Nat.le_add_right _ 26) hcc, Nat.le_trans (Nat.le_add_right _ 1732) hss⟩
  obtain ⟨x1, ex1⟩ : ∃ x, xs (nI (6 * i + 1)).toNatClampNeg = x := ⟨_, rfl⟩
  obtain ⟨x2, ex2⟩ : ∃ x, xs (nI (6 * i + 2)).toNatClampNeg = x := ⟨_, rfl⟩
  obtain ⟨x3, ex3⟩ : ∃ x, xs (nI (6 * i + 3)).toNatClampNeg = x := ⟨_, rfl⟩
  obtain ⟨x4, ex4⟩ : ∃ x, xs (nI (6 * i + 4)).toNatClampNeg = x := ⟨_, rfl⟩
  refine lv_aload_n S.1 S.2.1 dL_law_233 rfl (lv_at hl 1 rfl) ?_
  refine lv_aload_n S.1 S.2.1 dL_law_234 rfl (lv_at hl 0 rfl) ?_
  refine lv_iload_n S.1 S.2.1 dL_law_235 rfl (lv_at hl 3 rfl) ?_
  refine lv_iconst (v := nI 1) S.1 S.2.1 dL_law_236 (by decide) ?_
  refine lv_iadd S.1 S.2.1 dL_law_237 ?_
  refine m_top (nI_add (6 * i) 1) ?_
  refine va_sld S.1 S.2.1 hX hbl hbA hw.2.2.1 (vp_in_nI (by omega) (by omega)) dL_law_238 ?_
  refine m_top ex1 ?_
  refine lv_aload_n S.1 S.2.1 dL_law_239 rfl (lv_at hl 0 rfl) ?_
  refine lv_iload_n S.1 S.2.1 dL_law_240 rfl (lv_at hl 3 rfl) ?_
  refine lv_iconst (v := nI 2) S.1 S.2.1 dL_law_241 (by decide) ?_
  refine lv_iadd S.1 S.2.1 dL_law_242 ?_
  refine m_top (nI_add (6 * i) 2) ?_
  refine va_sld S.1 S.2.1 hX hbl hbA hw.2.2.1 (vp_in_nI (by omega) (by omega)) dL_law_243 ?_
  refine m_top ex2 ?_
  refine lv_aload_n S.1 S.2.1 dL_law_244 rfl (lv_at hl 0 rfl) ?_
  refine lv_iload_n S.1 S.2.1 dL_law_245 rfl (lv_at hl 3 rfl) ?_
  refine lv_iconst (v := nI 3) S.1 S.2.1 dL_law_246 (by decide) ?_
  refine lv_iadd S.1 S.2.1 dL_law_247 ?_
  refine m_top (nI_add (6 * i) 3) ?_
  refine va_sld S.1 S.2.1 hX hbl hbA hw.2.2.1 (vp_in_nI (by omega) (by omega)) dL_law_248 ?_
  refine m_top ex3 ?_
  refine lv_aload_n S.1 S.2.1 dL_law_249 rfl (lv_at hl 0 rfl) ?_
  refine lv_iload_n S.1 S.2.1 dL_law_250 rfl (lv_at hl 3 rfl) ?_
  refine lv_iconst (v := nI 4) S.1 S.2.1 dL_law_251 (by decide) ?_
  refine lv_iadd S.1 S.2.1 dL_law_252 ?_
  refine m_top (nI_add (6 * i) 4) ?_
  refine va_sld S.1 S.2.1 hX hbl hbA hw.2.2.1 (vp_in_nI (by omega) (by omega)) dL_law_253 ?_
  refine m_top ex4 ?_
  refine m_VI (As := [.int x1, .int x2, .int x3, .int x4]) (rest := []) 0 S hw (by omega) rfl rfl (c_X7_follow l G (61 + 13 * K) K ad M (by omega)  x1 x2 x3 x4) mf_X7_follow wm_L_27 ⟨by decide, by decide⟩ hcs hl.1 rfl (Nat.le_of_ble_eq_true rfl) dL_law_254 (fun r1 M1 H locs hp1 hw => ?_)
  have e1 : Keep M M1 := Dec1.kp hp1 (fun h9 => Dec1.kp h9 (fun h9 => Dec1.kp h9 (fun h9 k h1 h2 => h9.2.2.2.2.2.2 k (by omega))))
  refine lv_aload_n S.1 S.2.1 dL_law_257 rfl (lv_at hl 2 rfl) ?_
  refine lv_aload_n S.1 S.2.1 dL_law_258 rfl (lv_at hl 0 rfl) ?_
  refine lv_iload_n S.1 S.2.1 dL_law_259 rfl (lv_at hl 3 rfl) ?_
  refine lv_iconst (v := nI 1) S.1 S.2.1 dL_law_260 (by decide) ?_
  refine lv_iadd S.1 S.2.1 dL_law_261 ?_
  refine m_top (nI_add (6 * i) 1) ?_
  refine va_sld S.1 S.2.1 hX hbl hbA hw.2.2.1 (vp_in_nI (by omega) (by omega)) dL_law_262 ?_
  refine m_top ex1 ?_
  refine lv_aload_n S.1 S.2.1 dL_law_263 rfl (lv_at hl 0 rfl) ?_
  refine lv_iload_n S.1 S.2.1 dL_law_264 rfl (lv_at hl 3 rfl) ?_
  refine lv_iconst (v := nI 2) S.1 S.2.1 dL_law_265 (by decide) ?_
  refine lv_iadd S.1 S.2.1 dL_law_266 ?_
  refine m_top (nI_add (6 * i) 2) ?_
  refine va_sld S.1 S.2.1 hX hbl hbA hw.2.2.1 (vp_in_nI (by omega) (by omega)) dL_law_267 ?_
  refine m_top ex2 ?_
  refine lv_aload_n S.1 S.2.1 dL_law_268 rfl (lv_at hl 0 rfl) ?_
  refine lv_iload_n S.1 S.2.1 dL_law_269 rfl (lv_at hl 3 rfl) ?_
  refine lv_iconst (v := nI 3) S.1 S.2.1 dL_law_270 (by decide) ?_
  refine lv_iadd S.1 S.2.1 dL_law_271 ?_
  refine m_top (nI_add (6 * i) 3) ?_
  refine va_sld S.1 S.2.1 hX hbl hbA hw.2.2.1 (vp_in_nI (by omega) (by omega)) dL_law_272 ?_
  refine m_top ex3 ?_
  refine lv_aload_n S.1 S.2.1 dL_law_273 rfl (lv_at hl 0 rfl) ?_
  refine lv_iload_n S.1 S.2.1 dL_law_274 rfl (lv_at hl 3 rfl) ?_
  refine lv_iconst (v := nI 4) S.1 S.2.1 dL_law_275 (by decide) ?_
  refine lv_iadd S.1 S.2.1 dL_law_276 ?_
  refine m_top (nI_add (6 * i) 4) ?_
  refine va_sld S.1 S.2.1 hX hbl hbA hw.2.2.1 (vp_in_nI (by omega) (by omega)) dL_law_277 ?_
  refine m_top ex4 ?_
  refine m_VI (As := [.int x1, .int x2, .int x3, .int x4]) (rest := [.int r1]) 34 S hw (by omega) rfl rfl (c_X8_follow l G (61 + 13 * K) K ad M1 (by omega)  x1 x2 x3 x4) mf_X8_follow wm_L_31 ⟨by decide, by decide⟩ hcs hl.1 rfl (Nat.le_of_ble_eq_true rfl) dL_law_278 (fun r2 M2 H locs hp2 hw => ?_)
  have hst := (st_follow h hp1 hp2)
  refine lv_icmp_eq (tgt := 791) S.1 S.2.1 dL_law_281 (by decide) (fun _ => ?_) (fun c9 => absurd hst.1 c9)
  exact W.widen (by omega) (by omega) (kk K ad M2 _ _ hst.2 hw hl)

set_option maxHeartbeats 4000000 in
set_option maxRecDepth 100000 in
theorem lc_grace (hA : LA p s m c G b L i xs cells slots) (hw : Wd G (61 + 13 * K) K ad M s H locs) (hl : LL ls b i ad) (hI : Inv (1000 * i) K M) (kk : LK p l e s m below meth c G b i cells slots Q ls) : W p l e room_1 s m #[Value.ref b] below meth c H locs cells slots Q (F0 m 286 ls []) := by
  obtain ⟨S, hX, hbl, hbA, hi, hL, hcc, hss⟩ := hA
  obtain ⟨P, D, n, b0, Wn, h⟩ := hI
  obtain ⟨t, htB, ht0, hAt, hTr⟩ := h.att (by omega)
  obtain ⟨hP0, hPK, hPb, hD, hD6, hn, hn1, hbn, hbn1, ht, ht30, hWn, hW20, hpl, hrt, hz2, hvr, hwt⟩ := id hAt
  obtain ⟨hP0', hP200, hD', -, hn', -, hbn', -, ht', -, hWn', -, hpl', hrt', hvr', hwt'⟩ := id hTr
  have hcs : cells ≤ room_1.cells ∧ slots ≤ room_1.slots := ⟨Nat.le_trans (Nat.le_add_right _ 26) hcc, Nat.le_trans (Nat.le_add_right _ 1732) hss⟩
  obtain ⟨x1, ex1⟩ : ∃ x, xs (nI (6 * i + 1)).toNatClampNeg = x := ⟨_, rfl⟩
  obtain ⟨x2, ex2⟩ : ∃ x, xs (nI (6 * i + 2)).toNatClampNeg = x := ⟨_, rfl⟩
  refine lv_aload_n S.1 S.2.1 dL_law_286 rfl (lv_at hl 1 rfl) ?_
  refine lv_aload_n S.1 S.2.1 dL_law_287 rfl (lv_at hl 0 rfl) ?_
  refine lv_iload_n S.1 S.2.1 dL_law_288 rfl (lv_at hl 3 rfl) ?_
  refine lv_iconst (v := nI 1) S.1 S.2.1 dL_law_289 (by decide) ?_
  refine lv_iadd S.1 S.2.1 dL_law_290 ?_
  refine m_top (nI_add (6 * i) 1) ?_
  refine va_sld S.1 S.2.1 hX hbl hbA hw.2.2.1 (vp_in_nI (by omega) (by omega)) dL_law_291 ?_
  refine m_top ex1 ?_
  refine lv_aload_n S.1 S.2.1 dL_law_292 rfl (lv_at hl 0 rfl) ?_
  refine lv_iload_n S.1 S.2.1 dL_law_293 rfl (lv_at hl 3 rfl) ?_
  refine lv_iconst (v := nI 2) S.1 S.2.1 dL_law_294 (by decide) ?_
  refine lv_iadd S.1 S.2.1 dL_law_295 ?_
  refine m_top (nI_add (6 * i) 2) ?_
  refine va_sld S.1 S.2.1 hX hbl hbA hw.2.2.1 (vp_in_nI (by omega) (by omega)) dL_law_296 ?_
  refine m_top ex2 ?_
  refine m_VI (As := [.int x1, .int x2]) (rest := []) 0 S hw (by omega) rfl rfl (c_X7_grace l G (61 + 13 * K) K ad M (by omega)  x1 x2) mf_X7_grace wm_L_32 ⟨by decide, by decide⟩ hcs hl.1 rfl (Nat.le_of_ble_eq_true rfl) dL_law_297 (fun r1 M1 H locs hp1 hw => ?_)
  have e1 : Keep M M1 := Dec1.kp hp1 (fun h9 => Dec1.kp h9 (fun h9 k h1 h2 => h9.2.2.2 k (by omega)))
  refine lv_aload_n S.1 S.2.1 dL_law_300 rfl (lv_at hl 2 rfl) ?_
  refine lv_aload_n S.1 S.2.1 dL_law_301 rfl (lv_at hl 0 rfl) ?_
  refine lv_iload_n S.1 S.2.1 dL_law_302 rfl (lv_at hl 3 rfl) ?_
  refine lv_iconst (v := nI 1) S.1 S.2.1 dL_law_303 (by decide) ?_
  refine lv_iadd S.1 S.2.1 dL_law_304 ?_
  refine m_top (nI_add (6 * i) 1) ?_
  refine va_sld S.1 S.2.1 hX hbl hbA hw.2.2.1 (vp_in_nI (by omega) (by omega)) dL_law_305 ?_
  refine m_top ex1 ?_
  refine lv_aload_n S.1 S.2.1 dL_law_306 rfl (lv_at hl 0 rfl) ?_
  refine lv_iload_n S.1 S.2.1 dL_law_307 rfl (lv_at hl 3 rfl) ?_
  refine lv_iconst (v := nI 2) S.1 S.2.1 dL_law_308 (by decide) ?_
  refine lv_iadd S.1 S.2.1 dL_law_309 ?_
  refine m_top (nI_add (6 * i) 2) ?_
  refine va_sld S.1 S.2.1 hX hbl hbA hw.2.2.1 (vp_in_nI (by omega) (by omega)) dL_law_310 ?_
  refine m_top ex2 ?_
  refine m_VI (As := [.int x1, .int x2]) (rest := [.int r1]) 34 S hw (by omega) rfl rfl (c_X8_grace l G (61 + 13 * K) K ad M1 (by omega)  x1 x2) mf_X8_grace wm_L_36 ⟨by decide, by decide⟩ hcs hl.1 rfl (Nat.le_of_ble_eq_true rfl) dL_law_311 (fun r2 M2 H locs hp2 hw => ?_)
  have hst := (st_grace h hp1 hp2)
  refine lv_icmp_eq (tgt := 791) S.1 S.2.1 dL_law_314 (by decide) (fun _ => ?_) (fun c9 => absurd hst.1 c9)
  exact W.widen (by omega) (by omega) (kk K ad M2 _ _ hst.2 hw hl)

set_option maxHeartbeats 4000000 in
set_option maxRecDepth 100000 in
theorem lc_rate (hA : LA p s m c G b L i xs cells slots) (hw : Wd G (61 + 13 * K) K ad M s H locs) (hl : LL ls b i ad) (hI : Inv (1000 * i) K M) (kk : LK p l e s m below meth c G b i cells slots Q ls) : W p l e room_1 s m #[Value.ref b] below meth c H locs cells slots Q (F0 m 319 ls []) := by
  obtain ⟨S, hX, hbl, hbA, hi, hL, hcc, hss⟩ := hA
  obtain ⟨P, D, n, b0, Wn, h⟩ := hI
  obtain ⟨t, htB, ht0, hAt, hTr⟩ := h.att (by omega)
  obtain ⟨hP0, hPK, hPb, hD, hD6, hn, hn1, hbn, hbn1, ht, ht30, hWn, hW20, hpl, hrt, hz2, hvr, hwt⟩ := id hAt
  obtain ⟨hP0', hP200, hD', -, hn', -, hbn', -, ht', -, hWn', -, hpl', hrt', hvr', hwt'⟩ := id hTr
  have hcs : cells ≤ room_1.cells ∧ slots ≤ room_1.slots := ⟨Nat.le_trans (Nat.le_add_right _ 26) hcc, Nat.le_trans (Nat.le_add_right _ 1732) hss⟩
  obtain ⟨x1, ex1⟩ : ∃ x, xs (nI (6 * i + 1)).toNatClampNeg = x := ⟨_, rfl⟩
  obtain ⟨x2, ex2⟩ : ∃ x, xs (nI (6 * i + 2)).toNatClampNeg = x := ⟨_, rfl⟩
  refine lv_aload_n S.1 S.2.1 dL_law_319 rfl (lv_at hl 1 rfl) ?_
  refine lv_aload_n S.1 S.2.1 dL_law_320 rfl (lv_at hl 0 rfl) ?_
  refine lv_iload_n S.1 S.2.1 dL_law_321 rfl (lv_at hl 3 rfl) ?_
  refine lv_iconst (v := nI 1) S.1 S.2.1 dL_law_322 (by decide) ?_
  refine lv_iadd S.1 S.2.1 dL_law_323 ?_
  refine m_top (nI_add (6 * i) 1) ?_
  refine va_sld S.1 S.2.1 hX hbl hbA hw.2.2.1 (vp_in_nI (by omega) (by omega)) dL_law_324 ?_
  refine m_top ex1 ?_
  refine lv_aload_n S.1 S.2.1 dL_law_325 rfl (lv_at hl 0 rfl) ?_
  refine lv_iload_n S.1 S.2.1 dL_law_326 rfl (lv_at hl 3 rfl) ?_
  refine lv_iconst (v := nI 2) S.1 S.2.1 dL_law_327 (by decide) ?_
  refine lv_iadd S.1 S.2.1 dL_law_328 ?_
  refine m_top (nI_add (6 * i) 2) ?_
  refine va_sld S.1 S.2.1 hX hbl hbA hw.2.2.1 (vp_in_nI (by omega) (by omega)) dL_law_329 ?_
  refine m_top ex2 ?_
  refine m_VI (As := [.int x1, .int x2]) (rest := []) 0 S hw (by omega) rfl rfl (c_X7_rate l G (61 + 13 * K) K ad M (by omega) D hD hD6 x1 x2) mf_X7_rate wm_L_37 ⟨by decide, by decide⟩ hcs hl.1 rfl (Nat.le_of_ble_eq_true rfl) dL_law_330 (fun r1 M1 H locs hp1 hw => ?_)
  have e1 : Keep M M1 := Dec1.kp hp1 (fun h9 => Dec1.kp h9 (fun h9 k h1 h2 => h9.2.2.2 k (by omega)))
  refine lv_aload_n S.1 S.2.1 dL_law_333 rfl (lv_at hl 2 rfl) ?_
  refine lv_aload_n S.1 S.2.1 dL_law_334 rfl (lv_at hl 0 rfl) ?_
  refine lv_iload_n S.1 S.2.1 dL_law_335 rfl (lv_at hl 3 rfl) ?_
  refine lv_iconst (v := nI 1) S.1 S.2.1 dL_law_336 (by decide) ?_
  refine lv_iadd S.1 S.2.1 dL_law_337 ?_
  refine m_top (nI_add (6 * i) 1) ?_
  refine va_sld S.1 S.2.1 hX hbl hbA hw.2.2.1 (vp_in_nI (by omega) (by omega)) dL_law_338 ?_
  refine m_top ex1 ?_
  refine lv_aload_n S.1 S.2.1 dL_law_339 rfl (lv_at hl 0 rfl) ?_
  refine lv_iload_n S.1 S.2.1 dL_law_340 rfl (lv_at hl 3 rfl) ?_
  refine lv_iconst (v := nI 2) S.1 S.2.1 dL_law_341 (by decide) ?_
  refine lv_iadd S.1 S.2.1 dL_law_342 ?_
  refine m_top (nI_add (6 * i) 2) ?_
  refine va_sld S.1 S.2.1 hX hbl hbA hw.2.2.1 (vp_in_nI (by omega) (by omega)) dL_law_343 ?_
  refine m_top ex2 ?_
  refine m_VI (As := [.int x1, .int x2]) (rest := [.int r1]) 34 S hw (by omega) rfl rfl (c_X8_rate l G (61 + 13 * K) K ad M1 (by omega) D (by rw [e1 34 (by decide) (by decide)]; exact hD') hD6 x1 x2) mf_X8_rate wm_L_40 ⟨by decide, by decide⟩ hcs hl.1 rfl (Nat.le_of_ble_eq_true rfl) dL_law_344 (fun r2 M2 H locs hp2 hw => ?_)
  have hst := (st_rate h hp1 hp2)
  refine lv_icmp_eq (tgt := 791) S.1 S.2.1 dL_law_347 (by decide) (fun _ => ?_) (fun c9 => absurd hst.1 c9)
  exact W.widen (by omega) (by omega) (kk K ad M2 _ _ hst.2 hw hl)

set_option maxHeartbeats 4000000 in
set_option maxRecDepth 100000 in
theorem lc_price (hA : LA p s m c G b L i xs cells slots) (hw : Wd G (61 + 13 * K) K ad M s H locs) (hl : LL ls b i ad) (hI : Inv (1000 * i) K M) (kk : LK p l e s m below meth c G b i cells slots Q ls) : W p l e room_1 s m #[Value.ref b] below meth c H locs cells slots Q (F0 m 352 ls []) := by
  obtain ⟨S, hX, hbl, hbA, hi, hL, hcc, hss⟩ := hA
  obtain ⟨P, D, n, b0, Wn, h⟩ := hI
  obtain ⟨t, htB, ht0, hAt, hTr⟩ := h.att (by omega)
  obtain ⟨hP0, hPK, hPb, hD, hD6, hn, hn1, hbn, hbn1, ht, ht30, hWn, hW20, hpl, hrt, hz2, hvr, hwt⟩ := id hAt
  obtain ⟨hP0', hP200, hD', -, hn', -, hbn', -, ht', -, hWn', -, hpl', hrt', hvr', hwt'⟩ := id hTr
  have hcs : cells ≤ room_1.cells ∧ slots ≤ room_1.slots := ⟨Nat.le_trans (Nat.le_add_right _ 26) hcc, Nat.le_trans (Nat.le_add_right _ 1732) hss⟩
  obtain ⟨x1, ex1⟩ : ∃ x, xs (nI (6 * i + 1)).toNatClampNeg = x := ⟨_, rfl⟩
  obtain ⟨x2, ex2⟩ : ∃ x, xs (nI (6 * i + 2)).toNatClampNeg = x := ⟨_, rfl⟩
  refine lv_aload_n S.1 S.2.1 dL_law_352 rfl (lv_at hl 1 rfl) ?_
  refine lv_aload_n S.1 S.2.1 dL_law_353 rfl (lv_at hl 0 rfl) ?_
  refine lv_iload_n S.1 S.2.1 dL_law_354 rfl (lv_at hl 3 rfl) ?_
  refine lv_iconst (v := nI 1) S.1 S.2.1 dL_law_355 (by decide) ?_
  refine lv_iadd S.1 S.2.1 dL_law_356 ?_
  refine m_top (nI_add (6 * i) 1) ?_
  refine va_sld S.1 S.2.1 hX hbl hbA hw.2.2.1 (vp_in_nI (by omega) (by omega)) dL_law_357 ?_
  refine m_top ex1 ?_
  refine lv_aload_n S.1 S.2.1 dL_law_358 rfl (lv_at hl 0 rfl) ?_
  refine lv_iload_n S.1 S.2.1 dL_law_359 rfl (lv_at hl 3 rfl) ?_
  refine lv_iconst (v := nI 2) S.1 S.2.1 dL_law_360 (by decide) ?_
  refine lv_iadd S.1 S.2.1 dL_law_361 ?_
  refine m_top (nI_add (6 * i) 2) ?_
  refine va_sld S.1 S.2.1 hX hbl hbA hw.2.2.1 (vp_in_nI (by omega) (by omega)) dL_law_362 ?_
  refine m_top ex2 ?_
  refine m_VI (As := [.int x1, .int x2]) (rest := []) 0 S hw (by omega) rfl rfl (c_X7_price l G (61 + 13 * K) K ad M (by omega)  x1 x2) mf_X7_price wm_L_41 ⟨by decide, by decide⟩ hcs hl.1 rfl (Nat.le_of_ble_eq_true rfl) dL_law_363 (fun r1 M1 H locs hp1 hw => ?_)
  have e1 : Keep M M1 := Dec1.kp hp1 (fun h9 => Dec1.kp h9 (fun h9 k h1 h2 => h9.2.2.2 k (by omega)))
  refine lv_aload_n S.1 S.2.1 dL_law_366 rfl (lv_at hl 2 rfl) ?_
  refine lv_aload_n S.1 S.2.1 dL_law_367 rfl (lv_at hl 0 rfl) ?_
  refine lv_iload_n S.1 S.2.1 dL_law_368 rfl (lv_at hl 3 rfl) ?_
  refine lv_iconst (v := nI 1) S.1 S.2.1 dL_law_369 (by decide) ?_
  refine lv_iadd S.1 S.2.1 dL_law_370 ?_
  refine m_top (nI_add (6 * i) 1) ?_
  refine va_sld S.1 S.2.1 hX hbl hbA hw.2.2.1 (vp_in_nI (by omega) (by omega)) dL_law_371 ?_
  refine m_top ex1 ?_
  refine lv_aload_n S.1 S.2.1 dL_law_372 rfl (lv_at hl 0 rfl) ?_
  refine lv_iload_n S.1 S.2.1 dL_law_373 rfl (lv_at hl 3 rfl) ?_
  refine lv_iconst (v := nI 2) S.1 S.2.1 dL_law_374 (by decide) ?_
  refine lv_iadd S.1 S.2.1 dL_law_375 ?_
  refine m_top (nI_add (6 * i) 2) ?_
  refine va_sld S.1 S.2.1 hX hbl hbA hw.2.2.1 (vp_in_nI (by omega) (by omega)) dL_law_376 ?_
  refine m_top ex2 ?_
  refine m_VI (As := [.int x1, .int x2]) (rest := [.int r1]) 34 S hw (by omega) rfl rfl (c_X8_price l G (61 + 13 * K) K ad M1 (by omega)  x1 x2) mf_X8_price wm_L_44 ⟨by decide, by decide⟩ hcs hl.1 rfl (Nat.le_of_ble_eq_true rfl) dL_law_377 (fun r2 M2 H locs hp2 hw => ?_)
  have hst := (st_price h hp1 hp2)
  refine lv_icmp_eq (tgt := 791) S.1 S.2.1 dL_law_380 (by decide) (fun _ => ?_) (fun c9 => absurd hst.1 c9)
  exact W.widen (by omega) (by omega) (kk K ad M2 _ _ hst.2 hw hl)

set_option maxHeartbeats 4000000 in
set_option maxRecDepth 100000 in
theorem lc_wish (hA : LA p s m c G b L i xs cells slots) (hw : Wd G (61 + 13 * K) K ad M s H locs) (hl : LL ls b i ad) (hI : Inv (1000 * i) K M) (kk : LK p l e s m below meth c G b i cells slots Q ls) : W p l e room_1 s m #[Value.ref b] below meth c H locs cells slots Q (F0 m 385 ls []) := by
  obtain ⟨S, hX, hbl, hbA, hi, hL, hcc, hss⟩ := hA
  obtain ⟨P, D, n, b0, Wn, h⟩ := hI
  obtain ⟨t, htB, ht0, hAt, hTr⟩ := h.att (by omega)
  obtain ⟨hP0, hPK, hPb, hD, hD6, hn, hn1, hbn, hbn1, ht, ht30, hWn, hW20, hpl, hrt, hz2, hvr, hwt⟩ := id hAt
  obtain ⟨hP0', hP200, hD', -, hn', -, hbn', -, ht', -, hWn', -, hpl', hrt', hvr', hwt'⟩ := id hTr
  have hcs : cells ≤ room_1.cells ∧ slots ≤ room_1.slots := ⟨Nat.le_trans (Nat.le_add_right _ 26) hcc, Nat.le_trans (Nat.le_add_right _ 1732) hss⟩
  obtain ⟨x1, ex1⟩ : ∃ x, xs (nI (6 * i + 1)).toNatClampNeg = x := ⟨_, rfl⟩
  obtain ⟨x2, ex2⟩ : ∃ x, xs (nI (6 * i + 2)).toNatClampNeg = x := ⟨_, rfl⟩
  obtain ⟨x3, ex3⟩ : ∃ x, xs (nI (6 * i + 3)).toNatClampNeg = x := ⟨_, rfl⟩
  obtain ⟨x4, ex4⟩ : ∃ x, xs (nI (6 * i + 4)).toNatClampNeg = x := ⟨_, rfl⟩
  refine lv_aload_n S.1 S.2.1 dL_law_385 rfl (lv_at hl 1 rfl) ?_
  refine lv_aload_n S.1 S.2.1 dL_law_386 rfl (lv_at hl 0 rfl) ?_
  refine lv_iload_n S.1 S.2.1 dL_law_387 rfl (lv_at hl 3 rfl) ?_
  refine lv_iconst (v := nI 1) S.1 S.2.1 dL_law_388 (by decide) ?_
  refine lv_iadd S.1 S.2.1 dL_law_389 ?_
  refine m_top (nI_add (6 * i) 1) ?_
  refine va_sld S.1 S.2.1 hX hbl hbA hw.2.2.1 (vp_in_nI (by omega) (by omega)) dL_law_390 ?_
  refine m_top ex1 ?_
  refine lv_aload_n S.1 S.2.1 dL_law_391 rfl (lv_at hl 0 rfl) ?_
  refine lv_iload_n S.1 S.2.1 dL_law_392 rfl (lv_at hl 3 rfl) ?_
  refine lv_iconst (v := nI 2) S.1 S.2.1 dL_law_393 (by decide) ?_
  refine lv_iadd S.1 S.2.1 dL_law_394 ?_
  refine m_top (nI_add (6 * i) 2) ?_
  refine va_sld S.1 S.2.1 hX hbl hbA hw.2.2.1 (vp_in_nI (by omega) (by omega)) dL_law_395 ?_
  refine m_top ex2 ?_
  refine lv_aload_n S.1 S.2.1 dL_law_396 rfl (lv_at hl 0 rfl) ?_
  refine lv_iload_n S.1 S.2.1 dL_law_397 rfl (lv_at hl 3 rfl) ?_
  refine lv_iconst (v := nI 3) S.1 S.2.1 dL_law_398 (by decide) ?_
  refine lv_iadd S.1 S.2.1 dL_law_399 ?_
  refine m_top (nI_add (6 * i) 3) ?_
  refine va_sld S.1 S.2.1 hX hbl hbA hw.2.2.1 (vp_in_nI (by omega) (by omega)) dL_law_400 ?_
  refine m_top ex3 ?_
  refine lv_aload_n S.1 S.2.1 dL_law_401 rfl (lv_at hl 0 rfl) ?_
  refine lv_iload_n S.1 S.2.1 dL_law_402 rfl (lv_at hl 3 rfl) ?_
  refine lv_iconst (v := nI 4) S.1 S.2.1 dL_law_403 (by decide) ?_
  refine lv_iadd S.1 S.2.1 dL_law_404 ?_
  refine m_top (nI_add (6 * i) 4) ?_
  refine va_sld S.1 S.2.1 hX hbl hbA hw.2.2.1 (vp_in_nI (by omega) (by omega)) dL_law_405 ?_
  refine m_top ex4 ?_
  refine m_VI (As := [.int x1, .int x2, .int x3, .int x4]) (rest := []) 0 S hw (by omega) rfl rfl (c_X7_wish l G (61 + 13 * K) K ad M (by omega) D hD hD6 Wn hWn hW20 x1 x2 x3 x4) mf_X7_wish wm_L_45 ⟨by decide, by decide⟩ hcs hl.1 rfl (Nat.le_of_ble_eq_true rfl) dL_law_406 (fun r1 M1 H locs hp1 hw => ?_)
  have e1 : Keep M M1 := Dec1.kp hp1 (fun h9 => Dec1.kp h9 (fun h9 => Dec1.kp h9 (fun h9 k h1 h2 => h9.2.2.2.2.2.2.2.2 k (by omega))))
  refine lv_aload_n S.1 S.2.1 dL_law_409 rfl (lv_at hl 2 rfl) ?_
  refine lv_aload_n S.1 S.2.1 dL_law_410 rfl (lv_at hl 0 rfl) ?_
  refine lv_iload_n S.1 S.2.1 dL_law_411 rfl (lv_at hl 3 rfl) ?_
  refine lv_iconst (v := nI 1) S.1 S.2.1 dL_law_412 (by decide) ?_
  refine lv_iadd S.1 S.2.1 dL_law_413 ?_
  refine m_top (nI_add (6 * i) 1) ?_
  refine va_sld S.1 S.2.1 hX hbl hbA hw.2.2.1 (vp_in_nI (by omega) (by omega)) dL_law_414 ?_
  refine m_top ex1 ?_
  refine lv_aload_n S.1 S.2.1 dL_law_415 rfl (lv_at hl 0 rfl) ?_
  refine lv_iload_n S.1 S.2.1 dL_law_416 rfl (lv_at hl 3 rfl) ?_
  refine lv_iconst (v := nI 2) S.1 S.2.1 dL_law_417 (by decide) ?_
  refine lv_iadd S.1 S.2.1 dL_law_418 ?_
  refine m_top (nI_add (6 * i) 2) ?_
  refine va_sld S.1 S.2.1 hX hbl hbA hw.2.2.1 (vp_in_nI (by omega) (by omega)) dL_law_419 ?_
  refine m_top ex2 ?_
  refine lv_aload_n S.1 S.2.1 dL_law_420 rfl (lv_at hl 0 rfl) ?_
  refine lv_iload_n S.1 S.2.1 dL_law_421 rfl (lv_at hl 3 rfl) ?_
  refine lv_iconst (v := nI 3) S.1 S.2.1 dL_law_422 (by decide) ?_
  refine lv_iadd S.1 S.2.1 dL_law_423 ?_
  refine m_top (nI_add (6 * i) 3) ?_
  refine va_sld S.1 S.2.1 hX hbl hbA hw.2.2.1 (vp_in_nI (by omega) (by omega)) dL_law_424 ?_
  refine m_top ex3 ?_
  refine lv_aload_n S.1 S.2.1 dL_law_425 rfl (lv_at hl 0 rfl) ?_
  refine lv_iload_n S.1 S.2.1 dL_law_426 rfl (lv_at hl 3 rfl) ?_
  refine lv_iconst (v := nI 4) S.1 S.2.1 dL_law_427 (by decide) ?_
  refine lv_iadd S.1 S.2.1 dL_law_428 ?_
  refine m_top (nI_add (6 * i) 4) ?_
  refine va_sld S.1 S.2.1 hX hbl hbA hw.2.2.1 (vp_in_nI (by omega) (by omega)) dL_law_429 ?_
  refine m_top ex4 ?_
  refine m_VI (As := [.int x1, .int x2, .int x3, .int x4]) (rest := [.int r1]) 34 S hw (by omega) rfl rfl (c_X8_wish l G (61 + 13 * K) K ad M1 (by omega) D (by rw [e1 34 (by decide) (by decide)]; exact hD') hD6 Wn (by rw [e1 34 (by decide) (by decide)]; exact hWn') hW20 x1 x2 x3 x4) mf_X8_wish wm_L_48 ⟨by decide, by decide⟩ hcs hl.1 rfl (Nat.le_of_ble_eq_true rfl) dL_law_430 (fun r2 M2 H locs hp2 hw => ?_)
  have hst := (st_wish h hp1 hp2)
  refine lv_icmp_eq (tgt := 791) S.1 S.2.1 dL_law_433 (by decide) (fun _ => ?_) (fun c9 => absurd hst.1 c9)
  exact W.widen (by omega) (by omega) (kk K ad M2 _ _ hst.2 hw hl)

set_option maxHeartbeats 4000000 in
set_option maxRecDepth 100000 in
theorem lc_push (hA : LA p s m c G b L i xs cells slots) (hw : Wd G (61 + 13 * K) K ad M s H locs) (hl : LL ls b i ad) (hI : Inv (1000 * i) K M) (kk : LK p l e s m below meth c G b i cells slots Q ls) : W p l e room_1 s m #[Value.ref b] below meth c H locs cells slots Q (F0 m 438 ls []) := by
  obtain ⟨S, hX, hbl, hbA, hi, hL, hcc, hss⟩ := hA
  obtain ⟨P, D, n, b0, Wn, h⟩ := hI
  obtain ⟨t, htB, ht0, hAt, hTr⟩ := h.att (by omega)
  obtain ⟨hP0, hPK, hPb, hD, hD6, hn, hn1, hbn, hbn1, ht, ht30, hWn, hW20, hpl, hrt, hz2, hvr, hwt⟩ := id hAt
  obtain ⟨hP0', hP200, hD', -, hn', -, hbn', -, ht', -, hWn', -, hpl', hrt', hvr', hwt'⟩ := id hTr
  have hcs : cells ≤ room_1.cells ∧ slots ≤ room_1.slots := ⟨Nat.le_trans (Nat.le_add_right _ 26) hcc, Nat.le_trans (Nat.le_add_right _ 1732) hss⟩
  obtain ⟨x1, ex1⟩ : ∃ x, xs (nI (6 * i + 1)).toNatClampNeg = x := ⟨_, rfl⟩
  obtain ⟨x2, ex2⟩ : ∃ x, xs (nI (6 * i + 2)).toNatClampNeg = x := ⟨_, rfl⟩
  obtain ⟨x3, ex3⟩ : ∃ x, xs (nI (6 * i + 3)).toNatClampNeg = x := ⟨_, rfl⟩
  obtain ⟨x4, ex4⟩ : ∃ x, xs (nI (6 * i + 4)).toNatClampNeg = x := ⟨_, rfl⟩
  refine lv_aload_n S.1 S.2.1 dL_law_438 rfl (lv_at hl 1 rfl) ?_
  refine lv_aload_n S.1 S.2.1 dL_law_439 rfl (lv_at hl 0 rfl) ?_
  refine lv_iload_n S.1 S.2.1 dL_law_440 rfl (lv_at hl 3 rfl) ?_
  refine lv_iconst (v := nI 1) S.1 S.2.1 dL_law_441 (by decide) ?_
  refine lv_iadd S.1 S.2.1 dL_law_442 ?_
  refine m_top (nI_add (6 * i) 1) ?_
  refine va_sld S.1 S.2.1 hX hbl hbA hw.2.2.1 (vp_in_nI (by omega) (by omega)) dL_law_443 ?_
  refine m_top ex1 ?_
  refine lv_aload_n S.1 S.2.1 dL_law_444 rfl (lv_at hl 0 rfl) ?_
  refine lv_iload_n S.1 S.2.1 dL_law_445 rfl (lv_at hl 3 rfl) ?_
  refine lv_iconst (v := nI 2) S.1 S.2.1 dL_law_446 (by decide) ?_
  refine lv_iadd S.1 S.2.1 dL_law_447 ?_
  refine m_top (nI_add (6 * i) 2) ?_
  refine va_sld S.1 S.2.1 hX hbl hbA hw.2.2.1 (vp_in_nI (by omega) (by omega)) dL_law_448 ?_
  refine m_top ex2 ?_
  refine lv_aload_n S.1 S.2.1 dL_law_449 rfl (lv_at hl 0 rfl) ?_
  refine lv_iload_n S.1 S.2.1 dL_law_450 rfl (lv_at hl 3 rfl) ?_
  refine lv_iconst (v := nI 3) S.1 S.2.1 dL_law_451 (by decide) ?_
  refine lv_iadd S.1 S.2.1 dL_law_452 ?_
  refine m_top (nI_add (6 * i) 3) ?_
  refine va_sld S.1 S.2.1 hX hbl hbA hw.2.2.1 (vp_in_nI (by omega) (by omega)) dL_law_453 ?_
  refine m_top ex3 ?_
  refine lv_aload_n S.1 S.2.1 dL_law_454 rfl (lv_at hl 0 rfl) ?_
  refine lv_iload_n S.1 S.2.1 dL_law_455 rfl (lv_at hl 3 rfl) ?_
  refine lv_iconst (v := nI 4) S.1 S.2.1 dL_law_456 (by decide) ?_
  refine lv_iadd S.1 S.2.1 dL_law_457 ?_
  refine m_top (nI_add (6 * i) 4) ?_
  refine va_sld S.1 S.2.1 hX hbl hbA hw.2.2.1 (vp_in_nI (by omega) (by omega)) dL_law_458 ?_
  refine m_top ex4 ?_
  refine a_VI (As := [.int x1, .int x2, .int x3, .int x4]) (rest := []) S hw (c_X7_push l G K ad M P D n (b0 + P) t Wn hAt x1 x2 x3 x4) mf_X7_push wm_L_49 ⟨by decide, by decide⟩ ⟨by show cells + 13 ≤ 600000; omega, by show slots + 866 ≤ 7302250; omega⟩ hl.1 rfl (Nat.le_of_ble_eq_true rfl) dL_law_459 (fun r1 K1 ad1 M1 H locs hp1 hw => ?_)
  obtain ⟨⟨hx1, hx2⟩, hp1⟩ := hp1
  have hx1 : K ≤ K1 := hx1
  have hx2 : ∀ i, i < 61 + 13 * K → ad1 i = ad i := hx2
  have hl : LL ls b i ad1 := by unfold LL; rw [hx2 0 (by omega), hx2 34 (by omega)]; exact hl
  have e1 : Keep M M1 := att_any hp1 (fun o k _ h2 => o k (by omega)) (fun o => att_cells o.1.2.2) (fun o k h1 h2 => o.2.2.1 k (by omega) (by omega) (by omega) (by omega) (by omega) (by omega) (by omega))
  have hT1 := hTr.cg e1
  refine lv_aload_n S.1 S.2.1 dL_law_462 rfl (lv_at hl 2 rfl) ?_
  refine lv_aload_n S.1 S.2.1 dL_law_463 rfl (lv_at hl 0 rfl) ?_
  refine lv_iload_n S.1 S.2.1 dL_law_464 rfl (lv_at hl 3 rfl) ?_
  refine lv_iconst (v := nI 1) S.1 S.2.1 dL_law_465 (by decide) ?_
  refine lv_iadd S.1 S.2.1 dL_law_466 ?_
  refine m_top (nI_add (6 * i) 1) ?_
  refine va_sld S.1 S.2.1 hX hbl hbA hw.2.2.1 (vp_in_nI (by omega) (by omega)) dL_law_467 ?_
  refine m_top ex1 ?_
  refine lv_aload_n S.1 S.2.1 dL_law_468 rfl (lv_at hl 0 rfl) ?_
  refine lv_iload_n S.1 S.2.1 dL_law_469 rfl (lv_at hl 3 rfl) ?_
  refine lv_iconst (v := nI 2) S.1 S.2.1 dL_law_470 (by decide) ?_
  refine lv_iadd S.1 S.2.1 dL_law_471 ?_
  refine m_top (nI_add (6 * i) 2) ?_
  refine va_sld S.1 S.2.1 hX hbl hbA hw.2.2.1 (vp_in_nI (by omega) (by omega)) dL_law_472 ?_
  refine m_top ex2 ?_
  refine lv_aload_n S.1 S.2.1 dL_law_473 rfl (lv_at hl 0 rfl) ?_
  refine lv_iload_n S.1 S.2.1 dL_law_474 rfl (lv_at hl 3 rfl) ?_
  refine lv_iconst (v := nI 3) S.1 S.2.1 dL_law_475 (by decide) ?_
  refine lv_iadd S.1 S.2.1 dL_law_476 ?_
  refine m_top (nI_add (6 * i) 3) ?_
  refine va_sld S.1 S.2.1 hX hbl hbA hw.2.2.1 (vp_in_nI (by omega) (by omega)) dL_law_477 ?_
  refine m_top ex3 ?_
  refine lv_aload_n S.1 S.2.1 dL_law_478 rfl (lv_at hl 0 rfl) ?_
  refine lv_iload_n S.1 S.2.1 dL_law_479 rfl (lv_at hl 3 rfl) ?_
  refine lv_iconst (v := nI 4) S.1 S.2.1 dL_law_480 (by decide) ?_
  refine lv_iadd S.1 S.2.1 dL_law_481 ?_
  refine m_top (nI_add (6 * i) 4) ?_
  refine va_sld S.1 S.2.1 hX hbl hbA hw.2.2.1 (vp_in_nI (by omega) (by omega)) dL_law_482 ?_
  refine m_top ex4 ?_
  refine m_VI (As := [.int x1, .int x2, .int x3, .int x4]) (rest := [.int r1]) 34 S hw (by omega) rfl rfl (c_X8_push l G (61 + 13 * K1) K1 ad1 M1 (by omega) P D n (b0 + P) t Wn hT1 x1 x2 x3 x4) mf_X8_push wm_L_52 ⟨by decide, by decide⟩ ⟨by show cells + 13 ≤ 600000; omega, by show slots + 866 ≤ 7302250; omega⟩ hl.1 rfl (Nat.le_of_ble_eq_true rfl) dL_law_483 (fun r2 M2 H locs hp2 hw => ?_)
  have hst := (st_push (K1 := K1) (ad1 := ad1) (M1 := M1) (by omega) h ht0 htB hx1 hp1 hp2)
  refine lv_icmp_eq (tgt := 791) S.1 S.2.1 dL_law_486 (by decide) (fun _ => ?_) (fun c9 => absurd hst.1 c9)
  exact W.widen (by omega) (by omega) (kk K1 ad1 M2 _ _ hst.2 hw hl)

set_option maxHeartbeats 4000000 in
set_option maxRecDepth 100000 in
theorem lc_trial (hA : LA p s m c G b L i xs cells slots) (hw : Wd G (61 + 13 * K) K ad M s H locs) (hl : LL ls b i ad) (hI : Inv (1000 * i) K M) (kk : LK p l e s m below meth c G b i cells slots Q ls) : W p l e room_1 s m #[Value.ref b] below meth c H locs cells slots Q (F0 m 491 ls []) := by
  obtain ⟨S, hX, hbl, hbA, hi, hL, hcc, hss⟩ := hA
  obtain ⟨P, D, n, b0, Wn, h⟩ := hI
  obtain ⟨t, htB, ht0, hAt, hTr⟩ := h.att (by omega)
  obtain ⟨hP0, hPK, hPb, hD, hD6, hn, hn1, hbn, hbn1, ht, ht30, hWn, hW20, hpl, hrt, hz2, hvr, hwt⟩ := id hAt
  obtain ⟨hP0', hP200, hD', -, hn', -, hbn', -, ht', -, hWn', -, hpl', hrt', hvr', hwt'⟩ := id hTr
  have hcs : cells ≤ room_1.cells ∧ slots ≤ room_1.slots := ⟨Nat.le_trans (Nat.le_add_right _ 26) hcc, Nat.le_trans (Nat.le_add_right _ 1732) hss⟩
  obtain ⟨x1, ex1⟩ : ∃ x, xs (nI (6 * i + 1)).toNatClampNeg = x := ⟨_, rfl⟩
  obtain ⟨x2, ex2⟩ : ∃ x, xs (nI (6 * i + 2)).toNatClampNeg = x := ⟨_, rfl⟩
  obtain ⟨x3, ex3⟩ : ∃ x, xs (nI (6 * i + 3)).toNatClampNeg = x := ⟨_, rfl⟩
  obtain ⟨x4, ex4⟩ : ∃ x, xs (nI (6 * i + 4)).toNatClampNeg = x := ⟨_, rfl⟩
  refine lv_aload_n S.1 S.2.1 dL_law_491 rfl (lv_at hl 1 rfl) ?_
  refine lv_aload_n S.1 S.2.1 dL_law_492 rfl (lv_at hl 0 rfl) ?_
  refine lv_iload_n S.1 S.2.1 dL_law_493 rfl (lv_at hl 3 rfl) ?_
  refine lv_iconst (v := nI 1) S.1 S.2.1 dL_law_494 (by decide) ?_
  refine lv_iadd S.1 S.2.1 dL_law_495 ?_
  refine m_top (nI_add (6 * i) 1) ?_
  refine va_sld S.1 S.2.1 hX hbl hbA hw.2.2.1 (vp_in_nI (by omega) (by omega)) dL_law_496 ?_
  refine m_top ex1 ?_
  refine lv_aload_n S.1 S.2.1 dL_law_497 rfl (lv_at hl 0 rfl) ?_
  refine lv_iload_n S.1 S.2.1 dL_law_498 rfl (lv_at hl 3 rfl) ?_
  refine lv_iconst (v := nI 2) S.1 S.2.1 dL_law_499 (by decide) ?_
  refine lv_iadd S.1 S.2.1 dL_law_500 ?_
  refine m_top (nI_add (6 * i) 2) ?_
  refine va_sld S.1 S.2.1 hX hbl hbA hw.2.2.1 (vp_in_nI (by omega) (by omega)) dL_law_501 ?_
  refine m_top ex2 ?_
  refine lv_aload_n S.1 S.2.1 dL_law_502 rfl (lv_at hl 0 rfl) ?_
  refine lv_iload_n S.1 S.2.1 dL_law_503 rfl (lv_at hl 3 rfl) ?_
  refine lv_iconst (v := nI 3) S.1 S.2.1 dL_law_504 (by decide) ?_
  refine lv_iadd S.1 S.2.1 dL_law_505 ?_
  refine m_top (nI_add (6 * i) 3) ?_
  refine va_sld S.1 S.2.1 hX hbl hbA hw.2.2.1 (vp_in_nI (by omega) (by omega)) dL_law_506 ?_
  refine m_top ex3 ?_
  refine lv_aload_n S.1 S.2.1 dL_law_507 rfl (lv_at hl 0 rfl) ?_
  refine lv_iload_n S.1 S.2.1 dL_law_508 rfl (lv_at hl 3 rfl) ?_
  refine lv_iconst (v := nI 4) S.1 S.2.1 dL_law_509 (by decide) ?_
  refine lv_iadd S.1 S.2.1 dL_law_510 ?_
  refine m_top (nI_add (6 * i) 4) ?_
  refine va_sld S.1 S.2.1 hX hbl hbA hw.2.2.1 (vp_in_nI (by omega) (by omega)) dL_law_511 ?_
  refine m_top ex4 ?_
  refine a_VI (As := [.int x1, .int x2, .int x3, .int x4]) (rest := []) S hw (c_X7_trial l G K ad M P D n (b0 + P) t Wn hAt x1 x2 x3 x4) mf_X7_trial wm_L_53 ⟨by decide, by decide⟩ ⟨by show cells + 26 ≤ 600000; omega, by show slots + 1732 ≤ 7302250; omega⟩ hl.1 rfl (Nat.le_of_ble_eq_true rfl) dL_law_512 (fun r1 K1 ad1 M1 H locs hp1 hw => ?_)
  obtain ⟨⟨hx1, hx2⟩, hp1⟩ := hp1
  have hx1 : K ≤ K1 := hx1
  have hx2 : ∀ i, i < 61 + 13 * K → ad1 i = ad i := hx2
  have hl : LL ls b i ad1 := by unfold LL; rw [hx2 0 (by omega), hx2 34 (by omega)]; exact hl
  have e1 : Keep M M1 := att_any hp1 (fun o k _ h2 => o k (by omega)) (fun o => att_cells o.1.2.2) (fun o => att_cells o.1.2.2)
  have hT1 := hTr.cg e1
  refine lv_aload_n S.1 S.2.1 dL_law_515 rfl (lv_at hl 2 rfl) ?_
  refine lv_aload_n S.1 S.2.1 dL_law_516 rfl (lv_at hl 0 rfl) ?_
  refine lv_iload_n S.1 S.2.1 dL_law_517 rfl (lv_at hl 3 rfl) ?_
  refine lv_iconst (v := nI 1) S.1 S.2.1 dL_law_518 (by decide) ?_
  refine lv_iadd S.1 S.2.1 dL_law_519 ?_
  refine m_top (nI_add (6 * i) 1) ?_
  refine va_sld S.1 S.2.1 hX hbl hbA hw.2.2.1 (vp_in_nI (by omega) (by omega)) dL_law_520 ?_
  refine m_top ex1 ?_
  refine lv_aload_n S.1 S.2.1 dL_law_521 rfl (lv_at hl 0 rfl) ?_
  refine lv_iload_n S.1 S.2.1 dL_law_522 rfl (lv_at hl 3 rfl) ?_
  refine lv_iconst (v := nI 2) S.1 S.2.1 dL_law_523 (by decide) ?_
  refine lv_iadd S.1 S.2.1 dL_law_524 ?_
  refine m_top (nI_add (6 * i) 2) ?_
  refine va_sld S.1 S.2.1 hX hbl hbA hw.2.2.1 (vp_in_nI (by omega) (by omega)) dL_law_525 ?_
  refine m_top ex2 ?_
  refine lv_aload_n S.1 S.2.1 dL_law_526 rfl (lv_at hl 0 rfl) ?_
  refine lv_iload_n S.1 S.2.1 dL_law_527 rfl (lv_at hl 3 rfl) ?_
  refine lv_iconst (v := nI 3) S.1 S.2.1 dL_law_528 (by decide) ?_
  refine lv_iadd S.1 S.2.1 dL_law_529 ?_
  refine m_top (nI_add (6 * i) 3) ?_
  refine va_sld S.1 S.2.1 hX hbl hbA hw.2.2.1 (vp_in_nI (by omega) (by omega)) dL_law_530 ?_
  refine m_top ex3 ?_
  refine lv_aload_n S.1 S.2.1 dL_law_531 rfl (lv_at hl 0 rfl) ?_
  refine lv_iload_n S.1 S.2.1 dL_law_532 rfl (lv_at hl 3 rfl) ?_
  refine lv_iconst (v := nI 4) S.1 S.2.1 dL_law_533 (by decide) ?_
  refine lv_iadd S.1 S.2.1 dL_law_534 ?_
  refine m_top (nI_add (6 * i) 4) ?_
  refine va_sld S.1 S.2.1 hX hbl hbA hw.2.2.1 (vp_in_nI (by omega) (by omega)) dL_law_535 ?_
  refine m_top ex4 ?_
  refine m_VI (As := [.int x1, .int x2, .int x3, .int x4]) (rest := [.int r1]) 34 S hw (by omega) rfl rfl (c_X8_trial l G (61 + 13 * K1) K1 ad1 M1 (by omega) P D n (b0 + P) t Wn hT1 x1 x2 x3 x4) mf_X8_trial wm_L_56 ⟨by decide, by decide⟩ ⟨by show cells + 26 ≤ 600000; omega, by show slots + 1732 ≤ 7302250; omega⟩ hl.1 rfl (Nat.le_of_ble_eq_true rfl) dL_law_536 (fun r2 M2 H locs hp2 hw => ?_)
  have hst := (st_trial (K1 := K1) (ad1 := ad1) (M1 := M1) (t := t) h hx1 hp1 hp2)
  refine lv_icmp_eq (tgt := 791) S.1 S.2.1 dL_law_539 (by decide) (fun _ => ?_) (fun c9 => absurd hst.1 c9)
  exact W.widen (by omega) (by omega) (kk K1 ad1 M2 _ _ hst.2 hw hl)

set_option maxHeartbeats 4000000 in
set_option maxRecDepth 100000 in
theorem lc_undo (hA : LA p s m c G b L i xs cells slots) (hw : Wd G (61 + 13 * K) K ad M s H locs) (hl : LL ls b i ad) (hI : Inv (1000 * i) K M) (kk : LK p l e s m below meth c G b i cells slots Q ls) : W p l e room_1 s m #[Value.ref b] below meth c H locs cells slots Q (F0 m 544 ls []) := by
  obtain ⟨S, hX, hbl, hbA, hi, hL, hcc, hss⟩ := hA
  obtain ⟨P, D, n, b0, Wn, h⟩ := hI
  obtain ⟨t, htB, ht0, hAt, hTr⟩ := h.att (by omega)
  obtain ⟨hP0, hPK, hPb, hD, hD6, hn, hn1, hbn, hbn1, ht, ht30, hWn, hW20, hpl, hrt, hz2, hvr, hwt⟩ := id hAt
  obtain ⟨hP0', hP200, hD', -, hn', -, hbn', -, ht', -, hWn', -, hpl', hrt', hvr', hwt'⟩ := id hTr
  have hcs : cells ≤ room_1.cells ∧ slots ≤ room_1.slots := ⟨Nat.le_trans (Nat.le_add_right _ 26) hcc, Nat.le_trans (Nat.le_add_right _ 1732) hss⟩
  refine lv_aload_n S.1 S.2.1 dL_law_544 rfl (lv_at hl 1 rfl) ?_
  have hsv : 0 < P → M (61 + 13 * (P - 1) + 1) 0 = nI n ∧ n ≤ 120 ∧ M (61 + 13 * (P - 1)) 2 = nI (b0 + (P - 1)) ∧ b0 + (P - 1) ≤ 200 := fun hp => by
    obtain ⟨Q0, hq, -⟩ := h.2.2.2.2.2.2 (P - 1) (by omega)
    exact ⟨hq.1, hn1, hq.2.1, by omega⟩
  refine a_VI (As := []) (rest := []) S hw (c_X7_undo l G K ad M P n (b0 + (P - 1)) hP0 hPK hP200 hsv) mf_X7_undo wm_L_57 ⟨by decide, by decide⟩ ⟨by show cells + 13 ≤ 600000; omega, by show slots + 866 ≤ 7302250; omega⟩ hl.1 rfl (Nat.le_of_ble_eq_true rfl) dL_law_545 (fun r1 K1 ad1 M1 H locs hp1 hw => ?_)
  obtain ⟨⟨hx1, hx2⟩, hp1⟩ := hp1
  have hx1 : K ≤ K1 := hx1
  have hx2 : ∀ i, i < 61 + 13 * K → ad1 i = ad i := hx2
  have hl : LL ls b i ad1 := by unfold LL; rw [hx2 0 (by omega), hx2 34 (by omega)]; exact hl
  have e1 : Keep M M1 := by
    rcases hp1 with ⟨-, -, o⟩ | ⟨-, o⟩
    · exact fun k _ h2 => o k (by omega)
    · exact fun k h1 h2 => o.2.2.2.2 k (by omega) (by omega) (by omega)
  refine lv_aload_n S.1 S.2.1 dL_law_548 rfl (lv_at hl 2 rfl) ?_
  refine m_VI (As := []) (rest := [.int r1]) 34 S hw (by omega) rfl rfl (c_X8_undo l G (61 + 13 * K1) K1 ad1 M1 (by omega) n (by rw [e1 34 (by decide) (by decide)]; exact hn') hn1 P (by rw [e1 34 (by decide) (by decide)]; exact hP0') hP200) mf_X8_undo wm_L_61 ⟨by decide, by decide⟩ ⟨by show cells + 13 ≤ 600000; omega, by show slots + 866 ≤ 7302250; omega⟩ hl.1 rfl (Nat.le_of_ble_eq_true rfl) dL_law_549 (fun r2 M2 H locs hp2 hw => ?_)
  have hst := (st_undo (K1 := K1) (M1 := M1) h hx1 hp1 hp2)
  refine lv_icmp_eq (tgt := 791) S.1 S.2.1 dL_law_552 (by decide) (fun _ => ?_) (fun c9 => absurd hst.1 c9)
  exact W.widen (by omega) (by omega) (kk K1 ad1 M2 _ _ hst.2 hw hl)

set_option maxHeartbeats 4000000 in
set_option maxRecDepth 100000 in
theorem lc_wait (hA : LA p s m c G b L i xs cells slots) (hw : Wd G (61 + 13 * K) K ad M s H locs) (hl : LL ls b i ad) (hI : Inv (1000 * i) K M) (kk : LK p l e s m below meth c G b i cells slots Q ls) : W p l e room_1 s m #[Value.ref b] below meth c H locs cells slots Q (F0 m 557 ls []) := by
  obtain ⟨S, hX, hbl, hbA, hi, hL, hcc, hss⟩ := hA
  obtain ⟨P, D, n, b0, Wn, h⟩ := hI
  obtain ⟨t, htB, ht0, hAt, hTr⟩ := h.att (by omega)
  obtain ⟨hP0, hPK, hPb, hD, hD6, hn, hn1, hbn, hbn1, ht, ht30, hWn, hW20, hpl, hrt, hz2, hvr, hwt⟩ := id hAt
  obtain ⟨hP0', hP200, hD', -, hn', -, hbn', -, ht', -, hWn', -, hpl', hrt', hvr', hwt'⟩ := id hTr
  have hcs : cells ≤ room_1.cells ∧ slots ≤ room_1.slots := ⟨Nat.le_trans (Nat.le_add_right _ 26) hcc, Nat.le_trans (Nat.le_add_right _ 1732) hss⟩
  obtain ⟨x1, ex1⟩ : ∃ x, xs (nI (6 * i + 1)).toNatClampNeg = x := ⟨_, rfl⟩
  refine lv_aload_n S.1 S.2.1 dL_law_557 rfl (lv_at hl 1 rfl) ?_
  refine lv_aload_n S.1 S.2.1 dL_law_558 rfl (lv_at hl 0 rfl) ?_
  refine lv_iload_n S.1 S.2.1 dL_law_559 rfl (lv_at hl 3 rfl) ?_
  refine lv_iconst (v := nI 1) S.1 S.2.1 dL_law_560 (by decide) ?_
  refine lv_iadd S.1 S.2.1 dL_law_561 ?_
  refine m_top (nI_add (6 * i) 1) ?_
  refine va_sld S.1 S.2.1 hX hbl hbA hw.2.2.1 (vp_in_nI (by omega) (by omega)) dL_law_562 ?_
  refine m_top ex1 ?_
  refine m_VI (As := [.int x1]) (rest := []) 0 S hw (by omega) rfl rfl (c_X7_wait l G (61 + 13 * K) K ad M (by omega)  x1) mf_X7_wait wm_L_62 ⟨by decide, by decide⟩ hcs hl.1 rfl (Nat.le_of_ble_eq_true rfl) dL_law_563 (fun r1 M1 H locs hp1 hw => ?_)
  have e1 : Keep M M1 := Dec1.kp hp1 (fun h9 k h1 h2 => h9.2.2.2 k (by omega))
  refine lv_aload_n S.1 S.2.1 dL_law_566 rfl (lv_at hl 2 rfl) ?_
  refine lv_aload_n S.1 S.2.1 dL_law_567 rfl (lv_at hl 0 rfl) ?_
  refine lv_iload_n S.1 S.2.1 dL_law_568 rfl (lv_at hl 3 rfl) ?_
  refine lv_iconst (v := nI 1) S.1 S.2.1 dL_law_569 (by decide) ?_
  refine lv_iadd S.1 S.2.1 dL_law_570 ?_
  refine m_top (nI_add (6 * i) 1) ?_
  refine va_sld S.1 S.2.1 hX hbl hbA hw.2.2.1 (vp_in_nI (by omega) (by omega)) dL_law_571 ?_
  refine m_top ex1 ?_
  refine m_VI (As := [.int x1]) (rest := [.int r1]) 34 S hw (by omega) rfl rfl (c_X8_wait l G (61 + 13 * K) K ad M1 (by omega)  x1) mf_X8_wait wm_L_65 ⟨by decide, by decide⟩ hcs hl.1 rfl (Nat.le_of_ble_eq_true rfl) dL_law_572 (fun r2 M2 H locs hp2 hw => ?_)
  have hst := (st_wait h hp1 hp2)
  refine lv_icmp_eq (tgt := 791) S.1 S.2.1 dL_law_575 (by decide) (fun _ => ?_) (fun c9 => absurd hst.1 c9)
  exact W.widen (by omega) (by omega) (kk K ad M2 _ _ hst.2 hw hl)

set_option maxHeartbeats 4000000 in
set_option maxRecDepth 100000 in
theorem lc_at (hA : LA p s m c G b L i xs cells slots) (hw : Wd G (61 + 13 * K) K ad M s H locs) (hl : LL ls b i ad) (hI : Inv (1000 * i) K M) (kk : LK p l e s m below meth c G b i cells slots Q ls) : W p l e room_1 s m #[Value.ref b] below meth c H locs cells slots Q (F0 m 580 ls []) := by
  obtain ⟨S, hX, hbl, hbA, hi, hL, hcc, hss⟩ := hA
  obtain ⟨P, D, n, b0, Wn, h⟩ := hI
  obtain ⟨t, htB, ht0, hAt, hTr⟩ := h.att (by omega)
  obtain ⟨hP0, hPK, hPb, hD, hD6, hn, hn1, hbn, hbn1, ht, ht30, hWn, hW20, hpl, hrt, hz2, hvr, hwt⟩ := id hAt
  obtain ⟨hP0', hP200, hD', -, hn', -, hbn', -, ht', -, hWn', -, hpl', hrt', hvr', hwt'⟩ := id hTr
  have hcs : cells ≤ room_1.cells ∧ slots ≤ room_1.slots := ⟨Nat.le_trans (Nat.le_add_right _ 26) hcc, Nat.le_trans (Nat.le_add_right _ 1732) hss⟩
  obtain ⟨x1, ex1⟩ : ∃ x, xs (nI (6 * i + 1)).toNatClampNeg = x := ⟨_, rfl⟩
  obtain ⟨x2, ex2⟩ : ∃ x, xs (nI (6 * i + 2)).toNatClampNeg = x := ⟨_, rfl⟩
  refine lv_aload_n S.1 S.2.1 dL_law_580 rfl (lv_at hl 1 rfl) ?_
  refine lv_aload_n S.1 S.2.1 dL_law_581 rfl (lv_at hl 0 rfl) ?_
  refine lv_iload_n S.1 S.2.1 dL_law_582 rfl (lv_at hl 3 rfl) ?_
  refine lv_iconst (v := nI 1) S.1 S.2.1 dL_law_583 (by decide) ?_
  refine lv_iadd S.1 S.2.1 dL_law_584 ?_
  refine m_top (nI_add (6 * i) 1) ?_
  refine va_sld S.1 S.2.1 hX hbl hbA hw.2.2.1 (vp_in_nI (by omega) (by omega)) dL_law_585 ?_
  refine m_top ex1 ?_
  refine lv_aload_n S.1 S.2.1 dL_law_586 rfl (lv_at hl 0 rfl) ?_
  refine lv_iload_n S.1 S.2.1 dL_law_587 rfl (lv_at hl 3 rfl) ?_
  refine lv_iconst (v := nI 2) S.1 S.2.1 dL_law_588 (by decide) ?_
  refine lv_iadd S.1 S.2.1 dL_law_589 ?_
  refine m_top (nI_add (6 * i) 2) ?_
  refine va_sld S.1 S.2.1 hX hbl hbA hw.2.2.1 (vp_in_nI (by omega) (by omega)) dL_law_590 ?_
  refine m_top ex2 ?_
  refine r_VI (As := [.int x1, .int x2]) (rest := []) 0 S hw (by omega) rfl rfl (c_X7_at l G (61 + 13 * K) K ad M (by omega) n hn hn1 x1 x2) mf_X7_at wm_L_66 ⟨by decide, by decide⟩ hcs hl.1 rfl (Nat.le_of_ble_eq_true rfl) dL_law_591 (fun H locs hw => ?_)
  refine lv_topi (fun r1 er1 => ?_)
  refine lv_aload_n S.1 S.2.1 dL_law_594 rfl (lv_at hl 2 rfl) ?_
  refine lv_aload_n S.1 S.2.1 dL_law_595 rfl (lv_at hl 0 rfl) ?_
  refine lv_iload_n S.1 S.2.1 dL_law_596 rfl (lv_at hl 3 rfl) ?_
  refine lv_iconst (v := nI 1) S.1 S.2.1 dL_law_597 (by decide) ?_
  refine lv_iadd S.1 S.2.1 dL_law_598 ?_
  refine m_top (nI_add (6 * i) 1) ?_
  refine va_sld S.1 S.2.1 hX hbl hbA hw.2.2.1 (vp_in_nI (by omega) (by omega)) dL_law_599 ?_
  refine m_top ex1 ?_
  refine lv_aload_n S.1 S.2.1 dL_law_600 rfl (lv_at hl 0 rfl) ?_
  refine lv_iload_n S.1 S.2.1 dL_law_601 rfl (lv_at hl 3 rfl) ?_
  refine lv_iconst (v := nI 2) S.1 S.2.1 dL_law_602 (by decide) ?_
  refine lv_iadd S.1 S.2.1 dL_law_603 ?_
  refine m_top (nI_add (6 * i) 2) ?_
  refine va_sld S.1 S.2.1 hX hbl hbA hw.2.2.1 (vp_in_nI (by omega) (by omega)) dL_law_604 ?_
  refine m_top ex2 ?_
  refine r_VI (As := [.int x1, .int x2]) (rest := [.int r1]) 34 S hw (by omega) rfl rfl (c_X8_at l G (61 + 13 * K) K ad M (by omega) n hn' hn1 x1 x2) mf_X8_at wm_L_69 ⟨by decide, by decide⟩ hcs hl.1 rfl (Nat.le_of_ble_eq_true rfl) dL_law_605 (fun H locs hw => ?_)
  refine lv_topi (fun r2 er2 => ?_)
  have hst : r1 = r2 := by rw [er1, er2]; exact st_at h x1 x2
  refine lv_icmp_eq (tgt := 791) S.1 S.2.1 dL_law_608 (by decide) (fun _ => ?_) (fun c9 => absurd hst c9)
  exact W.widen (by omega) (by omega) (kk K ad M _ _ ⟨P, D, n, b0, Wn, h.up (by omega)⟩ hw hl)

set_option maxHeartbeats 4000000 in
set_option maxRecDepth 100000 in
theorem lc_batch (hA : LA p s m c G b L i xs cells slots) (hw : Wd G (61 + 13 * K) K ad M s H locs) (hl : LL ls b i ad) (hI : Inv (1000 * i) K M) (kk : LK p l e s m below meth c G b i cells slots Q ls) : W p l e room_1 s m #[Value.ref b] below meth c H locs cells slots Q (F0 m 613 ls []) := by
  obtain ⟨S, hX, hbl, hbA, hi, hL, hcc, hss⟩ := hA
  obtain ⟨P, D, n, b0, Wn, h⟩ := hI
  obtain ⟨t, htB, ht0, hAt, hTr⟩ := h.att (by omega)
  obtain ⟨hP0, hPK, hPb, hD, hD6, hn, hn1, hbn, hbn1, ht, ht30, hWn, hW20, hpl, hrt, hz2, hvr, hwt⟩ := id hAt
  obtain ⟨hP0', hP200, hD', -, hn', -, hbn', -, ht', -, hWn', -, hpl', hrt', hvr', hwt'⟩ := id hTr
  have hcs : cells ≤ room_1.cells ∧ slots ≤ room_1.slots := ⟨Nat.le_trans (Nat.le_add_right _ 26) hcc, Nat.le_trans (Nat.le_add_right _ 1732) hss⟩
  obtain ⟨x1, ex1⟩ : ∃ x, xs (nI (6 * i + 1)).toNatClampNeg = x := ⟨_, rfl⟩
  obtain ⟨x2, ex2⟩ : ∃ x, xs (nI (6 * i + 2)).toNatClampNeg = x := ⟨_, rfl⟩
  refine lv_aload_n S.1 S.2.1 dL_law_613 rfl (lv_at hl 1 rfl) ?_
  refine lv_aload_n S.1 S.2.1 dL_law_614 rfl (lv_at hl 0 rfl) ?_
  refine lv_iload_n S.1 S.2.1 dL_law_615 rfl (lv_at hl 3 rfl) ?_
  refine lv_iconst (v := nI 1) S.1 S.2.1 dL_law_616 (by decide) ?_
  refine lv_iadd S.1 S.2.1 dL_law_617 ?_
  refine m_top (nI_add (6 * i) 1) ?_
  refine va_sld S.1 S.2.1 hX hbl hbA hw.2.2.1 (vp_in_nI (by omega) (by omega)) dL_law_618 ?_
  refine m_top ex1 ?_
  refine lv_aload_n S.1 S.2.1 dL_law_619 rfl (lv_at hl 0 rfl) ?_
  refine lv_iload_n S.1 S.2.1 dL_law_620 rfl (lv_at hl 3 rfl) ?_
  refine lv_iconst (v := nI 2) S.1 S.2.1 dL_law_621 (by decide) ?_
  refine lv_iadd S.1 S.2.1 dL_law_622 ?_
  refine m_top (nI_add (6 * i) 2) ?_
  refine va_sld S.1 S.2.1 hX hbl hbA hw.2.2.1 (vp_in_nI (by omega) (by omega)) dL_law_623 ?_
  refine m_top ex2 ?_
  refine r_VI (As := [.int x1, .int x2]) (rest := []) 0 S hw (by omega) rfl rfl (c_X7_batch l G (61 + 13 * K) K ad M (by omega) n hn hn1 (b0 + P) hbn hbn1 x1 x2) mf_X7_batch wm_L_70 ⟨by decide, by decide⟩ hcs hl.1 rfl (Nat.le_of_ble_eq_true rfl) dL_law_624 (fun H locs hw => ?_)
  refine lv_topi (fun r1 er1 => ?_)
  refine lv_aload_n S.1 S.2.1 dL_law_627 rfl (lv_at hl 2 rfl) ?_
  refine lv_aload_n S.1 S.2.1 dL_law_628 rfl (lv_at hl 0 rfl) ?_
  refine lv_iload_n S.1 S.2.1 dL_law_629 rfl (lv_at hl 3 rfl) ?_
  refine lv_iconst (v := nI 1) S.1 S.2.1 dL_law_630 (by decide) ?_
  refine lv_iadd S.1 S.2.1 dL_law_631 ?_
  refine m_top (nI_add (6 * i) 1) ?_
  refine va_sld S.1 S.2.1 hX hbl hbA hw.2.2.1 (vp_in_nI (by omega) (by omega)) dL_law_632 ?_
  refine m_top ex1 ?_
  refine lv_aload_n S.1 S.2.1 dL_law_633 rfl (lv_at hl 0 rfl) ?_
  refine lv_iload_n S.1 S.2.1 dL_law_634 rfl (lv_at hl 3 rfl) ?_
  refine lv_iconst (v := nI 2) S.1 S.2.1 dL_law_635 (by decide) ?_
  refine lv_iadd S.1 S.2.1 dL_law_636 ?_
  refine m_top (nI_add (6 * i) 2) ?_
  refine va_sld S.1 S.2.1 hX hbl hbA hw.2.2.1 (vp_in_nI (by omega) (by omega)) dL_law_637 ?_
  refine m_top ex2 ?_
  refine r_VI (As := [.int x1, .int x2]) (rest := [.int r1]) 34 S hw (by omega) rfl rfl (c_X8_batch l G (61 + 13 * K) K ad M (by omega) n hn' hn1 (b0 + P) hbn' hbn1 x1 x2) mf_X8_batch wm_L_73 ⟨by decide, by decide⟩ hcs hl.1 rfl (Nat.le_of_ble_eq_true rfl) dL_law_638 (fun H locs hw => ?_)
  refine lv_topi (fun r2 er2 => ?_)
  have hst : r1 = r2 := by rw [er1, er2]; exact st_batch h x1 x2
  refine lv_icmp_eq (tgt := 791) S.1 S.2.1 dL_law_641 (by decide) (fun _ => ?_) (fun c9 => absurd hst c9)
  exact W.widen (by omega) (by omega) (kk K ad M _ _ ⟨P, D, n, b0, Wn, h.up (by omega)⟩ hw hl)

set_option maxHeartbeats 4000000 in
set_option maxRecDepth 100000 in
theorem lc_tankOf (hA : LA p s m c G b L i xs cells slots) (hw : Wd G (61 + 13 * K) K ad M s H locs) (hl : LL ls b i ad) (hI : Inv (1000 * i) K M) (kk : LK p l e s m below meth c G b i cells slots Q ls) : W p l e room_1 s m #[Value.ref b] below meth c H locs cells slots Q (F0 m 646 ls []) := by
  obtain ⟨S, hX, hbl, hbA, hi, hL, hcc, hss⟩ := hA
  obtain ⟨P, D, n, b0, Wn, h⟩ := hI
  obtain ⟨t, htB, ht0, hAt, hTr⟩ := h.att (by omega)
  obtain ⟨hP0, hPK, hPb, hD, hD6, hn, hn1, hbn, hbn1, ht, ht30, hWn, hW20, hpl, hrt, hz2, hvr, hwt⟩ := id hAt
  obtain ⟨hP0', hP200, hD', -, hn', -, hbn', -, ht', -, hWn', -, hpl', hrt', hvr', hwt'⟩ := id hTr
  have hcs : cells ≤ room_1.cells ∧ slots ≤ room_1.slots := ⟨Nat.le_trans (Nat.le_add_right _ 26) hcc, Nat.le_trans (Nat.le_add_right _ 1732) hss⟩
  obtain ⟨x1, ex1⟩ : ∃ x, xs (nI (6 * i + 1)).toNatClampNeg = x := ⟨_, rfl⟩
  obtain ⟨x2, ex2⟩ : ∃ x, xs (nI (6 * i + 2)).toNatClampNeg = x := ⟨_, rfl⟩
  obtain ⟨x3, ex3⟩ : ∃ x, xs (nI (6 * i + 3)).toNatClampNeg = x := ⟨_, rfl⟩
  refine lv_aload_n S.1 S.2.1 dL_law_646 rfl (lv_at hl 1 rfl) ?_
  refine lv_aload_n S.1 S.2.1 dL_law_647 rfl (lv_at hl 0 rfl) ?_
  refine lv_iload_n S.1 S.2.1 dL_law_648 rfl (lv_at hl 3 rfl) ?_
  refine lv_iconst (v := nI 1) S.1 S.2.1 dL_law_649 (by decide) ?_
  refine lv_iadd S.1 S.2.1 dL_law_650 ?_
  refine m_top (nI_add (6 * i) 1) ?_
  refine va_sld S.1 S.2.1 hX hbl hbA hw.2.2.1 (vp_in_nI (by omega) (by omega)) dL_law_651 ?_
  refine m_top ex1 ?_
  refine lv_aload_n S.1 S.2.1 dL_law_652 rfl (lv_at hl 0 rfl) ?_
  refine lv_iload_n S.1 S.2.1 dL_law_653 rfl (lv_at hl 3 rfl) ?_
  refine lv_iconst (v := nI 2) S.1 S.2.1 dL_law_654 (by decide) ?_
  refine lv_iadd S.1 S.2.1 dL_law_655 ?_
  refine m_top (nI_add (6 * i) 2) ?_
  refine va_sld S.1 S.2.1 hX hbl hbA hw.2.2.1 (vp_in_nI (by omega) (by omega)) dL_law_656 ?_
  refine m_top ex2 ?_
  refine lv_aload_n S.1 S.2.1 dL_law_657 rfl (lv_at hl 0 rfl) ?_
  refine lv_iload_n S.1 S.2.1 dL_law_658 rfl (lv_at hl 3 rfl) ?_
  refine lv_iconst (v := nI 3) S.1 S.2.1 dL_law_659 (by decide) ?_
  refine lv_iadd S.1 S.2.1 dL_law_660 ?_
  refine m_top (nI_add (6 * i) 3) ?_
  refine va_sld S.1 S.2.1 hX hbl hbA hw.2.2.1 (vp_in_nI (by omega) (by omega)) dL_law_661 ?_
  refine m_top ex3 ?_
  refine r_VI (As := [.int x1, .int x2, .int x3]) (rest := []) 0 S hw (by omega) rfl rfl (c_X7_tankOf l G (61 + 13 * K) K ad M (by omega) D hD hD6 x1 x2 x3) mf_X7_tankOf wm_L_74 ⟨by decide, by decide⟩ hcs hl.1 rfl (Nat.le_of_ble_eq_true rfl) dL_law_662 (fun H locs hw => ?_)
  refine lv_topi (fun r1 er1 => ?_)
  refine lv_aload_n S.1 S.2.1 dL_law_665 rfl (lv_at hl 2 rfl) ?_
  refine lv_aload_n S.1 S.2.1 dL_law_666 rfl (lv_at hl 0 rfl) ?_
  refine lv_iload_n S.1 S.2.1 dL_law_667 rfl (lv_at hl 3 rfl) ?_
  refine lv_iconst (v := nI 1) S.1 S.2.1 dL_law_668 (by decide) ?_
  refine lv_iadd S.1 S.2.1 dL_law_669 ?_
  refine m_top (nI_add (6 * i) 1) ?_
  refine va_sld S.1 S.2.1 hX hbl hbA hw.2.2.1 (vp_in_nI (by omega) (by omega)) dL_law_670 ?_
  refine m_top ex1 ?_
  refine lv_aload_n S.1 S.2.1 dL_law_671 rfl (lv_at hl 0 rfl) ?_
  refine lv_iload_n S.1 S.2.1 dL_law_672 rfl (lv_at hl 3 rfl) ?_
  refine lv_iconst (v := nI 2) S.1 S.2.1 dL_law_673 (by decide) ?_
  refine lv_iadd S.1 S.2.1 dL_law_674 ?_
  refine m_top (nI_add (6 * i) 2) ?_
  refine va_sld S.1 S.2.1 hX hbl hbA hw.2.2.1 (vp_in_nI (by omega) (by omega)) dL_law_675 ?_
  refine m_top ex2 ?_
  refine lv_aload_n S.1 S.2.1 dL_law_676 rfl (lv_at hl 0 rfl) ?_
  refine lv_iload_n S.1 S.2.1 dL_law_677 rfl (lv_at hl 3 rfl) ?_
  refine lv_iconst (v := nI 3) S.1 S.2.1 dL_law_678 (by decide) ?_
  refine lv_iadd S.1 S.2.1 dL_law_679 ?_
  refine m_top (nI_add (6 * i) 3) ?_
  refine va_sld S.1 S.2.1 hX hbl hbA hw.2.2.1 (vp_in_nI (by omega) (by omega)) dL_law_680 ?_
  refine m_top ex3 ?_
  refine r_VI (As := [.int x1, .int x2, .int x3]) (rest := [.int r1]) 34 S hw (by omega) rfl rfl (c_X8_tankOf l G (61 + 13 * K) K ad M (by omega) D hD' hD6 x1 x2 x3) mf_X8_tankOf wm_L_78 ⟨by decide, by decide⟩ hcs hl.1 rfl (Nat.le_of_ble_eq_true rfl) dL_law_681 (fun H locs hw => ?_)
  refine lv_topi (fun r2 er2 => ?_)
  have hst : r1 = r2 := by rw [er1, er2]; exact st_tankOf h x1 x2 x3
  refine lv_icmp_eq (tgt := 791) S.1 S.2.1 dL_law_684 (by decide) (fun _ => ?_) (fun c9 => absurd hst c9)
  exact W.widen (by omega) (by omega) (kk K ad M _ _ ⟨P, D, n, b0, Wn, h.up (by omega)⟩ hw hl)

set_option maxHeartbeats 4000000 in
set_option maxRecDepth 100000 in
theorem lc_about (hA : LA p s m c G b L i xs cells slots) (hw : Wd G (61 + 13 * K) K ad M s H locs) (hl : LL ls b i ad) (hI : Inv (1000 * i) K M) (kk : LK p l e s m below meth c G b i cells slots Q ls) : W p l e room_1 s m #[Value.ref b] below meth c H locs cells slots Q (F0 m 689 ls []) := by
  obtain ⟨S, hX, hbl, hbA, hi, hL, hcc, hss⟩ := hA
  obtain ⟨P, D, n, b0, Wn, h⟩ := hI
  obtain ⟨t, htB, ht0, hAt, hTr⟩ := h.att (by omega)
  obtain ⟨hP0, hPK, hPb, hD, hD6, hn, hn1, hbn, hbn1, ht, ht30, hWn, hW20, hpl, hrt, hz2, hvr, hwt⟩ := id hAt
  obtain ⟨hP0', hP200, hD', -, hn', -, hbn', -, ht', -, hWn', -, hpl', hrt', hvr', hwt'⟩ := id hTr
  have hcs : cells ≤ room_1.cells ∧ slots ≤ room_1.slots := ⟨Nat.le_trans (Nat.le_add_right _ 26) hcc, Nat.le_trans (Nat.le_add_right _ 1732) hss⟩
  obtain ⟨x1, ex1⟩ : ∃ x, xs (nI (6 * i + 1)).toNatClampNeg = x := ⟨_, rfl⟩
  obtain ⟨x2, ex2⟩ : ∃ x, xs (nI (6 * i + 2)).toNatClampNeg = x := ⟨_, rfl⟩
  refine lv_aload_n S.1 S.2.1 dL_law_689 rfl (lv_at hl 1 rfl) ?_
  refine lv_aload_n S.1 S.2.1 dL_law_690 rfl (lv_at hl 0 rfl) ?_
  refine lv_iload_n S.1 S.2.1 dL_law_691 rfl (lv_at hl 3 rfl) ?_
  refine lv_iconst (v := nI 1) S.1 S.2.1 dL_law_692 (by decide) ?_
  refine lv_iadd S.1 S.2.1 dL_law_693 ?_
  refine m_top (nI_add (6 * i) 1) ?_
  refine va_sld S.1 S.2.1 hX hbl hbA hw.2.2.1 (vp_in_nI (by omega) (by omega)) dL_law_694 ?_
  refine m_top ex1 ?_
  refine lv_aload_n S.1 S.2.1 dL_law_695 rfl (lv_at hl 0 rfl) ?_
  refine lv_iload_n S.1 S.2.1 dL_law_696 rfl (lv_at hl 3 rfl) ?_
  refine lv_iconst (v := nI 2) S.1 S.2.1 dL_law_697 (by decide) ?_
  refine lv_iadd S.1 S.2.1 dL_law_698 ?_
  refine m_top (nI_add (6 * i) 2) ?_
  refine va_sld S.1 S.2.1 hX hbl hbA hw.2.2.1 (vp_in_nI (by omega) (by omega)) dL_law_699 ?_
  refine m_top ex2 ?_
  refine r_VI (As := [.int x1, .int x2]) (rest := []) 0 S hw (by omega) rfl rfl (c_X7_about l G (61 + 13 * K) K ad M (by omega) D hD hD6 x1 x2) mf_X7_about wm_L_79 ⟨by decide, by decide⟩ hcs hl.1 rfl (Nat.le_of_ble_eq_true rfl) dL_law_700 (fun H locs hw => ?_)
  refine lv_topi (fun r1 er1 => ?_)
  refine lv_aload_n S.1 S.2.1 dL_law_703 rfl (lv_at hl 2 rfl) ?_
  refine lv_aload_n S.1 S.2.1 dL_law_704 rfl (lv_at hl 0 rfl) ?_
  refine lv_iload_n S.1 S.2.1 dL_law_705 rfl (lv_at hl 3 rfl) ?_
  refine lv_iconst (v := nI 1) S.1 S.2.1 dL_law_706 (by decide) ?_
  refine lv_iadd S.1 S.2.1 dL_law_707 ?_
  refine m_top (nI_add (6 * i) 1) ?_
  refine va_sld S.1 S.2.1 hX hbl hbA hw.2.2.1 (vp_in_nI (by omega) (by omega)) dL_law_708 ?_
  refine m_top ex1 ?_
  refine lv_aload_n S.1 S.2.1 dL_law_709 rfl (lv_at hl 0 rfl) ?_
  refine lv_iload_n S.1 S.2.1 dL_law_710 rfl (lv_at hl 3 rfl) ?_
  refine lv_iconst (v := nI 2) S.1 S.2.1 dL_law_711 (by decide) ?_
  refine lv_iadd S.1 S.2.1 dL_law_712 ?_
  refine m_top (nI_add (6 * i) 2) ?_
  refine va_sld S.1 S.2.1 hX hbl hbA hw.2.2.1 (vp_in_nI (by omega) (by omega)) dL_law_713 ?_
  refine m_top ex2 ?_
  refine r_VI (As := [.int x1, .int x2]) (rest := [.int r1]) 34 S hw (by omega) rfl rfl (c_X8_about l G (61 + 13 * K) K ad M (by omega) D hD' hD6 x1 x2) mf_X8_about wm_L_82 ⟨by decide, by decide⟩ hcs hl.1 rfl (Nat.le_of_ble_eq_true rfl) dL_law_714 (fun H locs hw => ?_)
  refine lv_topi (fun r2 er2 => ?_)
  have hst : r1 = r2 := by rw [er1, er2]; exact st_about h x1 x2
  refine lv_icmp_eq (tgt := 791) S.1 S.2.1 dL_law_717 (by decide) (fun _ => ?_) (fun c9 => absurd hst c9)
  exact W.widen (by omega) (by omega) (kk K ad M _ _ ⟨P, D, n, b0, Wn, h.up (by omega)⟩ hw hl)

set_option maxHeartbeats 4000000 in
set_option maxRecDepth 100000 in
theorem lc_wished (hA : LA p s m c G b L i xs cells slots) (hw : Wd G (61 + 13 * K) K ad M s H locs) (hl : LL ls b i ad) (hI : Inv (1000 * i) K M) (kk : LK p l e s m below meth c G b i cells slots Q ls) : W p l e room_1 s m #[Value.ref b] below meth c H locs cells slots Q (F0 m 722 ls []) := by
  obtain ⟨S, hX, hbl, hbA, hi, hL, hcc, hss⟩ := hA
  obtain ⟨P, D, n, b0, Wn, h⟩ := hI
  obtain ⟨t, htB, ht0, hAt, hTr⟩ := h.att (by omega)
  obtain ⟨hP0, hPK, hPb, hD, hD6, hn, hn1, hbn, hbn1, ht, ht30, hWn, hW20, hpl, hrt, hz2, hvr, hwt⟩ := id hAt
  obtain ⟨hP0', hP200, hD', -, hn', -, hbn', -, ht', -, hWn', -, hpl', hrt', hvr', hwt'⟩ := id hTr
  have hcs : cells ≤ room_1.cells ∧ slots ≤ room_1.slots := ⟨Nat.le_trans (Nat.le_add_right _ 26) hcc, Nat.le_trans (Nat.le_add_right _ 1732) hss⟩
  obtain ⟨x1, ex1⟩ : ∃ x, xs (nI (6 * i + 1)).toNatClampNeg = x := ⟨_, rfl⟩
  obtain ⟨x2, ex2⟩ : ∃ x, xs (nI (6 * i + 2)).toNatClampNeg = x := ⟨_, rfl⟩
  refine lv_aload_n S.1 S.2.1 dL_law_722 rfl (lv_at hl 1 rfl) ?_
  refine lv_aload_n S.1 S.2.1 dL_law_723 rfl (lv_at hl 0 rfl) ?_
  refine lv_iload_n S.1 S.2.1 dL_law_724 rfl (lv_at hl 3 rfl) ?_
  refine lv_iconst (v := nI 1) S.1 S.2.1 dL_law_725 (by decide) ?_
  refine lv_iadd S.1 S.2.1 dL_law_726 ?_
  refine m_top (nI_add (6 * i) 1) ?_
  refine va_sld S.1 S.2.1 hX hbl hbA hw.2.2.1 (vp_in_nI (by omega) (by omega)) dL_law_727 ?_
  refine m_top ex1 ?_
  refine lv_aload_n S.1 S.2.1 dL_law_728 rfl (lv_at hl 0 rfl) ?_
  refine lv_iload_n S.1 S.2.1 dL_law_729 rfl (lv_at hl 3 rfl) ?_
  refine lv_iconst (v := nI 2) S.1 S.2.1 dL_law_730 (by decide) ?_
  refine lv_iadd S.1 S.2.1 dL_law_731 ?_
  refine m_top (nI_add (6 * i) 2) ?_
  refine va_sld S.1 S.2.1 hX hbl hbA hw.2.2.1 (vp_in_nI (by omega) (by omega)) dL_law_732 ?_
  refine m_top ex2 ?_
  refine r_VI (As := [.int x1, .int x2]) (rest := []) 0 S hw (by omega) rfl rfl (c_X7_wished l G (61 + 13 * K) K ad M (by omega) Wn hWn hW20 hwt x1 x2) mf_X7_wished wm_L_83 ⟨by decide, by decide⟩ hcs hl.1 rfl (Nat.le_of_ble_eq_true rfl) dL_law_733 (fun H locs hw => ?_)
  refine lv_topi (fun r1 er1 => ?_)
  refine lv_aload_n S.1 S.2.1 dL_law_736 rfl (lv_at hl 2 rfl) ?_
  refine lv_aload_n S.1 S.2.1 dL_law_737 rfl (lv_at hl 0 rfl) ?_
  refine lv_iload_n S.1 S.2.1 dL_law_738 rfl (lv_at hl 3 rfl) ?_
  refine lv_iconst (v := nI 1) S.1 S.2.1 dL_law_739 (by decide) ?_
  refine lv_iadd S.1 S.2.1 dL_law_740 ?_
  refine m_top (nI_add (6 * i) 1) ?_
  refine va_sld S.1 S.2.1 hX hbl hbA hw.2.2.1 (vp_in_nI (by omega) (by omega)) dL_law_741 ?_
  refine m_top ex1 ?_
  refine lv_aload_n S.1 S.2.1 dL_law_742 rfl (lv_at hl 0 rfl) ?_
  refine lv_iload_n S.1 S.2.1 dL_law_743 rfl (lv_at hl 3 rfl) ?_
  refine lv_iconst (v := nI 2) S.1 S.2.1 dL_law_744 (by decide) ?_
  refine lv_iadd S.1 S.2.1 dL_law_745 ?_
  refine m_top (nI_add (6 * i) 2) ?_
  refine va_sld S.1 S.2.1 hX hbl hbA hw.2.2.1 (vp_in_nI (by omega) (by omega)) dL_law_746 ?_
  refine m_top ex2 ?_
  refine r_VI (As := [.int x1, .int x2]) (rest := [.int r1]) 34 S hw (by omega) rfl rfl (c_X8_wished l G (61 + 13 * K) K ad M (by omega) Wn hWn' hW20 hwt' x1 x2) mf_X8_wished wm_L_86 ⟨by decide, by decide⟩ hcs hl.1 rfl (Nat.le_of_ble_eq_true rfl) dL_law_747 (fun H locs hw => ?_)
  refine lv_topi (fun r2 er2 => ?_)
  have hst : r1 = r2 := by rw [er1, er2]; exact st_wished h x1 x2
  refine lv_icmp_eq (tgt := 791) S.1 S.2.1 dL_law_750 (by decide) (fun _ => ?_) (fun c9 => absurd hst c9)
  exact W.widen (by omega) (by omega) (kk K ad M _ _ ⟨P, D, n, b0, Wn, h.up (by omega)⟩ hw hl)

set_option maxHeartbeats 4000000 in
set_option maxRecDepth 100000 in
theorem lc_count (hA : LA p s m c G b L i xs cells slots) (hw : Wd G (61 + 13 * K) K ad M s H locs) (hl : LL ls b i ad) (hI : Inv (1000 * i) K M) (kk : LK p l e s m below meth c G b i cells slots Q ls) : W p l e room_1 s m #[Value.ref b] below meth c H locs cells slots Q (F0 m 755 ls []) := by
  obtain ⟨S, hX, hbl, hbA, hi, hL, hcc, hss⟩ := hA
  obtain ⟨P, D, n, b0, Wn, h⟩ := hI
  obtain ⟨t, htB, ht0, hAt, hTr⟩ := h.att (by omega)
  obtain ⟨hP0, hPK, hPb, hD, hD6, hn, hn1, hbn, hbn1, ht, ht30, hWn, hW20, hpl, hrt, hz2, hvr, hwt⟩ := id hAt
  obtain ⟨hP0', hP200, hD', -, hn', -, hbn', -, ht', -, hWn', -, hpl', hrt', hvr', hwt'⟩ := id hTr
  have hcs : cells ≤ room_1.cells ∧ slots ≤ room_1.slots := ⟨Nat.le_trans (Nat.le_add_right _ 26) hcc, Nat.le_trans (Nat.le_add_right _ 1732) hss⟩
  obtain ⟨x1, ex1⟩ : ∃ x, xs (nI (6 * i + 1)).toNatClampNeg = x := ⟨_, rfl⟩
  refine lv_aload_n S.1 S.2.1 dL_law_755 rfl (lv_at hl 1 rfl) ?_
  refine lv_aload_n S.1 S.2.1 dL_law_756 rfl (lv_at hl 0 rfl) ?_
  refine lv_iload_n S.1 S.2.1 dL_law_757 rfl (lv_at hl 3 rfl) ?_
  refine lv_iconst (v := nI 1) S.1 S.2.1 dL_law_758 (by decide) ?_
  refine lv_iadd S.1 S.2.1 dL_law_759 ?_
  refine m_top (nI_add (6 * i) 1) ?_
  refine va_sld S.1 S.2.1 hX hbl hbA hw.2.2.1 (vp_in_nI (by omega) (by omega)) dL_law_760 ?_
  refine m_top ex1 ?_
  refine r_VI (As := [.int x1]) (rest := []) 0 S hw (by omega) rfl rfl (c_X7_count l G (61 + 13 * K) K ad M (by omega) n hn hn1 Wn hWn hW20 x1) mf_X7_count wm_L_87 ⟨by decide, by decide⟩ hcs hl.1 rfl (Nat.le_of_ble_eq_true rfl) dL_law_761 (fun H locs hw => ?_)
  refine lv_topi (fun r1 er1 => ?_)
  refine lv_aload_n S.1 S.2.1 dL_law_764 rfl (lv_at hl 2 rfl) ?_
  refine lv_aload_n S.1 S.2.1 dL_law_765 rfl (lv_at hl 0 rfl) ?_
  refine lv_iload_n S.1 S.2.1 dL_law_766 rfl (lv_at hl 3 rfl) ?_
  refine lv_iconst (v := nI 1) S.1 S.2.1 dL_law_767 (by decide) ?_
  refine lv_iadd S.1 S.2.1 dL_law_768 ?_
  refine m_top (nI_add (6 * i) 1) ?_
  refine va_sld S.1 S.2.1 hX hbl hbA hw.2.2.1 (vp_in_nI (by omega) (by omega)) dL_law_769 ?_
  refine m_top ex1 ?_
  refine r_VI (As := [.int x1]) (rest := [.int r1]) 34 S hw (by omega) rfl rfl (c_X8_count l G (61 + 13 * K) K ad M (by omega) D hD' hD6 n hn' hn1 Wn hWn' hW20 x1) mf_X8_count wm_L_90 ⟨by decide, by decide⟩ hcs hl.1 rfl (Nat.le_of_ble_eq_true rfl) dL_law_770 (fun H locs hw => ?_)
  refine lv_topi (fun r2 er2 => ?_)
  have hst : r1 = r2 := by rw [er1, er2]; exact st_count h x1
  refine lv_icmp_eq (tgt := 791) S.1 S.2.1 dL_law_773 (by decide) (fun _ => ?_) (fun c9 => absurd hst c9)
  exact W.widen (by omega) (by omega) (kk K ad M _ _ ⟨P, D, n, b0, Wn, h.up (by omega)⟩ hw hl)

set_option maxHeartbeats 4000000 in
set_option maxRecDepth 100000 in
theorem lc_borders (hA : LA p s m c G b L i xs cells slots) (hw : Wd G (61 + 13 * K) K ad M s H locs) (hl : LL ls b i ad) (hI : Inv (1000 * i) K M) (kk : LK p l e s m below meth c G b i cells slots Q ls) : W p l e room_1 s m #[Value.ref b] below meth c H locs cells slots Q (F0 m 778 ls []) := by
  obtain ⟨S, hX, hbl, hbA, hi, hL, hcc, hss⟩ := hA
  obtain ⟨P, D, n, b0, Wn, h⟩ := hI
  obtain ⟨t, htB, ht0, hAt, hTr⟩ := h.att (by omega)
  obtain ⟨hP0, hPK, hPb, hD, hD6, hn, hn1, hbn, hbn1, ht, ht30, hWn, hW20, hpl, hrt, hz2, hvr, hwt⟩ := id hAt
  obtain ⟨hP0', hP200, hD', -, hn', -, hbn', -, ht', -, hWn', -, hpl', hrt', hvr', hwt'⟩ := id hTr
  have hcs : cells ≤ room_1.cells ∧ slots ≤ room_1.slots := ⟨Nat.le_trans (Nat.le_add_right _ 26) hcc, Nat.le_trans (Nat.le_add_right _ 1732) hss⟩
  refine lv_aload_n S.1 S.2.1 dL_law_778 rfl (lv_at hl 1 rfl) ?_
  refine r_VI (As := []) (rest := []) 0 S hw (by omega) rfl rfl (c_X7_borders l G (61 + 13 * K) K ad M (by omega) n hn hn1 ) mf_X7_borders wm_L_91 ⟨by decide, by decide⟩ hcs hl.1 rfl (Nat.le_of_ble_eq_true rfl) dL_law_779 (fun H locs hw => ?_)
  refine lv_topi (fun r1 er1 => ?_)
  refine lv_aload_n S.1 S.2.1 dL_law_782 rfl (lv_at hl 2 rfl) ?_
  refine r_VI (As := []) (rest := [.int r1]) 34 S hw (by omega) rfl rfl (c_X8_borders l G (61 + 13 * K) K ad M (by omega) n hn' hn1 ) mf_X8_borders wm_L_94 ⟨by decide, by decide⟩ hcs hl.1 rfl (Nat.le_of_ble_eq_true rfl) dL_law_783 (fun H locs hw => ?_)
  refine lv_topi (fun r2 er2 => ?_)
  have hst : r1 = r2 := by rw [er1, er2]; exact st_borders h 
  refine lv_icmp_eq (tgt := 791) S.1 S.2.1 dL_law_786 (by decide) (fun _ => ?_) (fun c9 => absurd hst c9)
  exact W.widen (by omega) (by omega) (kk K ad M _ _ ⟨P, D, n, b0, Wn, h.up (by omega)⟩ hw hl)

end LAW
