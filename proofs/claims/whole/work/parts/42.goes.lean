theorem sm3 {T R : Mem} {d m ka : Nat} (e : tn (R 3 m) = ka) (hp : pureB (R 4) m = false) (h : (!eqB (T 9 (d * 8 + ka)) 0 && bearB (R 8) (R 7) (T 4 ka) (d * 8 + ka)) = true) : sinkS T R d m = some (d * 8 + ka) := by
  unfold sinkS
  rw [if_neg (by rw [hp]; decide), e, if_pos h]
theorem sm4 {T R : Mem} {d m ka kb : Nat} (e : tn (R 3 m) = ka) (e2 : tn (R 4 m) = kb) (hp : pureB (R 4) m = false) (h : (!eqB (T 9 (d * 8 + ka)) 0 && bearB (R 8) (R 7) (T 4 ka) (d * 8 + ka)) = false) (h2 : (!eqB (T 9 (d * 8 + kb)) 0 && bearB (R 8) (R 7) (T 4 kb) (d * 8 + kb)) = true) : sinkS T R d m = some (d * 8 + kb) := by
  unfold sinkS
  rw [if_neg (by rw [hp]; decide), e, if_neg (by rw [h]; decide), e2, if_pos h2]
theorem sm5 {T R : Mem} {d m ka kb : Nat} (e : tn (R 3 m) = ka) (e2 : tn (R 4 m) = kb) (hp : pureB (R 4) m = false) (h : (!eqB (T 9 (d * 8 + ka)) 0 && bearB (R 8) (R 7) (T 4 ka) (d * 8 + ka)) = false) (h2 : (!eqB (T 9 (d * 8 + kb)) 0 && bearB (R 8) (R 7) (T 4 kb) (d * 8 + kb)) = false) : sinkS T R d m = none := by
  unfold sinkS
  rw [if_neg (by rw [hp]; decide), e, if_neg (by rw [h]; decide), e2, if_neg (by rw [h2]; decide)]

set_option maxHeartbeats 4000000 in
set_option maxRecDepth 100000 in
/-- reference: goesOut -/
theorem c_X8_goesOut (l : Launch) (G : GT) (N K : Nat) (ad : Nat → Nat) (M : Mem) (h61 : 61 ≤ N) (mz d : Nat) (hm1 : mz < 120) (hd6 : d < 6) (ka : Nat) (hka : M 36 mz = nI ka) (hka8 : ka < 8) (kb : Nat) (hkb : pureB (M 37) mz = false → M 37 mz = nI kb) (hkb8 : kb < 8) (bm : Nat) (hbm : M 35 mz = nI bm) (hbm1 : bm < 200) : CmI l G N K ad yX8_goesOut cX8_goesOut 5 .boolean 1 21 [.ref (ad 34), .int (nI mz), .int (nI d)] M (fun r M1 => r = b01 (fullB (modT M) (modR M) (sinkS (modT M) (modR M) d mz)) ∧ M1 48 = outAm (sinkS (modT M) (modR M) d mz) (M 48) ∧ M1 49 = outFr (sinkS (modT M) (modR M) d mz) (pureB (M 37) mz) (M 49) ∧ M1 50 = outAm (sinkS (modT M) (modR M) d mz) (M 50) ∧ M1 44 = outSl (sinkS (modT M) (modR M) d mz) d (M 44) ∧ M1 41 = outWo (M 41) bm ∧ (∀ k, k ≠ 41 ∧ k ≠ 44 ∧ k ≠ 48 ∧ k ≠ 49 ∧ k ≠ 50 → M1 k = M k)) := by
  refine cm_startI (by decide +kernel) (Nat.le_of_ble_eq_true rfl) ?_
  intro p e s m below meth c ls S hr hlocks hw hl
  have hl : lv_has ls 5 [(0, .ref (ad 34)), (1, .int (nI mz)), (2, .int (nI d))] := hl
  have et : tn (M 36 mz) = ka := by rw [hka]; exact tn_nI (by omega)
  refine lv_iconst (v := (-1)) S.1 S.2.1 dX8_goesOut_0 (by decide) ?_
  refine lv_istore_n (lv' := [(3, .int (-1)), (0, .ref (ad 34)), (1, .int (nI mz)), (2, .int (nI d))]) S.1 S.2.1 dX8_goesOut_1 rfl hl (by decide) rfl (fun ls hl => ?_)
  refine lv_iconst (v := nI 0) S.1 S.2.1 dX8_goesOut_2 (by decide) ?_
  refine lv_istore (lv' := [(4, .int (nI 0)), (3, .int (-1)), (0, .ref (ad 34)), (1, .int (nI mz)), (2, .int (nI d))]) S.1 S.2.1 dX8_goesOut_3 hl (by decide) rfl (fun ls hl => ?_)
  refine lv_aload_n S.1 S.2.1 dX8_goesOut_5 rfl (lv_at hl 2 rfl) ?_
  refine m_getR 34 9 41 S hw (by omega) rfl rfl rfl in_X8 (by decide) wf_X8_38 dX8_goesOut_6 ?_
  refine lv_aload_n S.1 S.2.1 dX8_goesOut_9 rfl (lv_at hl 2 rfl) ?_
  refine m_getR 34 2 35 S hw (by omega) rfl rfl rfl in_X8 (by decide) wf_X8_16 dX8_goesOut_10 ?_
  refine lv_iload_n S.1 S.2.1 dX8_goesOut_13 rfl (lv_at hl 3 rfl) ?_
  refine m_ald 35 mz S hw (by omega) rfl (by decide) (by omega) rfl dX8_goesOut_14 ?_
  refine m_top (show M 35 mz = nI bm from hbm) ?_
  refine lv_dup2_11 S.1 S.2.1 dX8_goesOut_15 rfl rfl ?_
  refine m_ald 41 bm S hw (by omega) rfl (by decide) (by omega) rfl dX8_goesOut_16 ?_
  refine lv_iconst (v := nI 1) S.1 S.2.1 dX8_goesOut_17 (by decide) ?_
  refine lv_iadd S.1 S.2.1 dX8_goesOut_18 ?_
  refine n_ast 41 bm S hw (by omega) rfl (by decide) (by omega) rfl dX8_goesOut_19 (fun M1 H locs eM1 hw => ?_)
  refine lv_aload_n S.1 S.2.1 dX8_goesOut_20 rfl (lv_at hl 2 rfl) ?_
  refine lv_iload_n S.1 S.2.1 dX8_goesOut_21 rfl (lv_at hl 3 rfl) ?_
  refine r_VI (As := [.int (nI mz)]) (rest := []) 34 S hw (by omega) rfl rfl (c_X8_isPure l G N K ad M1 h61 mz (by omega)) mf_X8_isPure wm_X8_146 ⟨by decide, by decide⟩ ⟨Nat.le_refl _, Nat.le_refl _⟩ hl.1 rfl (Nat.le_of_ble_eq_true rfl) dX8_goesOut_22 (fun H locs hw => ?_)
  refine b_eq (tgt := 66) S dX8_goesOut_25 (by decide) (fun c2 => ?_) (fun c2 => ?_)
  · have hq3 : M1 37 = M 37 := by rw [eM1, va_up_ne _ _ (by omega)]
    have hpq : pureB (M 37) mz = false := by rw [← hq3]; exact c2
    have hkb := hkb hpq
    have et2 : tn (M 37 mz) = kb := by rw [hkb]; exact tn_nI (by omega)
    refine lv_iconst (v := nI 1) S.1 S.2.1 dX8_goesOut_66 (by decide) ?_
    refine lv_istore (lv' := [(4, .int (nI 1)), (3, .int (-1)), (0, .ref (ad 34)), (1, .int (nI mz)), (2, .int (nI d))]) S.1 S.2.1 dX8_goesOut_67 hl (by decide) rfl (fun ls hl => ?_)
    refine lv_aload_n S.1 S.2.1 dX8_goesOut_69 rfl (lv_at hl 2 rfl) ?_
    refine lv_bipush (v := nI 8) S.1 S.2.1 dX8_goesOut_70 (by decide) ?_
    refine lv_iload_n S.1 S.2.1 dX8_goesOut_72 rfl (lv_at hl 4 rfl) ?_
    refine lv_imul S.1 S.2.1 dX8_goesOut_73 ?_
    refine m_top (show (nI 8) * (nI d) = nI (d * 8) from by rw [pk_mul, Nat.mul_comm]) ?_
    refine lv_aload_n S.1 S.2.1 dX8_goesOut_74 rfl (lv_at hl 2 rfl) ?_
    refine m_getR 34 3 36 S hw (by omega) rfl rfl rfl in_X8 (by decide) wf_X8_20 dX8_goesOut_75 ?_
    refine lv_iload_n S.1 S.2.1 dX8_goesOut_78 rfl (lv_at hl 3 rfl) ?_
    refine m_ald 36 mz S hw (by omega) rfl (by decide) (by omega) rfl dX8_goesOut_79 ?_
    have hq4 : M1 36 = M 36 := by rw [eM1, va_up_ne _ _ (by omega)]
    refine m_top (show M1 36 mz = M 36 mz from congrFun hq4 mz) ?_
    refine m_top (show M 36 mz = nI ka from hka) ?_
    refine lv_iadd S.1 S.2.1 dX8_goesOut_80 ?_
    refine m_top (show (nI (d * 8)) + (nI ka) = nI (d * 8 + ka) from nI_add _ _) ?_
    refine r_VI (As := [.int (nI (d * 8 + ka))]) (rest := []) 34 S hw (by omega) rfl rfl (c_X8_fits l G N K ad M1 h61 d ka (by omega) (by omega)) mf_X8_fits wm_X8_156 ⟨by decide, by decide⟩ ⟨Nat.le_refl _, Nat.le_refl _⟩ hl.1 rfl (Nat.le_of_ble_eq_true rfl) dX8_goesOut_81 (fun H locs hw => ?_)
    refine b_eq (tgt := 101) S dX8_goesOut_84 (by decide) (fun c5 => ?_) (fun c5 => ?_)
    · have hq6 : M1 45 = M 45 := by rw [eM1, va_up_ne _ _ (by omega)]
      have hq7 : M1 48 = M 48 := by rw [eM1, va_up_ne _ _ (by omega)]
      have hq8 : M1 49 = M 49 := by rw [eM1, va_up_ne _ _ (by omega)]
      have hq9 : M1 53 = M 53 := by rw [eM1, va_up_ne _ _ (by omega)]
      have gc5 : (!eqB (M 45 (d * 8 + ka)) 0 && bearB (M 49) (M 48) (M 53 ka) (d * 8 + ka)) = false := by rw [← hq6, ← hq7, ← hq8, ← hq9]; exact c5
      refine lv_aload_n S.1 S.2.1 dX8_goesOut_101 rfl (lv_at hl 2 rfl) ?_
      refine lv_bipush (v := nI 8) S.1 S.2.1 dX8_goesOut_102 (by decide) ?_
      refine lv_iload_n S.1 S.2.1 dX8_goesOut_104 rfl (lv_at hl 4 rfl) ?_
      refine lv_imul S.1 S.2.1 dX8_goesOut_105 ?_
      refine m_top (show (nI 8) * (nI d) = nI (d * 8) from by rw [pk_mul, Nat.mul_comm]) ?_
      refine lv_aload_n S.1 S.2.1 dX8_goesOut_106 rfl (lv_at hl 2 rfl) ?_
      refine m_getR 34 4 37 S hw (by omega) rfl rfl rfl in_X8 (by decide) wf_X8_23 dX8_goesOut_107 ?_
      refine lv_iload_n S.1 S.2.1 dX8_goesOut_110 rfl (lv_at hl 3 rfl) ?_
      refine m_ald 37 mz S hw (by omega) rfl (by decide) (by omega) rfl dX8_goesOut_111 ?_
      refine m_top (show M1 37 mz = M 37 mz from congrFun hq3 mz) ?_
      refine m_top (show M 37 mz = nI kb from hkb) ?_
      refine lv_iadd S.1 S.2.1 dX8_goesOut_112 ?_
      refine m_top (show (nI (d * 8)) + (nI kb) = nI (d * 8 + kb) from nI_add _ _) ?_
      refine r_VI (As := [.int (nI (d * 8 + kb))]) (rest := []) 34 S hw (by omega) rfl rfl (c_X8_fits l G N K ad M1 h61 d kb (by omega) (by omega)) mf_X8_fits wm_X8_156 ⟨by decide, by decide⟩ ⟨Nat.le_refl _, Nat.le_refl _⟩ hl.1 rfl (Nat.le_of_ble_eq_true rfl) dX8_goesOut_113 (fun H locs hw => ?_)
      refine b_eq (tgt := 133) S dX8_goesOut_116 (by decide) (fun c10 => ?_) (fun c10 => ?_)
      · have gc10 : (!eqB (M 45 (d * 8 + kb)) 0 && bearB (M 49) (M 48) (M 53 kb) (d * 8 + kb)) = false := by rw [← hq6, ← hq7, ← hq8, ← hq9]; exact c10
        refine lv_iconst (v := (-1)) S.1 S.2.1 dX8_goesOut_133 (by decide) ?_
        refine lv_istore_n (lv' := [(3, .int (-1)), (4, .int (nI 1)), (0, .ref (ad 34)), (1, .int (nI mz)), (2, .int (nI d))]) S.1 S.2.1 dX8_goesOut_134 rfl hl (by decide) rfl (fun ls hl => ?_)
        have hsk : sinkS (modT M) (modR M) d mz = none := sm5 (T := modT M) (R := modR M) et et2 hpq gc5 gc10
        refine lv_iload_n S.1 S.2.1 dX8_goesOut_135 rfl (lv_at hl 0 rfl) ?_
        refine lv_iconst (v := (-1)) S.1 S.2.1 dX8_goesOut_136 (by decide) ?_
        refine lv_icmp_ne (tgt := 152) S.1 S.2.1 dX8_goesOut_137 (by decide) (fun c11 => absurd c11 (fun z => z rfl)) (fun c11 => ?_)
        refine lv_aload_n S.1 S.2.1 dX8_goesOut_140 rfl (lv_at hl 2 rfl) ?_
        refine m_getR 34 13 44 S hw (by omega) rfl rfl rfl in_X8 (by decide) wf_X8_47 dX8_goesOut_141 ?_
        refine lv_iload_n S.1 S.2.1 dX8_goesOut_144 rfl (lv_at hl 4 rfl) ?_
        refine lv_dup2_11 S.1 S.2.1 dX8_goesOut_145 rfl rfl ?_
        refine m_ald 44 d S hw (by omega) rfl (by decide) (by omega) rfl dX8_goesOut_146 ?_
        have hq12 : M1 44 = M 44 := by rw [eM1, va_up_ne _ _ (by omega)]
        refine m_top (show M1 44 d = M 44 d from congrFun hq12 d) ?_
        refine lv_iconst (v := nI 1) S.1 S.2.1 dX8_goesOut_147 (by decide) ?_
        refine lv_iadd S.1 S.2.1 dX8_goesOut_148 ?_
        refine n_ast 44 d S hw (by omega) rfl (by decide) (by omega) rfl dX8_goesOut_149 (fun M13 H locs eM13 hw => ?_)
        refine lv_iconst (v := nI 0) S.1 S.2.1 dX8_goesOut_150 (by decide) ?_
        have hq14 : M13 48 = M 48 := by rw [eM13, va_up_ne _ _ (by omega), hq7]
        have hq15 : M13 49 = M 49 := by rw [eM13, va_up_ne _ _ (by omega), hq8]
        have hq16 : M1 50 = M 50 := by rw [eM1, va_up_ne _ _ (by omega)]
        have hq17 : M13 50 = M 50 := by rw [eM13, va_up_ne _ _ (by omega), hq16]
        have hq18 : M13 44 = upd (M 44) d ((M 44 d) + (nI 1)) := by rw [eM13, va_up_self, hq12]
        have hq19 : M1 41 = upd (M 41) bm ((M 41 bm) + (nI 1)) := by rw [eM1, va_up_self]
        have hq20 : M13 41 = upd (M 41) bm ((M 41 bm) + (nI 1)) := by rw [eM13, va_up_ne _ _ (by omega), hq19]
        exact m_retz S hr hlocks hw dX8_goesOut_151 rfl ⟨by rw [hsk]; rfl, hq14.trans (by rw [hsk]; rfl), hq15.trans (by rw [hsk]; rfl), hq17.trans (by rw [hsk]; rfl), hq18.trans (by rw [hsk]; rfl), hq20, (fun k hk => ((show M13 k = M1 k by rw [eM13]; exact va_up_ne _ _ (by omega)).trans (show M1 k = M k by rw [eM1]; exact va_up_ne _ _ (by omega))))⟩
      · have gc10 : (!eqB (M 45 (d * 8 + kb)) 0 && bearB (M 49) (M 48) (M 53 kb) (d * 8 + kb)) = true := by rw [← hq6, ← hq7, ← hq8, ← hq9]; exact c10
        refine lv_bipush (v := nI 8) S.1 S.2.1 dX8_goesOut_119 (by decide) ?_
        refine lv_iload_n S.1 S.2.1 dX8_goesOut_121 rfl (lv_at hl 4 rfl) ?_
        refine lv_imul S.1 S.2.1 dX8_goesOut_122 ?_
        refine m_top (show (nI 8) * (nI d) = nI (d * 8) from by rw [pk_mul, Nat.mul_comm]) ?_
        refine lv_aload_n S.1 S.2.1 dX8_goesOut_123 rfl (lv_at hl 2 rfl) ?_
        refine m_getR 34 4 37 S hw (by omega) rfl rfl rfl in_X8 (by decide) wf_X8_23 dX8_goesOut_124 ?_
        refine lv_iload_n S.1 S.2.1 dX8_goesOut_127 rfl (lv_at hl 3 rfl) ?_
        refine m_ald 37 mz S hw (by omega) rfl (by decide) (by omega) rfl dX8_goesOut_128 ?_
        refine m_top (show M1 37 mz = M 37 mz from congrFun hq3 mz) ?_
        refine m_top (show M 37 mz = nI kb from hkb) ?_
        refine lv_iadd S.1 S.2.1 dX8_goesOut_129 ?_
        refine m_top (show (nI (d * 8)) + (nI kb) = nI (d * 8 + kb) from nI_add _ _) ?_
        refine lv_goto (tgt := 134) S.1 S.2.1 dX8_goesOut_130 (by decide) ?_
        refine lv_istore_n (lv' := [(3, .int (nI (d * 8 + kb))), (4, .int (nI 1)), (0, .ref (ad 34)), (1, .int (nI mz)), (2, .int (nI d))]) S.1 S.2.1 dX8_goesOut_134 rfl hl (by decide) rfl (fun ls hl => ?_)
        have hsk : sinkS (modT M) (modR M) d mz = (some (d * 8 + kb)) := sm4 (T := modT M) (R := modR M) et et2 hpq gc5 gc10
        refine lv_iload_n S.1 S.2.1 dX8_goesOut_135 rfl (lv_at hl 0 rfl) ?_
        refine lv_iconst (v := (-1)) S.1 S.2.1 dX8_goesOut_136 (by decide) ?_
        refine lv_icmp_ne (tgt := 152) S.1 S.2.1 dX8_goesOut_137 (by decide) (fun c21 => ?_) (fun c21 => absurd c21 (enc_ne (by omega)))
        refine lv_aload_n S.1 S.2.1 dX8_goesOut_152 rfl (lv_at hl 2 rfl) ?_
        refine m_getR 34 17 48 S hw (by omega) rfl rfl rfl in_X8 (by decide) wf_X8_60 dX8_goesOut_153 ?_
        refine lv_iload_n S.1 S.2.1 dX8_goesOut_156 rfl (lv_at hl 0 rfl) ?_
        refine lv_dup2_11 S.1 S.2.1 dX8_goesOut_157 rfl rfl ?_
        refine m_ald 48 (d * 8 + kb) S hw (by omega) rfl (by decide) (by omega) rfl dX8_goesOut_158 ?_
        refine m_top (show M1 48 (d * 8 + kb) = M 48 (d * 8 + kb) from congrFun hq7 (d * 8 + kb)) ?_
        refine lv_iconst (v := nI 1) S.1 S.2.1 dX8_goesOut_159 (by decide) ?_
        refine lv_iadd S.1 S.2.1 dX8_goesOut_160 ?_
        refine n_ast 48 (d * 8 + kb) S hw (by omega) rfl (by decide) (by omega) rfl dX8_goesOut_161 (fun M22 H locs eM22 hw => ?_)
        refine lv_aload_n S.1 S.2.1 dX8_goesOut_162 rfl (lv_at hl 2 rfl) ?_
        refine m_getR 34 18 49 S hw (by omega) rfl rfl rfl in_X8 (by decide) wf_X8_63 dX8_goesOut_163 ?_
        refine lv_iload_n S.1 S.2.1 dX8_goesOut_166 rfl (lv_at hl 0 rfl) ?_
        refine lv_dup2_11 S.1 S.2.1 dX8_goesOut_167 rfl rfl ?_
        refine m_ald 49 (d * 8 + kb) S hw (by omega) rfl (by decide) (by omega) rfl dX8_goesOut_168 ?_
        have hq23 : M22 49 = M 49 := by rw [eM22, va_up_ne _ _ (by omega), hq8]
        refine m_top (show M22 49 (d * 8 + kb) = M 49 (d * 8 + kb) from congrFun hq23 (d * 8 + kb)) ?_
        refine lv_iload S.1 S.2.1 dX8_goesOut_169 (lv_at hl 1 rfl) ?_
        refine lv_iadd S.1 S.2.1 dX8_goesOut_171 ?_
        refine n_ast 49 (d * 8 + kb) S hw (by omega) rfl (by decide) (by omega) rfl dX8_goesOut_172 (fun M24 H locs eM24 hw => ?_)
        refine lv_aload_n S.1 S.2.1 dX8_goesOut_173 rfl (lv_at hl 2 rfl) ?_
        refine m_getR 34 19 50 S hw (by omega) rfl rfl rfl in_X8 (by decide) wf_X8_66 dX8_goesOut_174 ?_
        refine lv_iload_n S.1 S.2.1 dX8_goesOut_177 rfl (lv_at hl 0 rfl) ?_
        refine lv_dup2_11 S.1 S.2.1 dX8_goesOut_178 rfl rfl ?_
        refine m_ald 50 (d * 8 + kb) S hw (by omega) rfl (by decide) (by omega) rfl dX8_goesOut_179 ?_
        have hq25 : M1 50 = M 50 := by rw [eM1, va_up_ne _ _ (by omega)]
        have hq26 : M22 50 = M 50 := by rw [eM22, va_up_ne _ _ (by omega), hq25]
        have hq27 : M24 50 = M 50 := by rw [eM24, va_up_ne _ _ (by omega), hq26]
        refine m_top (show M24 50 (d * 8 + kb) = M 50 (d * 8 + kb) from congrFun hq27 (d * 8 + kb)) ?_
        refine lv_iconst (v := nI 1) S.1 S.2.1 dX8_goesOut_180 (by decide) ?_
        refine lv_iadd S.1 S.2.1 dX8_goesOut_181 ?_
        refine n_ast 50 (d * 8 + kb) S hw (by omega) rfl (by decide) (by omega) rfl dX8_goesOut_182 (fun M28 H locs eM28 hw => ?_)
        refine lv_aload_n S.1 S.2.1 dX8_goesOut_183 rfl (lv_at hl 2 rfl) ?_
        refine m_getR 34 17 48 S hw (by omega) rfl rfl rfl in_X8 (by decide) wf_X8_60 dX8_goesOut_184 ?_
        refine lv_iload_n S.1 S.2.1 dX8_goesOut_187 rfl (lv_at hl 0 rfl) ?_
        refine m_ald 48 (d * 8 + kb) S hw (by omega) rfl (by decide) (by omega) rfl dX8_goesOut_188 ?_
        have hq29 : M22 48 = upd (M 48) (d * 8 + kb) ((M 48 (d * 8 + kb)) + (nI 1)) := by rw [eM22, va_up_self, hq7]
        have hq30 : M24 48 = upd (M 48) (d * 8 + kb) ((M 48 (d * 8 + kb)) + (nI 1)) := by rw [eM24, va_up_ne _ _ (by omega), hq29]
        have hq31 : M28 48 = upd (M 48) (d * 8 + kb) ((M 48 (d * 8 + kb)) + (nI 1)) := by rw [eM28, va_up_ne _ _ (by omega), hq30]
        refine m_top (show M28 48 (d * 8 + kb) = (upd (M 48) (d * 8 + kb) ((M 48 (d * 8 + kb)) + (nI 1))) (d * 8 + kb) from congrFun hq31 (d * 8 + kb)) ?_
        refine m_top (show (upd (M 48) (d * 8 + kb) ((M 48 (d * 8 + kb)) + (nI 1))) (d * 8 + kb) = (M 48 (d * 8 + kb)) + (nI 1) from pk_us) ?_
        refine lv_aload_n S.1 S.2.1 dX8_goesOut_189 rfl (lv_at hl 2 rfl) ?_
        refine m_getR 34 16 47 S hw (by omega) rfl rfl rfl in_X8 (by decide) wf_X8_57 dX8_goesOut_190 ?_
        refine lv_iload_n S.1 S.2.1 dX8_goesOut_193 rfl (lv_at hl 0 rfl) ?_
        refine m_ald 47 (d * 8 + kb) S hw (by omega) rfl (by decide) (by omega) rfl dX8_goesOut_194 ?_
        have hq32 : M1 47 = M 47 := by rw [eM1, va_up_ne _ _ (by omega)]
        have hq33 : M22 47 = M 47 := by rw [eM22, va_up_ne _ _ (by omega), hq32]
        have hq34 : M24 47 = M 47 := by rw [eM24, va_up_ne _ _ (by omega), hq33]
        have hq35 : M28 47 = M 47 := by rw [eM28, va_up_ne _ _ (by omega), hq34]
        refine m_top (show M28 47 (d * 8 + kb) = M 47 (d * 8 + kb) from congrFun hq35 (d * 8 + kb)) ?_
        refine lv_icmp_le (tgt := 202) S.1 S.2.1 dX8_goesOut_195 (by decide) (fun c36 => ?_) (fun c36 => ?_)
        · refine lv_iconst (v := nI 0) S.1 S.2.1 dX8_goesOut_202 (by decide) ?_
          have hq37 : M24 49 = upd (M 49) (d * 8 + kb) ((M 49 (d * 8 + kb)) + (nI 1)) := by rw [eM24, va_up_self, hq23]
          have hq38 : M28 49 = upd (M 49) (d * 8 + kb) ((M 49 (d * 8 + kb)) + (nI 1)) := by rw [eM28, va_up_ne _ _ (by omega), hq37]
          have hq39 : M28 50 = upd (M 50) (d * 8 + kb) ((M 50 (d * 8 + kb)) + (nI 1)) := by rw [eM28, va_up_self, hq27]
          have hq40 : M1 44 = M 44 := by rw [eM1, va_up_ne _ _ (by omega)]
          have hq41 : M22 44 = M 44 := by rw [eM22, va_up_ne _ _ (by omega), hq40]
          have hq42 : M24 44 = M 44 := by rw [eM24, va_up_ne _ _ (by omega), hq41]
          have hq43 : M28 44 = M 44 := by rw [eM28, va_up_ne _ _ (by omega), hq42]
          have hq44 : M1 41 = upd (M 41) bm ((M 41 bm) + (nI 1)) := by rw [eM1, va_up_self]
          have hq45 : M22 41 = upd (M 41) bm ((M 41 bm) + (nI 1)) := by rw [eM22, va_up_ne _ _ (by omega), hq44]
          have hq46 : M24 41 = upd (M 41) bm ((M 41 bm) + (nI 1)) := by rw [eM24, va_up_ne _ _ (by omega), hq45]
          have hq47 : M28 41 = upd (M 41) bm ((M 41 bm) + (nI 1)) := by rw [eM28, va_up_ne _ _ (by omega), hq46]
          exact m_retz S hr hlocks hw dX8_goesOut_203 rfl ⟨b0_f (by rw [hsk]; exact full_n (T := modT M) (R := modR M) c36), hq31.trans (by rw [hsk]; rfl), hq38.trans (by rw [hsk, hpq]; exact rfl), hq39.trans (by rw [hsk]; rfl), hq43.trans (by rw [hsk]; rfl), hq47, (fun k hk => ((show M28 k = M24 k by rw [eM28]; exact va_up_ne _ _ (by omega)).trans ((show M24 k = M22 k by rw [eM24]; exact va_up_ne _ _ (by omega)).trans ((show M22 k = M1 k by rw [eM22]; exact va_up_ne _ _ (by omega)).trans (show M1 k = M k by rw [eM1]; exact va_up_ne _ _ (by omega))))))⟩
        · refine lv_iconst (v := nI 1) S.1 S.2.1 dX8_goesOut_198 (by decide) ?_
          refine lv_goto (tgt := 203) S.1 S.2.1 dX8_goesOut_199 (by decide) ?_
          have hq48 : M24 49 = upd (M 49) (d * 8 + kb) ((M 49 (d * 8 + kb)) + (nI 1)) := by rw [eM24, va_up_self, hq23]
          have hq49 : M28 49 = upd (M 49) (d * 8 + kb) ((M 49 (d * 8 + kb)) + (nI 1)) := by rw [eM28, va_up_ne _ _ (by omega), hq48]
          have hq50 : M28 50 = upd (M 50) (d * 8 + kb) ((M 50 (d * 8 + kb)) + (nI 1)) := by rw [eM28, va_up_self, hq27]
          have hq51 : M1 44 = M 44 := by rw [eM1, va_up_ne _ _ (by omega)]
          have hq52 : M22 44 = M 44 := by rw [eM22, va_up_ne _ _ (by omega), hq51]
          have hq53 : M24 44 = M 44 := by rw [eM24, va_up_ne _ _ (by omega), hq52]
          have hq54 : M28 44 = M 44 := by rw [eM28, va_up_ne _ _ (by omega), hq53]
          have hq55 : M1 41 = upd (M 41) bm ((M 41 bm) + (nI 1)) := by rw [eM1, va_up_self]
          have hq56 : M22 41 = upd (M 41) bm ((M 41 bm) + (nI 1)) := by rw [eM22, va_up_ne _ _ (by omega), hq55]
          have hq57 : M24 41 = upd (M 41) bm ((M 41 bm) + (nI 1)) := by rw [eM24, va_up_ne _ _ (by omega), hq56]
          have hq58 : M28 41 = upd (M 41) bm ((M 41 bm) + (nI 1)) := by rw [eM28, va_up_ne _ _ (by omega), hq57]
          exact m_retz S hr hlocks hw dX8_goesOut_203 rfl ⟨b1_t (by rw [hsk]; exact full_y (T := modT M) (R := modR M) c36), hq31.trans (by rw [hsk]; rfl), hq49.trans (by rw [hsk, hpq]; exact rfl), hq50.trans (by rw [hsk]; rfl), hq54.trans (by rw [hsk]; rfl), hq58, (fun k hk => ((show M28 k = M24 k by rw [eM28]; exact va_up_ne _ _ (by omega)).trans ((show M24 k = M22 k by rw [eM24]; exact va_up_ne _ _ (by omega)).trans ((show M22 k = M1 k by rw [eM22]; exact va_up_ne _ _ (by omega)).trans (show M1 k = M k by rw [eM1]; exact va_up_ne _ _ (by omega))))))⟩
    · have hq59 : M1 45 = M 45 := by rw [eM1, va_up_ne _ _ (by omega)]
      have hq60 : M1 48 = M 48 := by rw [eM1, va_up_ne _ _ (by omega)]
      have hq61 : M1 49 = M 49 := by rw [eM1, va_up_ne _ _ (by omega)]
      have hq62 : M1 53 = M 53 := by rw [eM1, va_up_ne _ _ (by omega)]
      have gc5 : (!eqB (M 45 (d * 8 + ka)) 0 && bearB (M 49) (M 48) (M 53 ka) (d * 8 + ka)) = true := by rw [← hq59, ← hq60, ← hq61, ← hq62]; exact c5
      refine lv_bipush (v := nI 8) S.1 S.2.1 dX8_goesOut_87 (by decide) ?_
      refine lv_iload_n S.1 S.2.1 dX8_goesOut_89 rfl (lv_at hl 4 rfl) ?_
      refine lv_imul S.1 S.2.1 dX8_goesOut_90 ?_
      refine m_top (show (nI 8) * (nI d) = nI (d * 8) from by rw [pk_mul, Nat.mul_comm]) ?_
      refine lv_aload_n S.1 S.2.1 dX8_goesOut_91 rfl (lv_at hl 2 rfl) ?_
      refine m_getR 34 3 36 S hw (by omega) rfl rfl rfl in_X8 (by decide) wf_X8_20 dX8_goesOut_92 ?_
      refine lv_iload_n S.1 S.2.1 dX8_goesOut_95 rfl (lv_at hl 3 rfl) ?_
      refine m_ald 36 mz S hw (by omega) rfl (by decide) (by omega) rfl dX8_goesOut_96 ?_
      refine m_top (show M1 36 mz = M 36 mz from congrFun hq4 mz) ?_
      refine m_top (show M 36 mz = nI ka from hka) ?_
      refine lv_iadd S.1 S.2.1 dX8_goesOut_97 ?_
      refine m_top (show (nI (d * 8)) + (nI ka) = nI (d * 8 + ka) from nI_add _ _) ?_
      refine lv_goto (tgt := 134) S.1 S.2.1 dX8_goesOut_98 (by decide) ?_
      refine lv_istore_n (lv' := [(3, .int (nI (d * 8 + ka))), (4, .int (nI 1)), (0, .ref (ad 34)), (1, .int (nI mz)), (2, .int (nI d))]) S.1 S.2.1 dX8_goesOut_134 rfl hl (by decide) rfl (fun ls hl => ?_)
      have hsk : sinkS (modT M) (modR M) d mz = (some (d * 8 + ka)) := sm3 (T := modT M) (R := modR M) et hpq gc5
      refine lv_iload_n S.1 S.2.1 dX8_goesOut_135 rfl (lv_at hl 0 rfl) ?_
      refine lv_iconst (v := (-1)) S.1 S.2.1 dX8_goesOut_136 (by decide) ?_
      refine lv_icmp_ne (tgt := 152) S.1 S.2.1 dX8_goesOut_137 (by decide) (fun c63 => ?_) (fun c63 => absurd c63 (enc_ne (by omega)))
      refine lv_aload_n S.1 S.2.1 dX8_goesOut_152 rfl (lv_at hl 2 rfl) ?_
      refine m_getR 34 17 48 S hw (by omega) rfl rfl rfl in_X8 (by decide) wf_X8_60 dX8_goesOut_153 ?_
      refine lv_iload_n S.1 S.2.1 dX8_goesOut_156 rfl (lv_at hl 0 rfl) ?_
      refine lv_dup2_11 S.1 S.2.1 dX8_goesOut_157 rfl rfl ?_
      refine m_ald 48 (d * 8 + ka) S hw (by omega) rfl (by decide) (by omega) rfl dX8_goesOut_158 ?_
      refine m_top (show M1 48 (d * 8 + ka) = M 48 (d * 8 + ka) from congrFun hq60 (d * 8 + ka)) ?_
      refine lv_iconst (v := nI 1) S.1 S.2.1 dX8_goesOut_159 (by decide) ?_
      refine lv_iadd S.1 S.2.1 dX8_goesOut_160 ?_
      refine n_ast 48 (d * 8 + ka) S hw (by omega) rfl (by decide) (by omega) rfl dX8_goesOut_161 (fun M64 H locs eM64 hw => ?_)
      refine lv_aload_n S.1 S.2.1 dX8_goesOut_162 rfl (lv_at hl 2 rfl) ?_
      refine m_getR 34 18 49 S hw (by omega) rfl rfl rfl in_X8 (by decide) wf_X8_63 dX8_goesOut_163 ?_
      refine lv_iload_n S.1 S.2.1 dX8_goesOut_166 rfl (lv_at hl 0 rfl) ?_
      refine lv_dup2_11 S.1 S.2.1 dX8_goesOut_167 rfl rfl ?_
      refine m_ald 49 (d * 8 + ka) S hw (by omega) rfl (by decide) (by omega) rfl dX8_goesOut_168 ?_
      have hq65 : M64 49 = M 49 := by rw [eM64, va_up_ne _ _ (by omega), hq61]
      refine m_top (show M64 49 (d * 8 + ka) = M 49 (d * 8 + ka) from congrFun hq65 (d * 8 + ka)) ?_
      refine lv_iload S.1 S.2.1 dX8_goesOut_169 (lv_at hl 1 rfl) ?_
      refine lv_iadd S.1 S.2.1 dX8_goesOut_171 ?_
      refine n_ast 49 (d * 8 + ka) S hw (by omega) rfl (by decide) (by omega) rfl dX8_goesOut_172 (fun M66 H locs eM66 hw => ?_)
      refine lv_aload_n S.1 S.2.1 dX8_goesOut_173 rfl (lv_at hl 2 rfl) ?_
      refine m_getR 34 19 50 S hw (by omega) rfl rfl rfl in_X8 (by decide) wf_X8_66 dX8_goesOut_174 ?_
      refine lv_iload_n S.1 S.2.1 dX8_goesOut_177 rfl (lv_at hl 0 rfl) ?_
      refine lv_dup2_11 S.1 S.2.1 dX8_goesOut_178 rfl rfl ?_
      refine m_ald 50 (d * 8 + ka) S hw (by omega) rfl (by decide) (by omega) rfl dX8_goesOut_179 ?_
      have hq67 : M1 50 = M 50 := by rw [eM1, va_up_ne _ _ (by omega)]
      have hq68 : M64 50 = M 50 := by rw [eM64, va_up_ne _ _ (by omega), hq67]
      have hq69 : M66 50 = M 50 := by rw [eM66, va_up_ne _ _ (by omega), hq68]
      refine m_top (show M66 50 (d * 8 + ka) = M 50 (d * 8 + ka) from congrFun hq69 (d * 8 + ka)) ?_
      refine lv_iconst (v := nI 1) S.1 S.2.1 dX8_goesOut_180 (by decide) ?_
      refine lv_iadd S.1 S.2.1 dX8_goesOut_181 ?_
      refine n_ast 50 (d * 8 + ka) S hw (by omega) rfl (by decide) (by omega) rfl dX8_goesOut_182 (fun M70 H locs eM70 hw => ?_)
      refine lv_aload_n S.1 S.2.1 dX8_goesOut_183 rfl (lv_at hl 2 rfl) ?_
      refine m_getR 34 17 48 S hw (by omega) rfl rfl rfl in_X8 (by decide) wf_X8_60 dX8_goesOut_184 ?_
      refine lv_iload_n S.1 S.2.1 dX8_goesOut_187 rfl (lv_at hl 0 rfl) ?_
      refine m_ald 48 (d * 8 + ka) S hw (by omega) rfl (by decide) (by omega) rfl dX8_goesOut_188 ?_
      have hq71 : M64 48 = upd (M 48) (d * 8 + ka) ((M 48 (d * 8 + ka)) + (nI 1)) := by rw [eM64, va_up_self, hq60]
      have hq72 : M66 48 = upd (M 48) (d * 8 + ka) ((M 48 (d * 8 + ka)) + (nI 1)) := by rw [eM66, va_up_ne _ _ (by omega), hq71]
      have hq73 : M70 48 = upd (M 48) (d * 8 + ka) ((M 48 (d * 8 + ka)) + (nI 1)) := by rw [eM70, va_up_ne _ _ (by omega), hq72]
      refine m_top (show M70 48 (d * 8 + ka) = (upd (M 48) (d * 8 + ka) ((M 48 (d * 8 + ka)) + (nI 1))) (d * 8 + ka) from congrFun hq73 (d * 8 + ka)) ?_
      refine m_top (show (upd (M 48) (d * 8 + ka) ((M 48 (d * 8 + ka)) + (nI 1))) (d * 8 + ka) = (M 48 (d * 8 + ka)) + (nI 1) from pk_us) ?_
      refine lv_aload_n S.1 S.2.1 dX8_goesOut_189 rfl (lv_at hl 2 rfl) ?_
      refine m_getR 34 16 47 S hw (by omega) rfl rfl rfl in_X8 (by decide) wf_X8_57 dX8_goesOut_190 ?_
      refine lv_iload_n S.1 S.2.1 dX8_goesOut_193 rfl (lv_at hl 0 rfl) ?_
      refine m_ald 47 (d * 8 + ka) S hw (by omega) rfl (by decide) (by omega) rfl dX8_goesOut_194 ?_
      have hq74 : M1 47 = M 47 := by rw [eM1, va_up_ne _ _ (by omega)]
      have hq75 : M64 47 = M 47 := by rw [eM64, va_up_ne _ _ (by omega), hq74]
      have hq76 : M66 47 = M 47 := by rw [eM66, va_up_ne _ _ (by omega), hq75]
      have hq77 : M70 47 = M 47 := by rw [eM70, va_up_ne _ _ (by omega), hq76]
      refine m_top (show M70 47 (d * 8 + ka) = M 47 (d * 8 + ka) from congrFun hq77 (d * 8 + ka)) ?_
      refine lv_icmp_le (tgt := 202) S.1 S.2.1 dX8_goesOut_195 (by decide) (fun c78 => ?_) (fun c78 => ?_)
      · refine lv_iconst (v := nI 0) S.1 S.2.1 dX8_goesOut_202 (by decide) ?_
        have hq79 : M66 49 = upd (M 49) (d * 8 + ka) ((M 49 (d * 8 + ka)) + (nI 1)) := by rw [eM66, va_up_self, hq65]
        have hq80 : M70 49 = upd (M 49) (d * 8 + ka) ((M 49 (d * 8 + ka)) + (nI 1)) := by rw [eM70, va_up_ne _ _ (by omega), hq79]
        have hq81 : M70 50 = upd (M 50) (d * 8 + ka) ((M 50 (d * 8 + ka)) + (nI 1)) := by rw [eM70, va_up_self, hq69]
        have hq82 : M1 44 = M 44 := by rw [eM1, va_up_ne _ _ (by omega)]
        have hq83 : M64 44 = M 44 := by rw [eM64, va_up_ne _ _ (by omega), hq82]
        have hq84 : M66 44 = M 44 := by rw [eM66, va_up_ne _ _ (by omega), hq83]
        have hq85 : M70 44 = M 44 := by rw [eM70, va_up_ne _ _ (by omega), hq84]
        have hq86 : M1 41 = upd (M 41) bm ((M 41 bm) + (nI 1)) := by rw [eM1, va_up_self]
        have hq87 : M64 41 = upd (M 41) bm ((M 41 bm) + (nI 1)) := by rw [eM64, va_up_ne _ _ (by omega), hq86]
        have hq88 : M66 41 = upd (M 41) bm ((M 41 bm) + (nI 1)) := by rw [eM66, va_up_ne _ _ (by omega), hq87]
        have hq89 : M70 41 = upd (M 41) bm ((M 41 bm) + (nI 1)) := by rw [eM70, va_up_ne _ _ (by omega), hq88]
        exact m_retz S hr hlocks hw dX8_goesOut_203 rfl ⟨b0_f (by rw [hsk]; exact full_n (T := modT M) (R := modR M) c78), hq73.trans (by rw [hsk]; rfl), hq80.trans (by rw [hsk, hpq]; exact rfl), hq81.trans (by rw [hsk]; rfl), hq85.trans (by rw [hsk]; rfl), hq89, (fun k hk => ((show M70 k = M66 k by rw [eM70]; exact va_up_ne _ _ (by omega)).trans ((show M66 k = M64 k by rw [eM66]; exact va_up_ne _ _ (by omega)).trans ((show M64 k = M1 k by rw [eM64]; exact va_up_ne _ _ (by omega)).trans (show M1 k = M k by rw [eM1]; exact va_up_ne _ _ (by omega))))))⟩
      · refine lv_iconst (v := nI 1) S.1 S.2.1 dX8_goesOut_198 (by decide) ?_
        refine lv_goto (tgt := 203) S.1 S.2.1 dX8_goesOut_199 (by decide) ?_
        have hq90 : M66 49 = upd (M 49) (d * 8 + ka) ((M 49 (d * 8 + ka)) + (nI 1)) := by rw [eM66, va_up_self, hq65]
        have hq91 : M70 49 = upd (M 49) (d * 8 + ka) ((M 49 (d * 8 + ka)) + (nI 1)) := by rw [eM70, va_up_ne _ _ (by omega), hq90]
        have hq92 : M70 50 = upd (M 50) (d * 8 + ka) ((M 50 (d * 8 + ka)) + (nI 1)) := by rw [eM70, va_up_self, hq69]
        have hq93 : M1 44 = M 44 := by rw [eM1, va_up_ne _ _ (by omega)]
        have hq94 : M64 44 = M 44 := by rw [eM64, va_up_ne _ _ (by omega), hq93]
        have hq95 : M66 44 = M 44 := by rw [eM66, va_up_ne _ _ (by omega), hq94]
        have hq96 : M70 44 = M 44 := by rw [eM70, va_up_ne _ _ (by omega), hq95]
        have hq97 : M1 41 = upd (M 41) bm ((M 41 bm) + (nI 1)) := by rw [eM1, va_up_self]
        have hq98 : M64 41 = upd (M 41) bm ((M 41 bm) + (nI 1)) := by rw [eM64, va_up_ne _ _ (by omega), hq97]
        have hq99 : M66 41 = upd (M 41) bm ((M 41 bm) + (nI 1)) := by rw [eM66, va_up_ne _ _ (by omega), hq98]
        have hq100 : M70 41 = upd (M 41) bm ((M 41 bm) + (nI 1)) := by rw [eM70, va_up_ne _ _ (by omega), hq99]
        exact m_retz S hr hlocks hw dX8_goesOut_203 rfl ⟨b1_t (by rw [hsk]; exact full_y (T := modT M) (R := modR M) c78), hq73.trans (by rw [hsk]; rfl), hq91.trans (by rw [hsk, hpq]; exact rfl), hq92.trans (by rw [hsk]; rfl), hq96.trans (by rw [hsk]; rfl), hq100, (fun k hk => ((show M70 k = M66 k by rw [eM70]; exact va_up_ne _ _ (by omega)).trans ((show M66 k = M64 k by rw [eM66]; exact va_up_ne _ _ (by omega)).trans ((show M64 k = M1 k by rw [eM64]; exact va_up_ne _ _ (by omega)).trans (show M1 k = M k by rw [eM1]; exact va_up_ne _ _ (by omega))))))⟩
  · have hq101 : M1 37 = M 37 := by rw [eM1, va_up_ne _ _ (by omega)]
    have hpq : pureB (M 37) mz = true := by rw [← hq101]; exact c2
    refine lv_aload_n S.1 S.2.1 dX8_goesOut_28 rfl (lv_at hl 2 rfl) ?_
    refine m_getR 34 14 45 S hw (by omega) rfl rfl rfl in_X8 (by decide) wf_X8_50 dX8_goesOut_29 ?_
    refine lv_bipush (v := nI 8) S.1 S.2.1 dX8_goesOut_32 (by decide) ?_
    refine lv_iload_n S.1 S.2.1 dX8_goesOut_34 rfl (lv_at hl 4 rfl) ?_
    refine lv_imul S.1 S.2.1 dX8_goesOut_35 ?_
    refine m_top (show (nI 8) * (nI d) = nI (d * 8) from by rw [pk_mul, Nat.mul_comm]) ?_
    refine lv_aload_n S.1 S.2.1 dX8_goesOut_36 rfl (lv_at hl 2 rfl) ?_
    refine m_getR 34 3 36 S hw (by omega) rfl rfl rfl in_X8 (by decide) wf_X8_20 dX8_goesOut_37 ?_
    refine lv_iload_n S.1 S.2.1 dX8_goesOut_40 rfl (lv_at hl 3 rfl) ?_
    refine m_ald 36 mz S hw (by omega) rfl (by decide) (by omega) rfl dX8_goesOut_41 ?_
    have hq102 : M1 36 = M 36 := by rw [eM1, va_up_ne _ _ (by omega)]
    refine m_top (show M1 36 mz = M 36 mz from congrFun hq102 mz) ?_
    refine m_top (show M 36 mz = nI ka from hka) ?_
    refine lv_iadd S.1 S.2.1 dX8_goesOut_42 ?_
    refine m_top (show (nI (d * 8)) + (nI ka) = nI (d * 8 + ka) from nI_add _ _) ?_
    refine m_zld 45 (d * 8 + ka) S hw (by omega) rfl (by decide) (by omega) rfl dX8_goesOut_43 ?_
    have hq103 : M1 45 = M 45 := by rw [eM1, va_up_ne _ _ (by omega)]
    refine m_top (show M1 45 (d * 8 + ka) = M 45 (d * 8 + ka) from congrFun hq103 (d * 8 + ka)) ?_
    refine lv_if_eq (tgt := 61) S.1 S.2.1 dX8_goesOut_44 (by decide) (fun c104 => ?_) (fun c104 => ?_)
    · refine lv_iconst (v := (-1)) S.1 S.2.1 dX8_goesOut_61 (by decide) ?_
      refine lv_istore_n (lv' := [(3, .int (-1)), (4, .int (nI 0)), (0, .ref (ad 34)), (1, .int (nI mz)), (2, .int (nI d))]) S.1 S.2.1 dX8_goesOut_62 rfl hl (by decide) rfl (fun ls hl => ?_)
      refine lv_goto (tgt := 135) S.1 S.2.1 dX8_goesOut_63 (by decide) ?_
      have hsk : sinkS (modT M) (modR M) d mz = none := sk1 (T := modT M) (R := modR M) et hpq c104
      refine lv_iload_n S.1 S.2.1 dX8_goesOut_135 rfl (lv_at hl 0 rfl) ?_
      refine lv_iconst (v := (-1)) S.1 S.2.1 dX8_goesOut_136 (by decide) ?_
      refine lv_icmp_ne (tgt := 152) S.1 S.2.1 dX8_goesOut_137 (by decide) (fun c105 => absurd c105 (fun z => z rfl)) (fun c105 => ?_)
      refine lv_aload_n S.1 S.2.1 dX8_goesOut_140 rfl (lv_at hl 2 rfl) ?_
      refine m_getR 34 13 44 S hw (by omega) rfl rfl rfl in_X8 (by decide) wf_X8_47 dX8_goesOut_141 ?_
      refine lv_iload_n S.1 S.2.1 dX8_goesOut_144 rfl (lv_at hl 4 rfl) ?_
      refine lv_dup2_11 S.1 S.2.1 dX8_goesOut_145 rfl rfl ?_
      refine m_ald 44 d S hw (by omega) rfl (by decide) (by omega) rfl dX8_goesOut_146 ?_
      have hq106 : M1 44 = M 44 := by rw [eM1, va_up_ne _ _ (by omega)]
      refine m_top (show M1 44 d = M 44 d from congrFun hq106 d) ?_
      refine lv_iconst (v := nI 1) S.1 S.2.1 dX8_goesOut_147 (by decide) ?_
      refine lv_iadd S.1 S.2.1 dX8_goesOut_148 ?_
      refine n_ast 44 d S hw (by omega) rfl (by decide) (by omega) rfl dX8_goesOut_149 (fun M107 H locs eM107 hw => ?_)
      refine lv_iconst (v := nI 0) S.1 S.2.1 dX8_goesOut_150 (by decide) ?_
      have hq108 : M1 48 = M 48 := by rw [eM1, va_up_ne _ _ (by omega)]
      have hq109 : M107 48 = M 48 := by rw [eM107, va_up_ne _ _ (by omega), hq108]
      have hq110 : M1 49 = M 49 := by rw [eM1, va_up_ne _ _ (by omega)]
      have hq111 : M107 49 = M 49 := by rw [eM107, va_up_ne _ _ (by omega), hq110]
      have hq112 : M1 50 = M 50 := by rw [eM1, va_up_ne _ _ (by omega)]
      have hq113 : M107 50 = M 50 := by rw [eM107, va_up_ne _ _ (by omega), hq112]
      have hq114 : M107 44 = upd (M 44) d ((M 44 d) + (nI 1)) := by rw [eM107, va_up_self, hq106]
      have hq115 : M1 41 = upd (M 41) bm ((M 41 bm) + (nI 1)) := by rw [eM1, va_up_self]
      have hq116 : M107 41 = upd (M 41) bm ((M 41 bm) + (nI 1)) := by rw [eM107, va_up_ne _ _ (by omega), hq115]
      exact m_retz S hr hlocks hw dX8_goesOut_151 rfl ⟨by rw [hsk]; rfl, hq109.trans (by rw [hsk]; rfl), hq111.trans (by rw [hsk]; rfl), hq113.trans (by rw [hsk]; rfl), hq114.trans (by rw [hsk]; rfl), hq116, (fun k hk => ((show M107 k = M1 k by rw [eM107]; exact va_up_ne _ _ (by omega)).trans (show M1 k = M k by rw [eM1]; exact va_up_ne _ _ (by omega))))⟩
    · refine lv_bipush (v := nI 8) S.1 S.2.1 dX8_goesOut_47 (by decide) ?_
      refine lv_iload_n S.1 S.2.1 dX8_goesOut_49 rfl (lv_at hl 4 rfl) ?_
      refine lv_imul S.1 S.2.1 dX8_goesOut_50 ?_
      refine m_top (show (nI 8) * (nI d) = nI (d * 8) from by rw [pk_mul, Nat.mul_comm]) ?_
      refine lv_aload_n S.1 S.2.1 dX8_goesOut_51 rfl (lv_at hl 2 rfl) ?_
      refine m_getR 34 3 36 S hw (by omega) rfl rfl rfl in_X8 (by decide) wf_X8_20 dX8_goesOut_52 ?_
      refine lv_iload_n S.1 S.2.1 dX8_goesOut_55 rfl (lv_at hl 3 rfl) ?_
      refine m_ald 36 mz S hw (by omega) rfl (by decide) (by omega) rfl dX8_goesOut_56 ?_
      refine m_top (show M1 36 mz = M 36 mz from congrFun hq102 mz) ?_
      refine m_top (show M 36 mz = nI ka from hka) ?_
      refine lv_iadd S.1 S.2.1 dX8_goesOut_57 ?_
      refine m_top (show (nI (d * 8)) + (nI ka) = nI (d * 8 + ka) from nI_add _ _) ?_
      refine lv_goto (tgt := 62) S.1 S.2.1 dX8_goesOut_58 (by decide) ?_
      refine lv_istore_n (lv' := [(3, .int (nI (d * 8 + ka))), (4, .int (nI 0)), (0, .ref (ad 34)), (1, .int (nI mz)), (2, .int (nI d))]) S.1 S.2.1 dX8_goesOut_62 rfl hl (by decide) rfl (fun ls hl => ?_)
      refine lv_goto (tgt := 135) S.1 S.2.1 dX8_goesOut_63 (by decide) ?_
      have hsk : sinkS (modT M) (modR M) d mz = (some (d * 8 + ka)) := sk2 (T := modT M) (R := modR M) et hpq c104
      refine lv_iload_n S.1 S.2.1 dX8_goesOut_135 rfl (lv_at hl 0 rfl) ?_
      refine lv_iconst (v := (-1)) S.1 S.2.1 dX8_goesOut_136 (by decide) ?_
      refine lv_icmp_ne (tgt := 152) S.1 S.2.1 dX8_goesOut_137 (by decide) (fun c117 => ?_) (fun c117 => absurd c117 (enc_ne (by omega)))
      refine lv_aload_n S.1 S.2.1 dX8_goesOut_152 rfl (lv_at hl 2 rfl) ?_
      refine m_getR 34 17 48 S hw (by omega) rfl rfl rfl in_X8 (by decide) wf_X8_60 dX8_goesOut_153 ?_
      refine lv_iload_n S.1 S.2.1 dX8_goesOut_156 rfl (lv_at hl 0 rfl) ?_
      refine lv_dup2_11 S.1 S.2.1 dX8_goesOut_157 rfl rfl ?_
      refine m_ald 48 (d * 8 + ka) S hw (by omega) rfl (by decide) (by omega) rfl dX8_goesOut_158 ?_
      have hq118 : M1 48 = M 48 := by rw [eM1, va_up_ne _ _ (by omega)]
      refine m_top (show M1 48 (d * 8 + ka) = M 48 (d * 8 + ka) from congrFun hq118 (d * 8 + ka)) ?_
      refine lv_iconst (v := nI 1) S.1 S.2.1 dX8_goesOut_159 (by decide) ?_
      refine lv_iadd S.1 S.2.1 dX8_goesOut_160 ?_
      refine n_ast 48 (d * 8 + ka) S hw (by omega) rfl (by decide) (by omega) rfl dX8_goesOut_161 (fun M119 H locs eM119 hw => ?_)
      refine lv_aload_n S.1 S.2.1 dX8_goesOut_162 rfl (lv_at hl 2 rfl) ?_
      refine m_getR 34 18 49 S hw (by omega) rfl rfl rfl in_X8 (by decide) wf_X8_63 dX8_goesOut_163 ?_
      refine lv_iload_n S.1 S.2.1 dX8_goesOut_166 rfl (lv_at hl 0 rfl) ?_
      refine lv_dup2_11 S.1 S.2.1 dX8_goesOut_167 rfl rfl ?_
      refine m_ald 49 (d * 8 + ka) S hw (by omega) rfl (by decide) (by omega) rfl dX8_goesOut_168 ?_
      have hq120 : M1 49 = M 49 := by rw [eM1, va_up_ne _ _ (by omega)]
      have hq121 : M119 49 = M 49 := by rw [eM119, va_up_ne _ _ (by omega), hq120]
      refine m_top (show M119 49 (d * 8 + ka) = M 49 (d * 8 + ka) from congrFun hq121 (d * 8 + ka)) ?_
      refine lv_iload S.1 S.2.1 dX8_goesOut_169 (lv_at hl 1 rfl) ?_
      refine lv_iadd S.1 S.2.1 dX8_goesOut_171 ?_
      refine n_ast 49 (d * 8 + ka) S hw (by omega) rfl (by decide) (by omega) rfl dX8_goesOut_172 (fun M122 H locs eM122 hw => ?_)
      refine lv_aload_n S.1 S.2.1 dX8_goesOut_173 rfl (lv_at hl 2 rfl) ?_
      refine m_getR 34 19 50 S hw (by omega) rfl rfl rfl in_X8 (by decide) wf_X8_66 dX8_goesOut_174 ?_
      refine lv_iload_n S.1 S.2.1 dX8_goesOut_177 rfl (lv_at hl 0 rfl) ?_
      refine lv_dup2_11 S.1 S.2.1 dX8_goesOut_178 rfl rfl ?_
      refine m_ald 50 (d * 8 + ka) S hw (by omega) rfl (by decide) (by omega) rfl dX8_goesOut_179 ?_
      have hq123 : M1 50 = M 50 := by rw [eM1, va_up_ne _ _ (by omega)]
      have hq124 : M119 50 = M 50 := by rw [eM119, va_up_ne _ _ (by omega), hq123]
      have hq125 : M122 50 = M 50 := by rw [eM122, va_up_ne _ _ (by omega), hq124]
      refine m_top (show M122 50 (d * 8 + ka) = M 50 (d * 8 + ka) from congrFun hq125 (d * 8 + ka)) ?_
      refine lv_iconst (v := nI 1) S.1 S.2.1 dX8_goesOut_180 (by decide) ?_
      refine lv_iadd S.1 S.2.1 dX8_goesOut_181 ?_
      refine n_ast 50 (d * 8 + ka) S hw (by omega) rfl (by decide) (by omega) rfl dX8_goesOut_182 (fun M126 H locs eM126 hw => ?_)
      refine lv_aload_n S.1 S.2.1 dX8_goesOut_183 rfl (lv_at hl 2 rfl) ?_
      refine m_getR 34 17 48 S hw (by omega) rfl rfl rfl in_X8 (by decide) wf_X8_60 dX8_goesOut_184 ?_
      refine lv_iload_n S.1 S.2.1 dX8_goesOut_187 rfl (lv_at hl 0 rfl) ?_
      refine m_ald 48 (d * 8 + ka) S hw (by omega) rfl (by decide) (by omega) rfl dX8_goesOut_188 ?_
      have hq127 : M119 48 = upd (M 48) (d * 8 + ka) ((M 48 (d * 8 + ka)) + (nI 1)) := by rw [eM119, va_up_self, hq118]
      have hq128 : M122 48 = upd (M 48) (d * 8 + ka) ((M 48 (d * 8 + ka)) + (nI 1)) := by rw [eM122, va_up_ne _ _ (by omega), hq127]
      have hq129 : M126 48 = upd (M 48) (d * 8 + ka) ((M 48 (d * 8 + ka)) + (nI 1)) := by rw [eM126, va_up_ne _ _ (by omega), hq128]
      refine m_top (show M126 48 (d * 8 + ka) = (upd (M 48) (d * 8 + ka) ((M 48 (d * 8 + ka)) + (nI 1))) (d * 8 + ka) from congrFun hq129 (d * 8 + ka)) ?_
      refine m_top (show (upd (M 48) (d * 8 + ka) ((M 48 (d * 8 + ka)) + (nI 1))) (d * 8 + ka) = (M 48 (d * 8 + ka)) + (nI 1) from pk_us) ?_
      refine lv_aload_n S.1 S.2.1 dX8_goesOut_189 rfl (lv_at hl 2 rfl) ?_
      refine m_getR 34 16 47 S hw (by omega) rfl rfl rfl in_X8 (by decide) wf_X8_57 dX8_goesOut_190 ?_
      refine lv_iload_n S.1 S.2.1 dX8_goesOut_193 rfl (lv_at hl 0 rfl) ?_
      refine m_ald 47 (d * 8 + ka) S hw (by omega) rfl (by decide) (by omega) rfl dX8_goesOut_194 ?_
      have hq130 : M1 47 = M 47 := by rw [eM1, va_up_ne _ _ (by omega)]
      have hq131 : M119 47 = M 47 := by rw [eM119, va_up_ne _ _ (by omega), hq130]
      have hq132 : M122 47 = M 47 := by rw [eM122, va_up_ne _ _ (by omega), hq131]
      have hq133 : M126 47 = M 47 := by rw [eM126, va_up_ne _ _ (by omega), hq132]
      refine m_top (show M126 47 (d * 8 + ka) = M 47 (d * 8 + ka) from congrFun hq133 (d * 8 + ka)) ?_
      refine lv_icmp_le (tgt := 202) S.1 S.2.1 dX8_goesOut_195 (by decide) (fun c134 => ?_) (fun c134 => ?_)
      · refine lv_iconst (v := nI 0) S.1 S.2.1 dX8_goesOut_202 (by decide) ?_
        have hq135 : M122 49 = upd (M 49) (d * 8 + ka) ((M 49 (d * 8 + ka)) + (nI 0)) := by rw [eM122, va_up_self, hq121]
        have hq136 : M126 49 = upd (M 49) (d * 8 + ka) ((M 49 (d * 8 + ka)) + (nI 0)) := by rw [eM126, va_up_ne _ _ (by omega), hq135]
        have hq137 : M126 50 = upd (M 50) (d * 8 + ka) ((M 50 (d * 8 + ka)) + (nI 1)) := by rw [eM126, va_up_self, hq125]
        have hq138 : M1 44 = M 44 := by rw [eM1, va_up_ne _ _ (by omega)]
        have hq139 : M119 44 = M 44 := by rw [eM119, va_up_ne _ _ (by omega), hq138]
        have hq140 : M122 44 = M 44 := by rw [eM122, va_up_ne _ _ (by omega), hq139]
        have hq141 : M126 44 = M 44 := by rw [eM126, va_up_ne _ _ (by omega), hq140]
        have hq142 : M1 41 = upd (M 41) bm ((M 41 bm) + (nI 1)) := by rw [eM1, va_up_self]
        have hq143 : M119 41 = upd (M 41) bm ((M 41 bm) + (nI 1)) := by rw [eM119, va_up_ne _ _ (by omega), hq142]
        have hq144 : M122 41 = upd (M 41) bm ((M 41 bm) + (nI 1)) := by rw [eM122, va_up_ne _ _ (by omega), hq143]
        have hq145 : M126 41 = upd (M 41) bm ((M 41 bm) + (nI 1)) := by rw [eM126, va_up_ne _ _ (by omega), hq144]
        exact m_retz S hr hlocks hw dX8_goesOut_203 rfl ⟨b0_f (by rw [hsk]; exact full_n (T := modT M) (R := modR M) c134), hq129.trans (by rw [hsk]; rfl), hq136.trans (by rw [hsk, hpq]; exact upd_0), hq137.trans (by rw [hsk]; rfl), hq141.trans (by rw [hsk]; rfl), hq145, (fun k hk => ((show M126 k = M122 k by rw [eM126]; exact va_up_ne _ _ (by omega)).trans ((show M122 k = M119 k by rw [eM122]; exact va_up_ne _ _ (by omega)).trans ((show M119 k = M1 k by rw [eM119]; exact va_up_ne _ _ (by omega)).trans (show M1 k = M k by rw [eM1]; exact va_up_ne _ _ (by omega))))))⟩
      · refine lv_iconst (v := nI 1) S.1 S.2.1 dX8_goesOut_198 (by decide) ?_
        refine lv_goto (tgt := 203) S.1 S.2.1 dX8_goesOut_199 (by decide) ?_
        have hq146 : M122 49 = upd (M 49) (d * 8 + ka) ((M 49 (d * 8 + ka)) + (nI 0)) := by rw [eM122, va_up_self, hq121]
        have hq147 : M126 49 = upd (M 49) (d * 8 + ka) ((M 49 (d * 8 + ka)) + (nI 0)) := by rw [eM126, va_up_ne _ _ (by omega), hq146]
        have hq148 : M126 50 = upd (M 50) (d * 8 + ka) ((M 50 (d * 8 + ka)) + (nI 1)) := by rw [eM126, va_up_self, hq125]
        have hq149 : M1 44 = M 44 := by rw [eM1, va_up_ne _ _ (by omega)]
        have hq150 : M119 44 = M 44 := by rw [eM119, va_up_ne _ _ (by omega), hq149]
        have hq151 : M122 44 = M 44 := by rw [eM122, va_up_ne _ _ (by omega), hq150]
        have hq152 : M126 44 = M 44 := by rw [eM126, va_up_ne _ _ (by omega), hq151]
        have hq153 : M1 41 = upd (M 41) bm ((M 41 bm) + (nI 1)) := by rw [eM1, va_up_self]
        have hq154 : M119 41 = upd (M 41) bm ((M 41 bm) + (nI 1)) := by rw [eM119, va_up_ne _ _ (by omega), hq153]
        have hq155 : M122 41 = upd (M 41) bm ((M 41 bm) + (nI 1)) := by rw [eM122, va_up_ne _ _ (by omega), hq154]
        have hq156 : M126 41 = upd (M 41) bm ((M 41 bm) + (nI 1)) := by rw [eM126, va_up_ne _ _ (by omega), hq155]
        exact m_retz S hr hlocks hw dX8_goesOut_203 rfl ⟨b1_t (by rw [hsk]; exact full_y (T := modT M) (R := modR M) c134), hq129.trans (by rw [hsk]; rfl), hq147.trans (by rw [hsk, hpq]; exact upd_0), hq148.trans (by rw [hsk]; rfl), hq152.trans (by rw [hsk]; rfl), hq156, (fun k hk => ((show M126 k = M122 k by rw [eM126]; exact va_up_ne _ _ (by omega)).trans ((show M122 k = M119 k by rw [eM122]; exact va_up_ne _ _ (by omega)).trans ((show M119 k = M1 k by rw [eM119]; exact va_up_ne _ _ (by omega)).trans (show M1 k = M k by rw [eM1]; exact va_up_ne _ _ (by omega))))))⟩
