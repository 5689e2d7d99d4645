set_option maxHeartbeats 4000000 in
set_option maxRecDepth 100000 in
theorem c_X7_earlierAt (l : Launch) (G : GT) (K : Nat) (ad : Nat → Nat) (M : Mem) (P : Nat) (hPK : P ≤ K) (hP : P < 200) : CaR l G K ad yX7_earlierAt cX7_earlierAt 3 (.object "OilLine$Moment") 3 60 13 866 [.ref (ad 0), .int (nI P)] M P (fun u => Ext K ad u ∧ P < u.1 ∧ ∀ i, i < 61 + 13 * K → u.2.2 i = M i) := by
  refine ca_start (by decide +kernel) (Nat.le_of_ble_eq_true rfl) ?_
  intro p e s m below meth c ls S hr hlocks hw hl
  have hl : lv_has ls 3 [(0, .ref (ad 0)), (1, .int (nI P))] := hl
  refine lv_iconst (v := nI 0) S.1 S.2.1 dX7_earlierAt_0 (by decide) ?_
  refine lv_iload_n S.1 S.2.1 dX7_earlierAt_1 rfl (lv_at hl 1 rfl) ?_
  refine lv_sipush (v := nI 199) S.1 S.2.1 dX7_earlierAt_2 (by decide) ?_
  refine va_mmin S.1 S.2.1 (S.2.2.1.trans hl.1.symm) S.2.2.2.1 (S.2.2.2.2 _ wm_X7_258) (S.2.2.2.2 _ wt_min) (S.2.2.2.2 _ wn_J9) (S.2.2.2.2 _ wc_min) (by decide) (Nat.le_of_ble_eq_true rfl) (by decide) (by decide) dX7_earlierAt_5 ?_
  refine m_top (show (if nI 199 < nI P then nI 199 else nI P) = nI P by rw [i32_min (by omega) (by decide), Nat.min_eq_left (by omega)]) ?_
  refine va_mmax S.1 S.2.1 (S.2.2.1.trans hl.1.symm) S.2.2.2.1 (S.2.2.2.2 _ wm_X7_263) (S.2.2.2.2 _ wt_max) (S.2.2.2.2 _ wn_J9) (S.2.2.2.2 _ wc_max) (by decide) (Nat.le_of_ble_eq_true rfl) (by decide) (by decide) dX7_earlierAt_8 ?_
  refine m_top (show (if nI 0 < nI P then nI P else nI 0) = nI P by rw [i32_max (by decide) (by omega), Nat.max_eq_right (by omega)]) ?_
  refine lv_istore_n (lv' := [(2, .int (nI P)), (0, .ref (ad 0)), (1, .int (nI P))]) S.1 S.2.1 dX7_earlierAt_11 rfl hl (by decide) rfl (fun ls hl => ?_)
  refine lv_aload_n S.1 S.2.1 dX7_earlierAt_12 rfl (lv_at hl 1 rfl) ?_
  refine m_getR 0 7 33 S hw (by omega) rfl rfl rfl in_X7 (by decide) wf_X7_51 dX7_earlierAt_13 ?_
  refine lv_iload_n S.1 S.2.1 dX7_earlierAt_16 rfl (lv_at hl 0 rfl) ?_
  by_cases hc : P < K
  · refine m_qld S hw (by omega) P hc hP dX7_earlierAt_17 ?_
    refine lv_ifnonnull (tgt := 34) S.1 S.2.1 dX7_earlierAt_18 (by decide) ?_
    refine lv_aload_n S.1 S.2.1 dX7_earlierAt_34 rfl (lv_at hl 1 rfl) ?_
    refine m_getR 0 7 33 S hw (by omega) rfl rfl rfl in_X7 (by decide) wf_X7_51 dX7_earlierAt_35 ?_
    refine lv_iload_n S.1 S.2.1 dX7_earlierAt_38 rfl (lv_at hl 0 rfl) ?_
    refine m_qld S hw (by omega) P hc hP dX7_earlierAt_39 ?_
    exact a_retr (P := P) S hr hlocks hw (by decide) (by decide) dX7_earlierAt_40 rfl ⟨⟨Nat.le_refl _, fun _ _ => rfl⟩, hc, fun _ _ => rfl⟩
  · have hPK2 : P = K := by omega
    subst hPK2
    refine m_qldN S hw (by omega) P hc hP dX7_earlierAt_17 ?_
    refine lv_ifnonnullN S.1 S.2.1 dX7_earlierAt_18 ?_
    refine lv_aload_n S.1 S.2.1 dX7_earlierAt_21 rfl (lv_at hl 1 rfl) ?_
    refine m_getR 0 7 33 S hw (by omega) rfl rfl rfl in_X7 (by decide) wf_X7_51 dX7_earlierAt_22 ?_
    refine lv_iload_n S.1 S.2.1 dX7_earlierAt_25 rfl (lv_at hl 0 rfl) ?_
    refine x_new (ci := 1) (fs := [.int 0, .int 0, .int 0, .null, .null, .null, .null]) S hw rfl in_X1 tyX1_ok wk_X7_44 wb_X1 wn_X1 (fun j hj => by rcases (show j = 0 ∨ j = 1 ∨ j = 2 ∨ j = 3 ∨ j = 4 ∨ j = 5 ∨ j = 6 by omega) with rfl | rfl | rfl | rfl | rfl | rfl | rfl <;> rfl) (by decide) (by decide) dX7_earlierAt_26 (fun q ad1 C1 H ead1 eC1 hw => ?_)
    refine lv_dup S.1 S.2.1 dX7_earlierAt_29 rfl ?_
    have hq : ad1 (61 + 13 * P) = q := by rw [ead1]; exact va_up_self _ _ _
    have hM := c_X1_init l G (61 + 13 * P + 1) ad1 C1 (61 + 13 * P) (by omega) (by rw [eC1]; exact va_up_self _ _ _)
    rw [hq] at hM
    refine g_cIN (As := []) (rest := [.ref q, .int (nI P), .ref (ad 33)]) S hw hM mf_X1_init (List.mem_of_getElem? (i := 3) rfl) ⟨by decide, by decide⟩ ⟨by decide, by decide⟩ hl.1 rfl (Nat.le_of_ble_eq_true rfl) dX7_earlierAt_30 (fun u H locs hp hw => ?_)
    obtain ⟨N2, ad2, C2⟩ := u
    obtain ⟨eN, pa, pC, ph, pn0, pn1, pn2, pn3, pn4, pn5, pn6, pn7, pn8, pn9, pn10, pn11⟩ := hp
    have eN : N2 = 61 + 13 * (P + 1) := by
      have : N2 = 61 + 13 * P + 1 + 12 := eN
      omega
    subst eN
    have hw : Wg G (61 + 13 * (P + 1)) ad2 C2 s H locs := hw
    have ph : C2 (61 + 13 * P) = .inr (1, [.int (nI 0), .int (nI 0), .int (nI 1), .ref (ad2 (61 + 13 * P + 1)), .ref (ad2 (61 + 13 * P + 6)), .ref (ad2 (61 + 13 * P + 11)), .ref (ad2 (61 + 13 * P + 12))]) := ph
    have pn0 : C2 (61 + 13 * P + 1) = .inr (2, [.int (nI 0), .ref (ad2 (61 + 13 * P + 2)), .ref (ad2 (61 + 13 * P + 3)), .ref (ad2 (61 + 13 * P + 4)), .ref (ad2 (61 + 13 * P + 5))]) := pn0
    have pn1 : C2 (61 + 13 * P + 2) = .inl (G.2.2.1, 120, .inl (fun _ => 0)) := pn1
    have pn2 : C2 (61 + 13 * P + 3) = .inl (G.2.2.1, 120, .inl (fun _ => 0)) := pn2
    have pn3 : C2 (61 + 13 * P + 4) = .inl (G.2.2.1, 120, .inl (fun _ => 0)) := pn3
    have pn4 : C2 (61 + 13 * P + 5) = .inl (G.2.2.1, 120, .inl (fun _ => 0)) := pn4
    have pn5 : C2 (61 + 13 * P + 6) = .inr (4, [.ref (ad2 (61 + 13 * P + 7)), .ref (ad2 (61 + 13 * P + 8)), .ref (ad2 (61 + 13 * P + 9)), .ref (ad2 (61 + 13 * P + 10))]) := pn5
    have pn6 : C2 (61 + 13 * P + 7) = .inl (G.2.2.1, 48, .inl (fun _ => 0)) := pn6
    have pn7 : C2 (61 + 13 * P + 8) = .inl (G.2.2.1, 48, .inl (fun _ => 0)) := pn7
    have pn8 : C2 (61 + 13 * P + 9) = .inl (G.2.2.1, 48, .inl (fun _ => 0)) := pn8
    have pn9 : C2 (61 + 13 * P + 10) = .inl (G.2.2.1, 6, .inl (fun _ => 0)) := pn9
    have pn10 : C2 (61 + 13 * P + 11) = .inl (G.2.2.1, 200, .inl (fun _ => 0)) := pn10
    have pn11 : C2 (61 + 13 * P + 12) = .inl (G.2.2.1, 20, .inl (fun _ => 0)) := pn11
    have pa : ∀ i, i < 61 + 13 * P + 1 → ad2 i = ad1 i := pa
    have pC : ∀ i, i < 61 + 13 * P + 1 → i ≠ 61 + 13 * P → C2 i = C1 i := pC
    have hao : ∀ i, i < 61 + 13 * P → ad i = ad2 i := fun i hi => by rw [pa i (by omega), ead1, va_up_ne _ _ (by omega)]
    have hCo : ∀ i, i < 61 + 13 * P → C2 i = cellOf G P ad M i := fun i hi => by rw [pC i (by omega) (by omega), eC1, va_up_ne _ _ (by omega)]
    have hq2 : ad2 (61 + 13 * P) = q := by rw [pa _ (by omega)]; exact hq
    refine x_qst S hw 33 (61 + 13 * P) (hao 33 (by omega)).symm hq2 (by omega) ((hCo 33 (by omega)).trans (cell_Q (n := 200) (l := []) rfl)) (by omega) ph (by decide) P (by omega) dX7_earlierAt_33 (fun C3 H locs eC3 hw => ?_)
    have hw : Wg G (61 + 13 * (P + 1)) ad2 C3 s H locs := hw
    have hw : Wd G (61 + 13 * (P + 1)) (P + 1) ad2 (newM P M) s H locs := by
      refine hw.to rfl (fun _ _ => rfl) (fun i hi => ?_)
      by_cases h33 : i = 33
      · subst h33
        rw [eC3, va_up_self, cell_Q (n := 200) (l := []) rfl]
        refine congrArg (fun f => (Sum.inl (G.2.2.2.2, 200, Sum.inr (Sum.inr (Sum.inr (Sum.inr f)))) : va_E)) (funext fun j => ?_)
        by_cases hj : j = P
        · subst hj
          rw [va_up_self, if_pos (by omega), hq2]
        · rw [va_up_ne _ _ hj]
          by_cases hj2 : j < P
          · rw [if_pos hj2, if_pos (by omega), hao _ (by omega)]
          · rw [if_neg hj2, if_neg (by omega)]
      · rw [eC3, va_up_ne _ _ h33]
        by_cases hi2 : i < 61 + 13 * P
        · rw [hCo i hi2]
          exact cell_ext hi2 h33 hao (newM_lt hi2).symm
        · rcases (show i = 61 + 13 * P ∨ i = 61 + 13 * P + 1 ∨ i = 61 + 13 * P + 2 ∨ i = 61 + 13 * P + 3 ∨ i = 61 + 13 * P + 4 ∨ i = 61 + 13 * P + 5 ∨ i = 61 + 13 * P + 6 ∨ i = 61 + 13 * P + 7 ∨ i = 61 + 13 * P + 8 ∨ i = 61 + 13 * P + 9 ∨ i = 61 + 13 * P + 10 ∨ i = 61 + 13 * P + 11 ∨ i = 61 + 13 * P + 12 by omega) with rfl | rfl | rfl | rfl | rfl | rfl | rfl | rfl | rfl | rfl | rfl | rfl | rfl
          · rw [ph, cell_O isMk.s0, newM_at]; rfl
          · rw [pn0, cell_O isMk.s1, newM_gt (by omega)]; rfl
          · rw [pn1, cell_I isMk.s2, newM_gt (by omega)]
          · rw [pn2, cell_I isMk.s3, newM_gt (by omega)]
          · rw [pn3, cell_I isMk.s4, newM_gt (by omega)]
          · rw [pn4, cell_I isMk.s5, newM_gt (by omega)]
          · rw [pn5, cell_O isMk.s6, newM_gt (by omega)]; rfl
          · rw [pn6, cell_I isMk.s7, newM_gt (by omega)]
          · rw [pn7, cell_I isMk.s8, newM_gt (by omega)]
          · rw [pn8, cell_I isMk.s9, newM_gt (by omega)]
          · rw [pn9, cell_I isMk.s10, newM_gt (by omega)]
          · rw [pn10, cell_I isMk.s11, newM_gt (by omega)]
          · rw [pn11, cell_I isMk.s12, newM_gt (by omega)]
    have hl : lv_has ls 3 [(2, .int (nI P)), (0, .ref (ad2 0)), (1, .int (nI P))] := by rw [← hao 0 (by omega)]; exact hl
    refine lv_aload_n S.1 S.2.1 dX7_earlierAt_34 rfl (lv_at hl 1 rfl) ?_
    refine m_getR 0 7 33 S hw (by omega) rfl rfl rfl in_X7 (by decide) wf_X7_51 dX7_earlierAt_35 ?_
    refine lv_iload_n S.1 S.2.1 dX7_earlierAt_38 rfl (lv_at hl 0 rfl) ?_
    refine m_qld S hw (by omega) P (by omega) hP dX7_earlierAt_39 ?_
    exact a_retr (P := P) S hr hlocks hw (by decide) (by decide) dX7_earlierAt_40 rfl ⟨⟨Nat.le_succ _, fun i hi => (hao i hi).symm⟩, Nat.lt_succ_self _, fun i hi => newM_lt hi⟩
