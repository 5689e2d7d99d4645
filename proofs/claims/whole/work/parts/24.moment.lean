set_option maxHeartbeats 4000000 in
set_option maxRecDepth 100000 in
/-- Wishes.wanting -/
theorem c_X6_wanting (l : Launch) (G : GT) (N K : Nat) (ad : Nat → Nat) (M : Mem) (h34 : 34 ≤ N) (Wn : Nat) (hWn : M 12 0 = nI Wn) (hW20 : Wn ≤ 20) (hwt : ∀ w, w < Wn → inB (M 13 w) 48 = true) (w : Nat) (hw1 : w < Wn) : CrI l G N K ad yX6_wanting cX6_wanting 4 .int 1 21 [.ref (ad 12), .int (nI w), .ref (ad 26)] M (wantS (M 13) (M 14) (M 16) (M 29) w) := by
  refine cm_startI (by decide +kernel) (Nat.le_of_ble_eq_true rfl) ?_
  intro p e s m below meth c ls S hr hlocks hw hl
  have hl : lv_has ls 4 [(0, .ref (ad 12)), (1, .int (nI w)), (2, .ref (ad 26))] := hl
  obtain ⟨tk, htk, etk⟩ := inB_of (hwt w (by omega)) (by decide)
  have etn : tn (M 13 w) = tk := by rw [etk]; exact tn_nI (by omega)
  refine lv_aload_n S.1 S.2.1 dX6_wanting_0 rfl (lv_at hl 2 rfl) ?_
  refine m_getR 26 2 29 S hw (by omega) rfl rfl rfl in_X4 (by decide) wf_X6_28 dX6_wanting_1 ?_
  refine lv_aload_n S.1 S.2.1 dX6_wanting_4 rfl (lv_at hl 0 rfl) ?_
  refine m_getR 12 1 13 S hw (by omega) rfl rfl rfl in_X6 (by decide) wf_X6_15 dX6_wanting_5 ?_
  refine lv_iload_n S.1 S.2.1 dX6_wanting_8 rfl (lv_at hl 1 rfl) ?_
  refine m_ald 13 w S hw (by omega) rfl (by decide) (by omega) rfl dX6_wanting_9 ?_
  refine m_top (show M 13 w = nI tk from etk) ?_
  refine m_ald 29 tk S hw (by omega) rfl (by decide) (by omega) rfl dX6_wanting_10 ?_
  refine lv_aload_n S.1 S.2.1 dX6_wanting_11 rfl (lv_at hl 0 rfl) ?_
  refine m_getR 12 4 16 S hw (by omega) rfl rfl rfl in_X6 (by decide) wf_X6_25 dX6_wanting_12 ?_
  refine lv_iload_n S.1 S.2.1 dX6_wanting_15 rfl (lv_at hl 1 rfl) ?_
  refine m_ald 16 w S hw (by omega) rfl (by decide) (by omega) rfl dX6_wanting_16 ?_
  refine lv_isub S.1 S.2.1 dX6_wanting_17 ?_
  refine lv_istore_n (lv' := [(3, .int ((M 29 tk) - (M 16 w))), (0, .ref (ad 12)), (1, .int (nI w)), (2, .ref (ad 26))]) S.1 S.2.1 dX6_wanting_18 rfl hl (by decide) rfl (fun ls hl => ?_)
  refine lv_iconst (v := nI 0) S.1 S.2.1 dX6_wanting_19 (by decide) ?_
  refine lv_aload_n S.1 S.2.1 dX6_wanting_20 rfl (lv_at hl 1 rfl) ?_
  refine m_getR 12 2 14 S hw (by omega) rfl rfl rfl in_X6 (by decide) wf_X6_19 dX6_wanting_21 ?_
  refine lv_iload_n S.1 S.2.1 dX6_wanting_24 rfl (lv_at hl 2 rfl) ?_
  refine m_ald 14 w S hw (by omega) rfl (by decide) (by omega) rfl dX6_wanting_25 ?_
  refine lv_iload_n S.1 S.2.1 dX6_wanting_26 rfl (lv_at hl 0 rfl) ?_
  refine lv_isub S.1 S.2.1 dX6_wanting_27 ?_
  refine va_mmax S.1 S.2.1 (S.2.2.1.trans hl.1.symm) S.2.2.2.1 (S.2.2.2.2 _ wm_X6_33) (S.2.2.2.2 _ wt_max) (S.2.2.2.2 _ wn_J9) (S.2.2.2.2 _ wc_max) (by decide) (Nat.le_of_ble_eq_true rfl) (by decide) (by decide) dX6_wanting_28 ?_
  exact m_reti S hr hlocks hw dX6_wanting_31 ⟨by rw [wantS, etn], rfl⟩

set_option maxHeartbeats 4000000 in
set_option maxRecDepth 100000 in
/-- Wishes.tell -/
theorem c_X6_tell (l : Launch) (G : GT) (N K : Nat) (ad : Nat → Nat) (M : Mem) (h34 : 34 ≤ N) (Wn : Nat) (hWn : M 12 0 = nI Wn) (hW20 : Wn < 20) (x1 x2 x3 x4 : Int32) : CmI l G N K ad yX6_tell cX6_tell 6 .int 0 0 [.ref (ad 12), .int x1, .int x2, .int x3, .int x4] M (fun r M1 => r = nI Wn ∧ M1 12 = upd (M 12) 0 (nI (Wn + 1)) ∧ M1 13 = upd (M 13) Wn x1 ∧ M1 14 = upd (M 14) Wn x2 ∧ M1 15 = upd (M 15) Wn x3 ∧ M1 16 = upd (M 16) Wn x4 ∧ Fr 12 17 M M1) := by
  refine cm_startI (by decide +kernel) (Nat.le_of_ble_eq_true rfl) ?_
  intro p e s m below meth c ls S hr hlocks hw hl
  have hl : lv_has ls 6 [(0, .ref (ad 12)), (1, .int x1), (2, .int x2), (3, .int x3), (4, .int x4)] := hl
  refine lv_aload_n S.1 S.2.1 dX6_tell_0 rfl (lv_at hl 0 rfl) ?_
  refine m_getI 12 0 S hw (by omega) rfl rfl rfl in_X6 (by decide) wf_X6_9 dX6_tell_1 ?_
  refine m_top (show M 12 0 = nI Wn from hWn) ?_
  refine lv_istore (lv' := [(5, .int (nI Wn)), (0, .ref (ad 12)), (1, .int x1), (2, .int x2), (3, .int x3), (4, .int x4)]) S.1 S.2.1 dX6_tell_4 hl (by decide) rfl (fun ls hl => ?_)
  refine lv_aload_n S.1 S.2.1 dX6_tell_6 rfl (lv_at hl 1 rfl) ?_
  refine m_getR 12 1 13 S hw (by omega) rfl rfl rfl in_X6 (by decide) wf_X6_15 dX6_tell_7 ?_
  refine lv_iload S.1 S.2.1 dX6_tell_10 (lv_at hl 0 rfl) ?_
  refine lv_iload_n S.1 S.2.1 dX6_tell_12 rfl (lv_at hl 2 rfl) ?_
  refine n_ast 13 Wn S hw (by omega) rfl (by decide) (by omega) rfl dX6_tell_13 (fun M1 H locs eM1 hw => ?_)
  refine lv_aload_n S.1 S.2.1 dX6_tell_14 rfl (lv_at hl 1 rfl) ?_
  refine m_getR 12 2 14 S hw (by omega) rfl rfl rfl in_X6 (by decide) wf_X6_19 dX6_tell_15 ?_
  refine lv_iload S.1 S.2.1 dX6_tell_18 (lv_at hl 0 rfl) ?_
  refine lv_iload_n S.1 S.2.1 dX6_tell_20 rfl (lv_at hl 3 rfl) ?_
  refine n_ast 14 Wn S hw (by omega) rfl (by decide) (by omega) rfl dX6_tell_21 (fun M2 H locs eM2 hw => ?_)
  refine lv_aload_n S.1 S.2.1 dX6_tell_22 rfl (lv_at hl 1 rfl) ?_
  refine m_getR 12 3 15 S hw (by omega) rfl rfl rfl in_X6 (by decide) wf_X6_22 dX6_tell_23 ?_
  refine lv_iload S.1 S.2.1 dX6_tell_26 (lv_at hl 0 rfl) ?_
  refine lv_iload_n S.1 S.2.1 dX6_tell_28 rfl (lv_at hl 4 rfl) ?_
  refine n_ast 15 Wn S hw (by omega) rfl (by decide) (by omega) rfl dX6_tell_29 (fun M3 H locs eM3 hw => ?_)
  refine lv_aload_n S.1 S.2.1 dX6_tell_30 rfl (lv_at hl 1 rfl) ?_
  refine m_getR 12 4 16 S hw (by omega) rfl rfl rfl in_X6 (by decide) wf_X6_25 dX6_tell_31 ?_
  refine lv_iload S.1 S.2.1 dX6_tell_34 (lv_at hl 0 rfl) ?_
  refine lv_iload S.1 S.2.1 dX6_tell_36 (lv_at hl 5 rfl) ?_
  refine n_ast 16 Wn S hw (by omega) rfl (by decide) (by omega) rfl dX6_tell_38 (fun M4 H locs eM4 hw => ?_)
  refine lv_aload_n S.1 S.2.1 dX6_tell_39 rfl (lv_at hl 1 rfl) ?_
  refine lv_iload S.1 S.2.1 dX6_tell_40 (lv_at hl 0 rfl) ?_
  refine lv_iconst (v := nI 1) S.1 S.2.1 dX6_tell_42 (by decide) ?_
  refine lv_iadd S.1 S.2.1 dX6_tell_43 ?_
  refine m_top (show (nI Wn) + (nI 1) = nI (Wn + 1) from nI_add _ _) ?_
  refine n_putI 12 0 S hw (by omega) rfl rfl rfl in_X6 tyX6_ok nmX6 (by decide) rfl rfl wf_X6_9 dX6_tell_44 (fun M5 H locs eM5 hw => ?_)
  refine lv_iload S.1 S.2.1 dX6_tell_47 (lv_at hl 0 rfl) ?_
  have hq6 : M1 12 = M 12 := by rw [eM1, va_up_ne _ _ (by omega)]
  have hq7 : M2 12 = M 12 := by rw [eM2, va_up_ne _ _ (by omega), hq6]
  have hq8 : M3 12 = M 12 := by rw [eM3, va_up_ne _ _ (by omega), hq7]
  have hq9 : M4 12 = M 12 := by rw [eM4, va_up_ne _ _ (by omega), hq8]
  have hq10 : M5 12 = upd (M 12) 0 (nI (Wn + 1)) := by rw [eM5, va_up_self, hq9]
  have hq11 : M1 13 = upd (M 13) Wn x1 := by rw [eM1, va_up_self]
  have hq12 : M2 13 = upd (M 13) Wn x1 := by rw [eM2, va_up_ne _ _ (by omega), hq11]
  have hq13 : M3 13 = upd (M 13) Wn x1 := by rw [eM3, va_up_ne _ _ (by omega), hq12]
  have hq14 : M4 13 = upd (M 13) Wn x1 := by rw [eM4, va_up_ne _ _ (by omega), hq13]
  have hq15 : M5 13 = upd (M 13) Wn x1 := by rw [eM5, va_up_ne _ _ (by omega), hq14]
  have hq16 : M1 14 = M 14 := by rw [eM1, va_up_ne _ _ (by omega)]
  have hq17 : M2 14 = upd (M 14) Wn x2 := by rw [eM2, va_up_self, hq16]
  have hq18 : M3 14 = upd (M 14) Wn x2 := by rw [eM3, va_up_ne _ _ (by omega), hq17]
  have hq19 : M4 14 = upd (M 14) Wn x2 := by rw [eM4, va_up_ne _ _ (by omega), hq18]
  have hq20 : M5 14 = upd (M 14) Wn x2 := by rw [eM5, va_up_ne _ _ (by omega), hq19]
  have hq21 : M1 15 = M 15 := by rw [eM1, va_up_ne _ _ (by omega)]
  have hq22 : M2 15 = M 15 := by rw [eM2, va_up_ne _ _ (by omega), hq21]
  have hq23 : M3 15 = upd (M 15) Wn x3 := by rw [eM3, va_up_self, hq22]
  have hq24 : M4 15 = upd (M 15) Wn x3 := by rw [eM4, va_up_ne _ _ (by omega), hq23]
  have hq25 : M5 15 = upd (M 15) Wn x3 := by rw [eM5, va_up_ne _ _ (by omega), hq24]
  have hq26 : M1 16 = M 16 := by rw [eM1, va_up_ne _ _ (by omega)]
  have hq27 : M2 16 = M 16 := by rw [eM2, va_up_ne _ _ (by omega), hq26]
  have hq28 : M3 16 = M 16 := by rw [eM3, va_up_ne _ _ (by omega), hq27]
  have hq29 : M4 16 = upd (M 16) Wn x4 := by rw [eM4, va_up_self, hq28]
  have hq30 : M5 16 = upd (M 16) Wn x4 := by rw [eM5, va_up_ne _ _ (by omega), hq29]
  exact m_reti S hr hlocks hw dX6_tell_49 ⟨rfl, hq10, hq15, hq20, hq25, hq30, (by rw [eM5]; exact Fr.up (by rw [eM4]; exact Fr.up (by rw [eM3]; exact Fr.up (by rw [eM2]; exact Fr.up (by rw [eM1]; exact Fr.up Fr.rf (by omega) (by omega)) (by omega) (by omega)) (by omega) (by omega)) (by omega) (by omega)) (by omega) (by omega))⟩

set_option maxHeartbeats 4000000 in
set_option maxRecDepth 100000 in
/-- Wishes.keep -/
theorem c_X6_keep (l : Launch) (G : GT) (N K : Nat) (ad : Nat → Nat) (M : Mem) (h34 : 34 ≤ N) (Wn : Nat) (hWn : M 12 0 = nI Wn) (hW20 : Wn ≤ 20) (hwt : ∀ w, w < Wn → inB (M 13 w) 48 = true) : CmV l G N K ad yX6_keep cX6_keep 3 2 44 [.ref (ad 12), .ref (ad 20)] M (fun M1 => M1 32 = keepF (M 32) (wantS (M 13) (M 14) (M 16) (M 29)) (M 20 0) Wn ∧ Fr 32 33 M M1) := by
  refine cm_startV (by decide +kernel) (Nat.le_of_ble_eq_true rfl) ?_
  intro p e s m below meth c ls S hr hlocks hw hl
  have hl : lv_has ls 3 [(0, .ref (ad 12)), (1, .ref (ad 20))] := hl
  generalize hAv : List.toArray ([.ref (ad 12), .ref (ad 20)] : List Value) = A at S ⊢
  have loop : ∀ (n : Nat) (i : Nat), i + n = Wn → ∀ (M2 : Mem) (H : Heap) (locs : List Loc) (ls : Array Slot), (M2 32 = keepF (M 32) (wantS (M 13) (M 14) (M 16) (M 29)) (M 20 0) i ∧ Fr 32 33 M M2) → Wd G N K ad M2 s H locs → lv_has ls 3 [(0, .ref (ad 12)), (1, .ref (ad 20)), (2, .int (nI i))] → W p l e { frames := 2, cells := 0, slots := 0, locals := 44 } s m A below meth c H locs 0 0 (QmV G N K ad (fun M1 => M1 32 = keepF (M 32) (wantS (M 13) (M 14) (M 16) (M 29)) (M 20 0) Wn ∧ Fr 32 33 M M1) below A s) (F0 m 2 ls []) := by
    intro n
    induction n with
    | zero =>
      intro i hi M2 H locs ls hv hw hl
      have hWn2 : M2 12 0 = nI Wn := by rw [hv.2 12 (by omega)]; exact hWn
      refine lv_iload_n S.1 S.2.1 dX6_keep_2 rfl (lv_at hl 2 rfl) ?_
      refine lv_aload_n S.1 S.2.1 dX6_keep_3 rfl (lv_at hl 0 rfl) ?_
      refine m_getI 12 0 S hw (by omega) rfl rfl rfl in_X6 (by decide) wf_X6_9 dX6_keep_4 ?_
      refine m_top (show M2 12 0 = nI Wn from hWn2) ?_
      refine n_ge (tgt := 48) S (by omega) (by omega) dX6_keep_7 (by decide) (fun c1 => ?_) (fun c1 => absurd c1 (by omega))
      exact m_retv S hr hlocks hw dX6_keep_48 (by rw [show i = Wn by omega] at hv; exact hv)
    | succ n ih =>
      intro i hi M2 H locs ls hv hw hl
      have hWn2 : M2 12 0 = nI Wn := by rw [hv.2 12 (by omega)]; exact hWn
      have hwt2 : ∀ w, w < Wn → inB (M2 13 w) 48 = true := by rw [hv.2 13 (by omega)]; exact hwt
      have hke : M2 32 i = M 32 i := by rw [hv.1]; exact keepF_at
      have hwa : wantS (M2 13) (M2 14) (M2 16) (M2 29) = wantS (M 13) (M 14) (M 16) (M 29) := by rw [hv.2 13 (by omega), hv.2 14 (by omega), hv.2 16 (by omega), hv.2 29 (by omega)]
      have hti : M2 20 0 = M 20 0 := by rw [hv.2 20 (by omega)]
      refine lv_iload_n S.1 S.2.1 dX6_keep_2 rfl (lv_at hl 2 rfl) ?_
      refine lv_aload_n S.1 S.2.1 dX6_keep_3 rfl (lv_at hl 0 rfl) ?_
      refine m_getI 12 0 S hw (by omega) rfl rfl rfl in_X6 (by decide) wf_X6_9 dX6_keep_4 ?_
      refine m_top (show M2 12 0 = nI Wn from hWn2) ?_
      refine n_ge (tgt := 48) S (by omega) (by omega) dX6_keep_7 (by decide) (fun c11 => absurd c11 (by omega)) (fun c11 => ?_)
      refine lv_aload_n S.1 S.2.1 dX6_keep_10 rfl (lv_at hl 1 rfl) ?_
      refine m_getR 20 6 32 S hw (by omega) rfl rfl rfl in_X1 (by decide) wf_X6_39 dX6_keep_11 ?_
      refine lv_iload_n S.1 S.2.1 dX6_keep_14 rfl (lv_at hl 2 rfl) ?_
      refine m_ald 32 i S hw (by omega) rfl (by decide) (by omega) rfl dX6_keep_15 ?_
      refine m_top (show M2 32 i = M 32 i from hke) ?_
      refine lv_iconst (v := (-1)) S.1 S.2.1 dX6_keep_16 (by decide) ?_
      refine lv_icmp_ne (tgt := 42) S.1 S.2.1 dX6_keep_17 (by decide) (fun c12 => ?_) (fun c12 => ?_)
      · refine lv_iinc (v := nI (i + 1)) (lv' := [(2, .int (nI (i + 1))), (0, .ref (ad 12)), (1, .ref (ad 20))]) S.1 S.2.1 dX6_keep_42 hl (k := 2) rfl (iinc1 _) (by decide) rfl (fun ls hl => ?_)
        refine lv_goto (tgt := 2) S.1 S.2.1 dX6_keep_45 (by decide) ?_
        exact ih (i + 1) (by omega) _ _ _ ls ⟨by rw [hv.1, keepF_f (fun q => c12 q.1)], hv.2⟩ hw (lv_sub hl [1, 2, 0] rfl)
      · refine lv_aload_n S.1 S.2.1 dX6_keep_20 rfl (lv_at hl 0 rfl) ?_
        refine lv_iload_n S.1 S.2.1 dX6_keep_21 rfl (lv_at hl 2 rfl) ?_
        refine lv_aload_n S.1 S.2.1 dX6_keep_22 rfl (lv_at hl 1 rfl) ?_
        refine m_getR 20 4 26 S hw (by omega) rfl rfl rfl in_X1 (by decide) wf_X6_44 dX6_keep_23 ?_
        refine r_VI (As := [.int (nI i), .ref (ad 26)]) (rest := []) 12 S hw (by omega) rfl rfl (c_X6_wanting l G N K ad M2 h34 Wn hWn2 hW20 hwt2 i (by omega)) mf_X6_wanting wm_X6_48 ⟨by decide, by decide⟩ ⟨Nat.le_refl _, Nat.le_refl _⟩ hl.1 rfl (Nat.le_of_ble_eq_true rfl) dX6_keep_26 (fun H locs hw => ?_)
        refine lv_if_ne (tgt := 42) S.1 S.2.1 dX6_keep_29 (by decide) (fun c13 => ?_) (fun c13 => ?_)
        · refine lv_iinc (v := nI (i + 1)) (lv' := [(2, .int (nI (i + 1))), (0, .ref (ad 12)), (1, .ref (ad 20))]) S.1 S.2.1 dX6_keep_42 hl (k := 2) rfl (iinc1 _) (by decide) rfl (fun ls hl => ?_)
          refine lv_goto (tgt := 2) S.1 S.2.1 dX6_keep_45 (by decide) ?_
          exact ih (i + 1) (by omega) _ _ _ ls ⟨by rw [hv.1, keepF_f (fun q => c13 (by rw [hwa]; exact q.2))], hv.2⟩ hw (lv_sub hl [1, 2, 0] rfl)
        · refine lv_aload_n S.1 S.2.1 dX6_keep_32 rfl (lv_at hl 1 rfl) ?_
          refine m_getR 20 6 32 S hw (by omega) rfl rfl rfl in_X1 (by decide) wf_X6_39 dX6_keep_33 ?_
          refine lv_iload_n S.1 S.2.1 dX6_keep_36 rfl (lv_at hl 2 rfl) ?_
          refine lv_aload_n S.1 S.2.1 dX6_keep_37 rfl (lv_at hl 1 rfl) ?_
          refine m_getI 20 0 S hw (by omega) rfl rfl rfl in_X1 (by decide) wf_X6_52 dX6_keep_38 ?_
          refine m_top (show M2 20 0 = M 20 0 from hti) ?_
          refine n_ast 32 i S hw (by omega) rfl (by decide) (by omega) rfl dX6_keep_41 (fun M14 H locs eM14 hw => ?_)
          refine lv_iinc (v := nI (i + 1)) (lv' := [(2, .int (nI (i + 1))), (0, .ref (ad 12)), (1, .ref (ad 20))]) S.1 S.2.1 dX6_keep_42 hl (k := 2) rfl (iinc1 _) (by decide) rfl (fun ls hl => ?_)
          refine lv_goto (tgt := 2) S.1 S.2.1 dX6_keep_45 (by decide) ?_
          exact ih (i + 1) (by omega) _ _ _ ls ⟨by rw [eM14, va_up_self, hv.1, keepF_t c12 (by rw [← hwa]; exact c13)], by rw [eM14]; exact Fr.up hv.2 (by omega) (by omega)⟩ hw (lv_sub hl [1, 2, 0] rfl)
  refine lv_iconst (v := nI 0) S.1 S.2.1 dX6_keep_0 (by decide) ?_
  refine lv_istore_n (lv' := [(2, .int (nI 0)), (0, .ref (ad 12)), (1, .ref (ad 20))]) S.1 S.2.1 dX6_keep_1 rfl hl (by decide) rfl (fun ls hl => ?_)
  exact loop Wn 0 (by omega) _ _ _ ls ⟨(keepF_0 _ _ _).symm, Fr.rf⟩ hw (lv_sub hl [1, 2, 0] rfl)

set_option maxHeartbeats 4000000 in
set_option maxRecDepth 100000 in
/-- Wishes.lateBy -/
theorem c_X6_lateBy (l : Launch) (G : GT) (N K : Nat) (ad : Nat → Nat) (M : Mem) (h34 : 34 ≤ N) (w : Nat) (hw1 : w < 20) : CrI l G N K ad yX6_lateBy cX6_lateBy 4 .int 1 21 [.ref (ad 12), .int (nI w), .ref (ad 20)] M (lateS (M 32) (M 15) (M 20 0) w) := by
  refine cm_startI (by decide +kernel) (Nat.le_of_ble_eq_true rfl) ?_
  intro p e s m below meth c ls S hr hlocks hw hl
  have hl : lv_has ls 4 [(0, .ref (ad 12)), (1, .int (nI w)), (2, .ref (ad 20))] := hl
  refine lv_aload_n S.1 S.2.1 dX6_lateBy_0 rfl (lv_at hl 2 rfl) ?_
  refine m_getR 20 6 32 S hw (by omega) rfl rfl rfl in_X1 (by decide) wf_X6_39 dX6_lateBy_1 ?_
  refine lv_iload_n S.1 S.2.1 dX6_lateBy_4 rfl (lv_at hl 1 rfl) ?_
  refine m_ald 32 w S hw (by omega) rfl (by decide) (by omega) rfl dX6_lateBy_5 ?_
  refine lv_iconst (v := (-1)) S.1 S.2.1 dX6_lateBy_6 (by decide) ?_
  refine lv_icmp_ne (tgt := 17) S.1 S.2.1 dX6_lateBy_7 (by decide) (fun c1 => ?_) (fun c1 => ?_)
  · refine lv_aload_n S.1 S.2.1 dX6_lateBy_17 rfl (lv_at hl 2 rfl) ?_
    refine m_getR 20 6 32 S hw (by omega) rfl rfl rfl in_X1 (by decide) wf_X6_39 dX6_lateBy_18 ?_
    refine lv_iload_n S.1 S.2.1 dX6_lateBy_21 rfl (lv_at hl 1 rfl) ?_
    refine m_ald 32 w S hw (by omega) rfl (by decide) (by omega) rfl dX6_lateBy_22 ?_
    refine lv_istore_n (lv' := [(3, .int (M 32 w)), (0, .ref (ad 12)), (1, .int (nI w)), (2, .ref (ad 20))]) S.1 S.2.1 dX6_lateBy_23 rfl hl (by decide) rfl (fun ls hl => ?_)
    refine lv_iconst (v := nI 0) S.1 S.2.1 dX6_lateBy_24 (by decide) ?_
    refine lv_iload_n S.1 S.2.1 dX6_lateBy_25 rfl (lv_at hl 0 rfl) ?_
    refine lv_aload_n S.1 S.2.1 dX6_lateBy_26 rfl (lv_at hl 1 rfl) ?_
    refine m_getR 12 3 15 S hw (by omega) rfl rfl rfl in_X6 (by decide) wf_X6_22 dX6_lateBy_27 ?_
    refine lv_iload_n S.1 S.2.1 dX6_lateBy_30 rfl (lv_at hl 2 rfl) ?_
    refine m_ald 15 w S hw (by omega) rfl (by decide) (by omega) rfl dX6_lateBy_31 ?_
    refine lv_isub S.1 S.2.1 dX6_lateBy_32 ?_
    refine va_mmax S.1 S.2.1 (S.2.2.1.trans hl.1.symm) S.2.2.2.1 (S.2.2.2.2 _ wm_X6_33) (S.2.2.2.2 _ wt_max) (S.2.2.2.2 _ wn_J9) (S.2.2.2.2 _ wc_max) (by decide) (Nat.le_of_ble_eq_true rfl) (by decide) (by decide) dX6_lateBy_33 ?_
    exact m_reti S hr hlocks hw dX6_lateBy_36 ⟨by simp only [lateS, eqB_f c1, Bool.false_eq_true, if_false], rfl⟩
  · refine lv_aload_n S.1 S.2.1 dX6_lateBy_10 rfl (lv_at hl 2 rfl) ?_
    refine m_getI 20 0 S hw (by omega) rfl rfl rfl in_X1 (by decide) wf_X6_52 dX6_lateBy_11 ?_
    refine lv_goto (tgt := 23) S.1 S.2.1 dX6_lateBy_14 (by decide) ?_
    refine lv_istore_n (lv' := [(3, .int (M 20 0)), (0, .ref (ad 12)), (1, .int (nI w)), (2, .ref (ad 20))]) S.1 S.2.1 dX6_lateBy_23 rfl hl (by decide) rfl (fun ls hl => ?_)
    refine lv_iconst (v := nI 0) S.1 S.2.1 dX6_lateBy_24 (by decide) ?_
    refine lv_iload_n S.1 S.2.1 dX6_lateBy_25 rfl (lv_at hl 0 rfl) ?_
    refine lv_aload_n S.1 S.2.1 dX6_lateBy_26 rfl (lv_at hl 1 rfl) ?_
    refine m_getR 12 3 15 S hw (by omega) rfl rfl rfl in_X6 (by decide) wf_X6_22 dX6_lateBy_27 ?_
    refine lv_iload_n S.1 S.2.1 dX6_lateBy_30 rfl (lv_at hl 2 rfl) ?_
    refine m_ald 15 w S hw (by omega) rfl (by decide) (by omega) rfl dX6_lateBy_31 ?_
    refine lv_isub S.1 S.2.1 dX6_lateBy_32 ?_
    refine va_mmax S.1 S.2.1 (S.2.2.1.trans hl.1.symm) S.2.2.2.1 (S.2.2.2.2 _ wm_X6_33) (S.2.2.2.2 _ wt_max) (S.2.2.2.2 _ wn_J9) (S.2.2.2.2 _ wc_max) (by decide) (Nat.le_of_ble_eq_true rfl) (by decide) (by decide) dX6_lateBy_33 ?_
    exact m_reti S hr hlocks hw dX6_lateBy_36 ⟨by simp only [lateS, eqB_t c1, if_true], rfl⟩

set_option maxHeartbeats 4000000 in
set_option maxRecDepth 100000 in
/-- Wishes.lateByAll -/
theorem c_X6_lateByAll (l : Launch) (G : GT) (N K : Nat) (ad : Nat → Nat) (M : Mem) (h34 : 34 ≤ N) (Wn : Nat) (hWn : M 12 0 = nI Wn) (hW20 : Wn ≤ 20) : CrI l G N K ad yX6_lateByAll cX6_lateByAll 4 .int 2 44 [.ref (ad 12), .ref (ad 20)] M (sumI (lateS (M 32) (M 15) (M 20 0)) Wn) := by
  refine cm_startI (by decide +kernel) (Nat.le_of_ble_eq_true rfl) ?_
  intro p e s m below meth c ls S hr hlocks hw hl
  have hl : lv_has ls 4 [(0, .ref (ad 12)), (1, .ref (ad 20))] := hl
  generalize hAv : List.toArray ([.ref (ad 12), .ref (ad 20)] : List Value) = A at S ⊢
  have loop : ∀ (n : Nat) (i : Nat), i + n = Wn → ∀ (H : Heap) (locs : List Loc) (ls : Array Slot), Wd G N K ad M s H locs → lv_has ls 4 [(0, .ref (ad 12)), (1, .ref (ad 20)), (2, .int (sumI (lateS (M 32) (M 15) (M 20 0)) i)), (3, .int (nI i))] → W p l e { frames := 2, cells := 0, slots := 0, locals := 44 } s m A below meth c H locs 0 0 (QmI G N K ad (fun r M' => r = (sumI (lateS (M 32) (M 15) (M 20 0)) Wn) ∧ M' = M) below A s) (F0 m 4 ls []) := by
    intro n
    induction n with
    | zero =>
      intro i hi H locs ls hw hl
      refine lv_iload_n S.1 S.2.1 dX6_lateByAll_4 rfl (lv_at hl 3 rfl) ?_
      refine lv_aload_n S.1 S.2.1 dX6_lateByAll_5 rfl (lv_at hl 0 rfl) ?_
      refine m_getI 12 0 S hw (by omega) rfl rfl rfl in_X6 (by decide) wf_X6_9 dX6_lateByAll_6 ?_
      refine m_top (show M 12 0 = nI Wn from hWn) ?_
      refine n_ge (tgt := 27) S (by omega) (by omega) dX6_lateByAll_9 (by decide) (fun c1 => ?_) (fun c1 => absurd c1 (by omega))
      refine lv_iload_n S.1 S.2.1 dX6_lateByAll_27 rfl (lv_at hl 2 rfl) ?_
      exact m_reti S hr hlocks hw dX6_lateByAll_28 ⟨by rw [show i = Wn by omega], rfl⟩
    | succ n ih =>
      intro i hi H locs ls hw hl
      refine lv_iload_n S.1 S.2.1 dX6_lateByAll_4 rfl (lv_at hl 3 rfl) ?_
      refine lv_aload_n S.1 S.2.1 dX6_lateByAll_5 rfl (lv_at hl 0 rfl) ?_
      refine m_getI 12 0 S hw (by omega) rfl rfl rfl in_X6 (by decide) wf_X6_9 dX6_lateByAll_6 ?_
      refine m_top (show M 12 0 = nI Wn from hWn) ?_
      refine n_ge (tgt := 27) S (by omega) (by omega) dX6_lateByAll_9 (by decide) (fun c1 => absurd c1 (by omega)) (fun c1 => ?_)
      refine lv_iload_n S.1 S.2.1 dX6_lateByAll_12 rfl (lv_at hl 2 rfl) ?_
      refine lv_aload_n S.1 S.2.1 dX6_lateByAll_13 rfl (lv_at hl 0 rfl) ?_
      refine lv_iload_n S.1 S.2.1 dX6_lateByAll_14 rfl (lv_at hl 3 rfl) ?_
      refine lv_aload_n S.1 S.2.1 dX6_lateByAll_15 rfl (lv_at hl 1 rfl) ?_
      refine r_VI (As := [.int (nI i), .ref (ad 20)]) (rest := [.int (sumI (lateS (M 32) (M 15) (M 20 0)) i)]) 12 S hw (by omega) rfl rfl (c_X6_lateBy l G N K ad M h34 i (by omega)) mf_X6_lateBy wm_X6_55 ⟨by decide, by decide⟩ ⟨Nat.le_refl _, Nat.le_refl _⟩ hl.1 rfl (Nat.le_of_ble_eq_true rfl) dX6_lateByAll_16 (fun H locs hw => ?_)
      refine lv_iadd S.1 S.2.1 dX6_lateByAll_19 ?_
      refine lv_istore_n (lv' := [(2, .int ((sumI (lateS (M 32) (M 15) (M 20 0)) i) + (lateS (M 32) (M 15) (M 20 0) i))), (0, .ref (ad 12)), (1, .ref (ad 20)), (3, .int (nI i))]) S.1 S.2.1 dX6_lateByAll_20 rfl hl (by decide) rfl (fun ls hl => ?_)
      refine lv_iinc (v := nI (i + 1)) (lv' := [(3, .int (nI (i + 1))), (2, .int ((sumI (lateS (M 32) (M 15) (M 20 0)) i) + (lateS (M 32) (M 15) (M 20 0) i))), (0, .ref (ad 12)), (1, .ref (ad 20))]) S.1 S.2.1 dX6_lateByAll_21 hl (k := 3) rfl (iinc1 _) (by decide) rfl (fun ls hl => ?_)
      refine lv_goto (tgt := 4) S.1 S.2.1 dX6_lateByAll_24 (by decide) ?_
      exact ih (i + 1) (by omega) _ _ ls hw (lv_sub hl [2, 3, 1, 0] rfl)
  refine lv_iconst (v := nI 0) S.1 S.2.1 dX6_lateByAll_0 (by decide) ?_
  refine lv_istore_n (lv' := [(2, .int (nI 0)), (0, .ref (ad 12)), (1, .ref (ad 20))]) S.1 S.2.1 dX6_lateByAll_1 rfl hl (by decide) rfl (fun ls hl => ?_)
  refine lv_iconst (v := nI 0) S.1 S.2.1 dX6_lateByAll_2 (by decide) ?_
  refine lv_istore_n (lv' := [(3, .int (nI 0)), (2, .int (nI 0)), (0, .ref (ad 12)), (1, .ref (ad 20))]) S.1 S.2.1 dX6_lateByAll_3 rfl hl (by decide) rfl (fun ls hl => ?_)
  exact loop Wn 0 (by omega) _ _ ls hw (lv_sub hl [2, 3, 1, 0] rfl)

set_option maxHeartbeats 4000000 in
set_option maxRecDepth 100000 in
/-- Moment.renew -/
theorem c_X1_renew (l : Launch) (G : GT) (N K : Nat) (ad : Nat → Nat) (M : Mem) (mb : Nat) (hm : IsM N K mb) (n : Nat) (hn1 : n ≤ 120) : CmV l G N K ad yX1_renew cX1_renew 2 2 45 [.ref (ad mb), .int (nI n)] M (fun M1 => M1 mb 0 = nI 0 ∧ M1 mb 1 = nI 0 ∧ M1 mb 2 = nI 1 ∧ M1 (mb + 1) = (upd (M (mb + 1)) 0 (nI n)) ∧ M1 (mb + 2) = (fun j => if j < n then nI 0 else M (mb + 2) j) ∧ M1 (mb + 3) = (fun j => if j < n then nI 0 else M (mb + 3) j) ∧ M1 (mb + 4) = (fun j => if j < n then (-1) else M (mb + 4) j) ∧ M1 (mb + 5) = (fun j => if j < n then nI 0 else M (mb + 5) j) ∧ M1 (mb + 7) = (M (mb + 7)) ∧ M1 (mb + 8) = (M (mb + 8)) ∧ M1 (mb + 9) = (M (mb + 9)) ∧ M1 (mb + 10) = (fun j => if j < 6 then nI 0 else M (mb + 10) j) ∧ M1 (mb + 11) = (upd (M (mb + 11)) 0 (nI 0)) ∧ M1 (mb + 12) = (M (mb + 12)) ∧ Fr mb (mb + 13) M M1) := by
  refine cm_startV (by decide +kernel) (Nat.le_of_ble_eq_true rfl) ?_
  intro p e s m below meth c ls S hr hlocks hw hl
  have hl : lv_has ls 2 [(0, .ref (ad mb)), (1, .int (nI n))] := hl
  have hlt_mb := hm.lt
  refine lv_aload_n S.1 S.2.1 dX1_renew_0 rfl (lv_at hl 0 rfl) ?_
  refine lv_iconst (v := nI 0) S.1 S.2.1 dX1_renew_1 (by decide) ?_
  refine n_putI mb 0 S hw (by omega) hm.s0 rfl rfl in_X1 tyX1_ok nmX1 (by decide) rfl rfl wf_X1_9 dX1_renew_2 (fun M1 H locs eM1 hw => ?_)
  refine lv_aload_n S.1 S.2.1 dX1_renew_5 rfl (lv_at hl 0 rfl) ?_
  refine lv_iconst (v := nI 0) S.1 S.2.1 dX1_renew_6 (by decide) ?_
  refine n_putI mb 1 S hw (by omega) hm.s0 rfl rfl in_X1 tyX1_ok nmX1 (by decide) rfl rfl wf_X1_15 dX1_renew_7 (fun M2 H locs eM2 hw => ?_)
  refine lv_aload_n S.1 S.2.1 dX1_renew_10 rfl (lv_at hl 0 rfl) ?_
  refine lv_iconst (v := nI 1) S.1 S.2.1 dX1_renew_11 (by decide) ?_
  refine n_putI mb 2 S hw (by omega) hm.s0 rfl rfl in_X1 tyX1_ok nmX1 (by decide) rfl rfl wf_X1_18 dX1_renew_12 (fun M3 H locs eM3 hw => ?_)
  refine lv_aload_n S.1 S.2.1 dX1_renew_15 rfl (lv_at hl 0 rfl) ?_
  refine m_getR mb 5 (mb + 11) S hw (by omega) hm.s0 rfl rfl in_X1 (by decide) wf_X1_35 dX1_renew_16 ?_
  refine lv_iconst (v := nI 0) S.1 S.2.1 dX1_renew_19 (by decide) ?_
  refine lv_iconst (v := nI 0) S.1 S.2.1 dX1_renew_20 (by decide) ?_
  refine n_ast (mb + 11) 0 S hw (by omega) hm.s11 (by decide) (by omega) rfl dX1_renew_21 (fun M4 H locs eM4 hw => ?_)
  refine lv_aload_n S.1 S.2.1 dX1_renew_22 rfl (lv_at hl 0 rfl) ?_
  refine m_getR mb 3 (mb + 1) S hw (by omega) hm.s0 rfl rfl in_X1 (by decide) wf_X1_24 dX1_renew_23 ?_
  refine lv_iload_n S.1 S.2.1 dX1_renew_26 rfl (lv_at hl 1 rfl) ?_
  refine m_VV (As := [.int (nI n)]) (rest := []) (mb + 1) S hw (by omega) hm.s1 rfl (c_X2_renew l G N K ad M4 mb hm n (by omega)) mf_X2_renew wm_X1_42 ⟨by decide, by decide⟩ ⟨Nat.le_refl _, Nat.le_refl _⟩ hl.1 rfl (Nat.le_of_ble_eq_true rfl) dX1_renew_27 (fun M5 H locs hp5 hw => ?_)
  have emb_1_5 : M5 (mb + 1) = (upd (M4 (mb + 1)) 0 (nI n)) := hp5.1
  have emb_2_5 : M5 (mb + 2) = (fun j => if j < n then nI 0 else M4 (mb + 2) j) := hp5.2.1
  have emb_3_5 : M5 (mb + 3) = (fun j => if j < n then nI 0 else M4 (mb + 3) j) := hp5.2.2.1
  have emb_4_5 : M5 (mb + 4) = (fun j => if j < n then (-1) else M4 (mb + 4) j) := hp5.2.2.2.1
  have emb_5_5 : M5 (mb + 5) = (fun j => if j < n then nI 0 else M4 (mb + 5) j) := hp5.2.2.2.2.1
  have fr5 : Fr (mb + 1) (mb + 6) M4 M5 := hp5.2.2.2.2.2
  refine lv_aload_n S.1 S.2.1 dX1_renew_30 rfl (lv_at hl 0 rfl) ?_
  refine m_getR mb 4 (mb + 6) S hw (by omega) hm.s0 rfl rfl in_X1 (by decide) wf_X1_31 dX1_renew_31 ?_
  refine m_VV (As := []) (rest := []) (mb + 6) S hw (by omega) hm.s6 rfl (c_X4_clear l G N K ad M5 mb hm) mf_X4_clear wm_X1_46 ⟨by decide, by decide⟩ ⟨Nat.le_refl _, Nat.le_refl _⟩ hl.1 rfl (Nat.le_of_ble_eq_true rfl) dX1_renew_34 (fun M6 H locs hp6 hw => ?_)
  have emb_7_6 : M6 (mb + 7) = (M5 (mb + 7)) := hp6.1
  have emb_8_6 : M6 (mb + 8) = (M5 (mb + 8)) := hp6.2.1
  have emb_9_6 : M6 (mb + 9) = (M5 (mb + 9)) := hp6.2.2.1
  have emb_10_6 : M6 (mb + 10) = (fun j => if j < 6 then nI 0 else M5 (mb + 10) j) := hp6.2.2.2.1
  have fr6 : Fr (mb + 6) (mb + 11) M5 M6 := hp6.2.2.2.2
  have hq7 : M1 mb = upd (M mb) 0 (nI 0) := by rw [eM1, va_up_self]
  have hq8 : M2 mb = upd (upd (M mb) 0 (nI 0)) 1 (nI 0) := by rw [eM2, va_up_self, hq7]
  have hq9 : M3 mb = upd (upd (upd (M mb) 0 (nI 0)) 1 (nI 0)) 2 (nI 1) := by rw [eM3, va_up_self, hq8]
  have hq10 : M4 mb = upd (upd (upd (M mb) 0 (nI 0)) 1 (nI 0)) 2 (nI 1) := by rw [eM4, va_up_ne _ _ (by omega), hq9]
  have hq11 : M5 mb = upd (upd (upd (M mb) 0 (nI 0)) 1 (nI 0)) 2 (nI 1) := (fr5 mb (by omega)).trans hq10
  have hq12 : M6 mb = upd (upd (upd (M mb) 0 (nI 0)) 1 (nI 0)) 2 (nI 1) := (fr6 mb (by omega)).trans hq11
  have hq13 : M1 (mb + 1) = M (mb + 1) := by rw [eM1, va_up_ne _ _ (by omega)]
  have hq14 : M2 (mb + 1) = M (mb + 1) := by rw [eM2, va_up_ne _ _ (by omega), hq13]
  have hq15 : M3 (mb + 1) = M (mb + 1) := by rw [eM3, va_up_ne _ _ (by omega), hq14]
  have hq16 : M4 (mb + 1) = M (mb + 1) := by rw [eM4, va_up_ne _ _ (by omega), hq15]
  have hq17 : M5 (mb + 1) = upd (M (mb + 1)) 0 (nI n) := by rw [emb_1_5, hq16]
  have hq18 : M6 (mb + 1) = upd (M (mb + 1)) 0 (nI n) := (fr6 (mb + 1) (by omega)).trans hq17
  have hq19 : M1 (mb + 2) = M (mb + 2) := by rw [eM1, va_up_ne _ _ (by omega)]
  have hq20 : M2 (mb + 2) = M (mb + 2) := by rw [eM2, va_up_ne _ _ (by omega), hq19]
  have hq21 : M3 (mb + 2) = M (mb + 2) := by rw [eM3, va_up_ne _ _ (by omega), hq20]
  have hq22 : M4 (mb + 2) = M (mb + 2) := by rw [eM4, va_up_ne _ _ (by omega), hq21]
  have hq23 : M5 (mb + 2) = fun j => if j < n then nI 0 else M (mb + 2) j := by rw [emb_2_5, hq22]
  have hq24 : M6 (mb + 2) = fun j => if j < n then nI 0 else M (mb + 2) j := (fr6 (mb + 2) (by omega)).trans hq23
  have hq25 : M1 (mb + 3) = M (mb + 3) := by rw [eM1, va_up_ne _ _ (by omega)]
  have hq26 : M2 (mb + 3) = M (mb + 3) := by rw [eM2, va_up_ne _ _ (by omega), hq25]
  have hq27 : M3 (mb + 3) = M (mb + 3) := by rw [eM3, va_up_ne _ _ (by omega), hq26]
  have hq28 : M4 (mb + 3) = M (mb + 3) := by rw [eM4, va_up_ne _ _ (by omega), hq27]
  have hq29 : M5 (mb + 3) = fun j => if j < n then nI 0 else M (mb + 3) j := by rw [emb_3_5, hq28]
  have hq30 : M6 (mb + 3) = fun j => if j < n then nI 0 else M (mb + 3) j := (fr6 (mb + 3) (by omega)).trans hq29
  have hq31 : M1 (mb + 4) = M (mb + 4) := by rw [eM1, va_up_ne _ _ (by omega)]
  have hq32 : M2 (mb + 4) = M (mb + 4) := by rw [eM2, va_up_ne _ _ (by omega), hq31]
  have hq33 : M3 (mb + 4) = M (mb + 4) := by rw [eM3, va_up_ne _ _ (by omega), hq32]
  have hq34 : M4 (mb + 4) = M (mb + 4) := by rw [eM4, va_up_ne _ _ (by omega), hq33]
  have hq35 : M5 (mb + 4) = fun j => if j < n then (-1) else M (mb + 4) j := by rw [emb_4_5, hq34]
  have hq36 : M6 (mb + 4) = fun j => if j < n then (-1) else M (mb + 4) j := (fr6 (mb + 4) (by omega)).trans hq35
  have hq37 : M1 (mb + 5) = M (mb + 5) := by rw [eM1, va_up_ne _ _ (by omega)]
  have hq38 : M2 (mb + 5) = M (mb + 5) := by rw [eM2, va_up_ne _ _ (by omega), hq37]
  have hq39 : M3 (mb + 5) = M (mb + 5) := by rw [eM3, va_up_ne _ _ (by omega), hq38]
  have hq40 : M4 (mb + 5) = M (mb + 5) := by rw [eM4, va_up_ne _ _ (by omega), hq39]
  have hq41 : M5 (mb + 5) = fun j => if j < n then nI 0 else M (mb + 5) j := by rw [emb_5_5, hq40]
  have hq42 : M6 (mb + 5) = fun j => if j < n then nI 0 else M (mb + 5) j := (fr6 (mb + 5) (by omega)).trans hq41
  have hq43 : M1 (mb + 7) = M (mb + 7) := by rw [eM1, va_up_ne _ _ (by omega)]
  have hq44 : M2 (mb + 7) = M (mb + 7) := by rw [eM2, va_up_ne _ _ (by omega), hq43]
  have hq45 : M3 (mb + 7) = M (mb + 7) := by rw [eM3, va_up_ne _ _ (by omega), hq44]
  have hq46 : M4 (mb + 7) = M (mb + 7) := by rw [eM4, va_up_ne _ _ (by omega), hq45]
  have hq47 : M5 (mb + 7) = M (mb + 7) := (fr5 (mb + 7) (by omega)).trans hq46
  have hq48 : M6 (mb + 7) = M (mb + 7) := emb_7_6.trans hq47
  have hq49 : M1 (mb + 8) = M (mb + 8) := by rw [eM1, va_up_ne _ _ (by omega)]
  have hq50 : M2 (mb + 8) = M (mb + 8) := by rw [eM2, va_up_ne _ _ (by omega), hq49]
  have hq51 : M3 (mb + 8) = M (mb + 8) := by rw [eM3, va_up_ne _ _ (by omega), hq50]
  have hq52 : M4 (mb + 8) = M (mb + 8) := by rw [eM4, va_up_ne _ _ (by omega), hq51]
  have hq53 : M5 (mb + 8) = M (mb + 8) := (fr5 (mb + 8) (by omega)).trans hq52
  have hq54 : M6 (mb + 8) = M (mb + 8) := emb_8_6.trans hq53
  have hq55 : M1 (mb + 9) = M (mb + 9) := by rw [eM1, va_up_ne _ _ (by omega)]
  have hq56 : M2 (mb + 9) = M (mb + 9) := by rw [eM2, va_up_ne _ _ (by omega), hq55]
  have hq57 : M3 (mb + 9) = M (mb + 9) := by rw [eM3, va_up_ne _ _ (by omega), hq56]
  have hq58 : M4 (mb + 9) = M (mb + 9) := by rw [eM4, va_up_ne _ _ (by omega), hq57]
  have hq59 : M5 (mb + 9) = M (mb + 9) := (fr5 (mb + 9) (by omega)).trans hq58
  have hq60 : M6 (mb + 9) = M (mb + 9) := emb_9_6.trans hq59
  have hq61 : M1 (mb + 10) = M (mb + 10) := by rw [eM1, va_up_ne _ _ (by omega)]
  have hq62 : M2 (mb + 10) = M (mb + 10) := by rw [eM2, va_up_ne _ _ (by omega), hq61]
  have hq63 : M3 (mb + 10) = M (mb + 10) := by rw [eM3, va_up_ne _ _ (by omega), hq62]
  have hq64 : M4 (mb + 10) = M (mb + 10) := by rw [eM4, va_up_ne _ _ (by omega), hq63]
  have hq65 : M5 (mb + 10) = M (mb + 10) := (fr5 (mb + 10) (by omega)).trans hq64
  have hq66 : M6 (mb + 10) = fun j => if j < 6 then nI 0 else M (mb + 10) j := by rw [emb_10_6, hq65]
  have hq67 : M1 (mb + 11) = M (mb + 11) := by rw [eM1, va_up_ne _ _ (by omega)]
  have hq68 : M2 (mb + 11) = M (mb + 11) := by rw [eM2, va_up_ne _ _ (by omega), hq67]
  have hq69 : M3 (mb + 11) = M (mb + 11) := by rw [eM3, va_up_ne _ _ (by omega), hq68]
  have hq70 : M4 (mb + 11) = upd (M (mb + 11)) 0 (nI 0) := by rw [eM4, va_up_self, hq69]
  have hq71 : M5 (mb + 11) = upd (M (mb + 11)) 0 (nI 0) := (fr5 (mb + 11) (by omega)).trans hq70
  have hq72 : M6 (mb + 11) = upd (M (mb + 11)) 0 (nI 0) := (fr6 (mb + 11) (by omega)).trans hq71
  have hq73 : M1 (mb + 12) = M (mb + 12) := by rw [eM1, va_up_ne _ _ (by omega)]
  have hq74 : M2 (mb + 12) = M (mb + 12) := by rw [eM2, va_up_ne _ _ (by omega), hq73]
  have hq75 : M3 (mb + 12) = M (mb + 12) := by rw [eM3, va_up_ne _ _ (by omega), hq74]
  have hq76 : M4 (mb + 12) = M (mb + 12) := by rw [eM4, va_up_ne _ _ (by omega), hq75]
  have hq77 : M5 (mb + 12) = M (mb + 12) := (fr5 (mb + 12) (by omega)).trans hq76
  have hq78 : M6 (mb + 12) = M (mb + 12) := (fr6 (mb + 12) (by omega)).trans hq77
  exact m_retv S hr hlocks hw dX1_renew_37 ⟨(Eq.trans (congrFun hq12 0) ((pk_un (by decide)).trans ((pk_un (by decide)).trans pk_us))), (Eq.trans (congrFun hq12 1) ((pk_un (by decide)).trans pk_us)), (Eq.trans (congrFun hq12 2) pk_us), hq18, hq24, hq30, hq36, hq42, hq48, hq54, hq60, hq66, hq72, hq78, (Fr.tr (Fr.tr (by rw [eM4]; exact Fr.up (by rw [eM3]; exact Fr.up (by rw [eM2]; exact Fr.up (by rw [eM1]; exact Fr.up Fr.rf (by omega) (by omega)) (by omega) (by omega)) (by omega) (by omega)) (by omega) (by omega)) fr5 (by omega) (by omega)) fr6 (by omega) (by omega))⟩

set_option maxHeartbeats 4000000 in
set_option maxRecDepth 100000 in
/-- Moment.copyFrom -/
theorem c_X1_copyFrom (l : Launch) (G : GT) (N K : Nat) (ad : Nat → Nat) (M : Mem) (mb : Nat) (hm : IsM N K mb) (mo : Nat) (ho : IsM N K mo) (hne : mo + 12 < mb ∨ mb + 12 < mo) (n : Nat) (hn : M (mo + 1) 0 = nI n) (hn1 : n ≤ 120) (bn : Nat) (hbn : M mo 2 = nI bn) (hbn1 : bn ≤ 200) : CmV l G N K ad yX1_copyFrom cX1_copyFrom 2 2 47 [.ref (ad mb), .ref (ad mo)] M (fun M1 => M1 mb 0 = M mo 0 ∧ M1 mb 1 = M mo 1 ∧ M1 mb 2 = nI bn ∧ M1 (mb + 1) = (upd (M (mb + 1)) 0 (nI n)) ∧ M1 (mb + 2) = (va_cpy (M (mo + 2)) (M (mb + 2)) 0 0 n) ∧ M1 (mb + 3) = (va_cpy (M (mo + 3)) (M (mb + 3)) 0 0 n) ∧ M1 (mb + 4) = (va_cpy (M (mo + 4)) (M (mb + 4)) 0 0 n) ∧ M1 (mb + 5) = (va_cpy (M (mo + 5)) (M (mb + 5)) 0 0 n) ∧ M1 (mb + 7) = (va_cpy (M (mo + 7)) (M (mb + 7)) 0 0 48) ∧ M1 (mb + 8) = (va_cpy (M (mo + 8)) (M (mb + 8)) 0 0 48) ∧ M1 (mb + 9) = (va_cpy (M (mo + 9)) (M (mb + 9)) 0 0 48) ∧ M1 (mb + 10) = (va_cpy (M (mo + 10)) (M (mb + 10)) 0 0 6) ∧ M1 (mb + 11) = (va_cpy (M (mo + 11)) (M (mb + 11)) 0 0 bn) ∧ M1 (mb + 12) = (va_cpy (M (mo + 12)) (M (mb + 12)) 0 0 20) ∧ Fr mb (mb + 13) M M1) := by
  refine cm_startV (by decide +kernel) (Nat.le_of_ble_eq_true rfl) ?_
  intro p e s m below meth c ls S hr hlocks hw hl
  have hl : lv_has ls 2 [(0, .ref (ad mb)), (1, .ref (ad mo))] := hl
  have hlt_mb := hm.lt
  have hlt_mo := ho.lt
  refine lv_aload_n S.1 S.2.1 dX1_copyFrom_0 rfl (lv_at hl 0 rfl) ?_
  refine lv_aload_n S.1 S.2.1 dX1_copyFrom_1 rfl (lv_at hl 1 rfl) ?_
  refine m_getI mo 0 S hw (by omega) ho.s0 rfl rfl in_X1 (by decide) wf_X1_9 dX1_copyFrom_2 ?_
  refine n_putI mb 0 S hw (by omega) hm.s0 rfl rfl in_X1 tyX1_ok nmX1 (by decide) rfl rfl wf_X1_9 dX1_copyFrom_5 (fun M1 H locs eM1 hw => ?_)
  refine lv_aload_n S.1 S.2.1 dX1_copyFrom_8 rfl (lv_at hl 0 rfl) ?_
  refine lv_aload_n S.1 S.2.1 dX1_copyFrom_9 rfl (lv_at hl 1 rfl) ?_
  refine m_getI mo 1 S hw (by omega) ho.s0 rfl rfl in_X1 (by decide) wf_X1_15 dX1_copyFrom_10 ?_
  have hq2 : M1 mo = M mo := by rw [eM1, va_up_ne _ _ (by omega)]
  refine m_top (show M1 mo 1 = M mo 1 from congrFun hq2 1) ?_
  refine n_putI mb 1 S hw (by omega) hm.s0 rfl rfl in_X1 tyX1_ok nmX1 (by decide) rfl rfl wf_X1_15 dX1_copyFrom_13 (fun M3 H locs eM3 hw => ?_)
  refine lv_aload_n S.1 S.2.1 dX1_copyFrom_16 rfl (lv_at hl 0 rfl) ?_
  refine lv_aload_n S.1 S.2.1 dX1_copyFrom_17 rfl (lv_at hl 1 rfl) ?_
  refine m_getI mo 2 S hw (by omega) ho.s0 rfl rfl in_X1 (by decide) wf_X1_18 dX1_copyFrom_18 ?_
  have hq4 : M3 mo = M mo := by rw [eM3, va_up_ne _ _ (by omega), hq2]
  refine m_top (show M3 mo 2 = M mo 2 from congrFun hq4 2) ?_
  refine m_top (show M mo 2 = nI bn from hbn) ?_
  refine n_putI mb 2 S hw (by omega) hm.s0 rfl rfl in_X1 tyX1_ok nmX1 (by decide) rfl rfl wf_X1_18 dX1_copyFrom_21 (fun M5 H locs eM5 hw => ?_)
  refine lv_aload_n S.1 S.2.1 dX1_copyFrom_24 rfl (lv_at hl 0 rfl) ?_
  refine m_getR mb 3 (mb + 1) S hw (by omega) hm.s0 rfl rfl in_X1 (by decide) wf_X1_24 dX1_copyFrom_25 ?_
  refine lv_aload_n S.1 S.2.1 dX1_copyFrom_28 rfl (lv_at hl 1 rfl) ?_
  refine m_getR mo 3 (mo + 1) S hw (by omega) ho.s0 rfl rfl in_X1 (by decide) wf_X1_24 dX1_copyFrom_29 ?_
  have hq6 : M1 (mo + 1) = M (mo + 1) := by rw [eM1, va_up_ne _ _ (by omega)]
  have hq7 : M3 (mo + 1) = M (mo + 1) := by rw [eM3, va_up_ne _ _ (by omega), hq6]
  have hq8 : M5 (mo + 1) = M (mo + 1) := by rw [eM5, va_up_ne _ _ (by omega), hq7]
  refine m_VV (As := [.ref (ad (mo + 1))]) (rest := []) (mb + 1) S hw (by omega) hm.s1 rfl (c_X2_copyFrom l G N K ad M5 mb hm mo ho (by omega) n (by rw [hq8]; exact hn) hn1) mf_X2_copyFrom wm_X1_49 ⟨by decide, by decide⟩ ⟨Nat.le_refl _, Nat.le_refl _⟩ hl.1 rfl (Nat.le_of_ble_eq_true rfl) dX1_copyFrom_32 (fun M9 H locs hp9 hw => ?_)
  have emb_1_9 : M9 (mb + 1) = (upd (M5 (mb + 1)) 0 (nI n)) := hp9.1
  have emb_2_9 : M9 (mb + 2) = (va_cpy (M5 (mo + 2)) (M5 (mb + 2)) 0 0 n) := hp9.2.1
  have emb_3_9 : M9 (mb + 3) = (va_cpy (M5 (mo + 3)) (M5 (mb + 3)) 0 0 n) := hp9.2.2.1
  have emb_4_9 : M9 (mb + 4) = (va_cpy (M5 (mo + 4)) (M5 (mb + 4)) 0 0 n) := hp9.2.2.2.1
  have emb_5_9 : M9 (mb + 5) = (va_cpy (M5 (mo + 5)) (M5 (mb + 5)) 0 0 n) := hp9.2.2.2.2.1
  have fr9 : Fr (mb + 1) (mb + 6) M5 M9 := hp9.2.2.2.2.2
  refine lv_aload_n S.1 S.2.1 dX1_copyFrom_35 rfl (lv_at hl 0 rfl) ?_
  refine m_getR mb 4 (mb + 6) S hw (by omega) hm.s0 rfl rfl in_X1 (by decide) wf_X1_31 dX1_copyFrom_36 ?_
  refine lv_aload_n S.1 S.2.1 dX1_copyFrom_39 rfl (lv_at hl 1 rfl) ?_
  refine m_getR mo 4 (mo + 6) S hw (by omega) ho.s0 rfl rfl in_X1 (by decide) wf_X1_31 dX1_copyFrom_40 ?_
  refine m_VV (As := [.ref (ad (mo + 6))]) (rest := []) (mb + 6) S hw (by omega) hm.s6 rfl (c_X4_copyFrom l G N K ad M9 mb hm mo ho (by omega)) mf_X4_copyFrom wm_X1_53 ⟨by decide, by decide⟩ ⟨Nat.le_refl _, Nat.le_refl _⟩ hl.1 rfl (Nat.le_of_ble_eq_true rfl) dX1_copyFrom_43 (fun M10 H locs hp10 hw => ?_)
  have emb_7_10 : M10 (mb + 7) = (va_cpy (M9 (mo + 7)) (M9 (mb + 7)) 0 0 48) := hp10.1
  have emb_8_10 : M10 (mb + 8) = (va_cpy (M9 (mo + 8)) (M9 (mb + 8)) 0 0 48) := hp10.2.1
  have emb_9_10 : M10 (mb + 9) = (va_cpy (M9 (mo + 9)) (M9 (mb + 9)) 0 0 48) := hp10.2.2.1
  have emb_10_10 : M10 (mb + 10) = (va_cpy (M9 (mo + 10)) (M9 (mb + 10)) 0 0 6) := hp10.2.2.2.1
  have fr10 : Fr (mb + 6) (mb + 11) M9 M10 := hp10.2.2.2.2
  refine lv_aload_n S.1 S.2.1 dX1_copyFrom_46 rfl (lv_at hl 1 rfl) ?_
  refine m_getR mo 5 (mo + 11) S hw (by omega) ho.s0 rfl rfl in_X1 (by decide) wf_X1_35 dX1_copyFrom_47 ?_
  refine lv_iconst (v := nI 0) S.1 S.2.1 dX1_copyFrom_50 (by decide) ?_
  refine lv_aload_n S.1 S.2.1 dX1_copyFrom_51 rfl (lv_at hl 0 rfl) ?_
  refine m_getR mb 5 (mb + 11) S hw (by omega) hm.s0 rfl rfl in_X1 (by decide) wf_X1_35 dX1_copyFrom_52 ?_
  refine lv_iconst (v := nI 0) S.1 S.2.1 dX1_copyFrom_55 (by decide) ?_
  refine lv_aload_n S.1 S.2.1 dX1_copyFrom_56 rfl (lv_at hl 0 rfl) ?_
  refine m_getI mb 2 S hw (by omega) hm.s0 rfl rfl in_X1 (by decide) wf_X1_18 dX1_copyFrom_57 ?_
  have hq11 : M1 mb = upd (M mb) 0 (M mo 0) := by rw [eM1, va_up_self]
  have hq12 : M3 mb = upd (upd (M mb) 0 (M mo 0)) 1 (M mo 1) := by rw [eM3, va_up_self, hq11]
  have hq13 : M5 mb = upd (upd (upd (M mb) 0 (M mo 0)) 1 (M mo 1)) 2 (nI bn) := by rw [eM5, va_up_self, hq12]
  have hq14 : M9 mb = upd (upd (upd (M mb) 0 (M mo 0)) 1 (M mo 1)) 2 (nI bn) := (fr9 mb (by omega)).trans hq13
  have hq15 : M10 mb = upd (upd (upd (M mb) 0 (M mo 0)) 1 (M mo 1)) 2 (nI bn) := (fr10 mb (by omega)).trans hq14
  refine m_top (show M10 mb 2 = (upd (upd (upd (M mb) 0 (M mo 0)) 1 (M mo 1)) 2 (nI bn)) 2 from congrFun hq15 2) ?_
  refine m_top (show (upd (upd (upd (M mb) 0 (M mo 0)) 1 (M mo 1)) 2 (nI bn)) 2 = nI bn from pk_us) ?_
  refine n_cpy (mo + 11) (mb + 11) 0 0 bn S hl.1 wm_X1_56 hw (by omega) (by omega) ho.s11 hm.s11 (by decide) (by decide) rfl rfl rfl (by omega) (by omega) (Nat.le_of_ble_eq_true rfl) (Nat.le_of_ble_eq_true rfl) dX1_copyFrom_60 (fun M16 H locs eM16 hw => ?_)
  refine lv_aload_n S.1 S.2.1 dX1_copyFrom_63 rfl (lv_at hl 1 rfl) ?_
  refine m_getR mo 6 (mo + 12) S hw (by omega) ho.s0 rfl rfl in_X1 (by decide) wf_X1_39 dX1_copyFrom_64 ?_
  refine lv_iconst (v := nI 0) S.1 S.2.1 dX1_copyFrom_67 (by decide) ?_
  refine lv_aload_n S.1 S.2.1 dX1_copyFrom_68 rfl (lv_at hl 0 rfl) ?_
  refine m_getR mb 6 (mb + 12) S hw (by omega) hm.s0 rfl rfl in_X1 (by decide) wf_X1_39 dX1_copyFrom_69 ?_
  refine lv_iconst (v := nI 0) S.1 S.2.1 dX1_copyFrom_72 (by decide) ?_
  refine lv_bipush (v := nI 20) S.1 S.2.1 dX1_copyFrom_73 (by decide) ?_
  refine n_cpy (mo + 12) (mb + 12) 0 0 20 S hl.1 wm_X1_56 hw (by omega) (by omega) ho.s12 hm.s12 (by decide) (by decide) rfl rfl rfl (by omega) (by omega) (Nat.le_of_ble_eq_true rfl) (Nat.le_of_ble_eq_true rfl) dX1_copyFrom_75 (fun M17 H locs eM17 hw => ?_)
  have hq18 : M16 mb = upd (upd (upd (M mb) 0 (M mo 0)) 1 (M mo 1)) 2 (nI bn) := by rw [eM16, va_up_ne _ _ (by omega), hq15]
  have hq19 : M17 mb = upd (upd (upd (M mb) 0 (M mo 0)) 1 (M mo 1)) 2 (nI bn) := by rw [eM17, va_up_ne _ _ (by omega), hq18]
  have hq20 : M1 (mb + 1) = M (mb + 1) := by rw [eM1, va_up_ne _ _ (by omega)]
  have hq21 : M3 (mb + 1) = M (mb + 1) := by rw [eM3, va_up_ne _ _ (by omega), hq20]
  have hq22 : M5 (mb + 1) = M (mb + 1) := by rw [eM5, va_up_ne _ _ (by omega), hq21]
  have hq23 : M9 (mb + 1) = upd (M (mb + 1)) 0 (nI n) := by rw [emb_1_9, hq22]
  have hq24 : M10 (mb + 1) = upd (M (mb + 1)) 0 (nI n) := (fr10 (mb + 1) (by omega)).trans hq23
  have hq25 : M16 (mb + 1) = upd (M (mb + 1)) 0 (nI n) := by rw [eM16, va_up_ne _ _ (by omega), hq24]
  have hq26 : M17 (mb + 1) = upd (M (mb + 1)) 0 (nI n) := by rw [eM17, va_up_ne _ _ (by omega), hq25]
  have hq27 : M1 (mo + 2) = M (mo + 2) := by rw [eM1, va_up_ne _ _ (by omega)]
  have hq28 : M3 (mo + 2) = M (mo + 2) := by rw [eM3, va_up_ne _ _ (by omega), hq27]
  have hq29 : M5 (mo + 2) = M (mo + 2) := by rw [eM5, va_up_ne _ _ (by omega), hq28]
  have hq30 : M1 (mb + 2) = M (mb + 2) := by rw [eM1, va_up_ne _ _ (by omega)]
  have hq31 : M3 (mb + 2) = M (mb + 2) := by rw [eM3, va_up_ne _ _ (by omega), hq30]
  have hq32 : M5 (mb + 2) = M (mb + 2) := by rw [eM5, va_up_ne _ _ (by omega), hq31]
  have hq33 : M9 (mb + 2) = va_cpy (M (mo + 2)) (M (mb + 2)) 0 0 n := by rw [emb_2_9, hq29, hq32]
  have hq34 : M10 (mb + 2) = va_cpy (M (mo + 2)) (M (mb + 2)) 0 0 n := (fr10 (mb + 2) (by omega)).trans hq33
  have hq35 : M16 (mb + 2) = va_cpy (M (mo + 2)) (M (mb + 2)) 0 0 n := by rw [eM16, va_up_ne _ _ (by omega), hq34]
  have hq36 : M17 (mb + 2) = va_cpy (M (mo + 2)) (M (mb + 2)) 0 0 n := by rw [eM17, va_up_ne _ _ (by omega), hq35]
  have hq37 : M1 (mo + 3) = M (mo + 3) := by rw [eM1, va_up_ne _ _ (by omega)]
  have hq38 : M3 (mo + 3) = M (mo + 3) := by rw [eM3, va_up_ne _ _ (by omega), hq37]
  have hq39 : M5 (mo + 3) = M (mo + 3) := by rw [eM5, va_up_ne _ _ (by omega), hq38]
  have hq40 : M1 (mb + 3) = M (mb + 3) := by rw [eM1, va_up_ne _ _ (by omega)]
  have hq41 : M3 (mb + 3) = M (mb + 3) := by rw [eM3, va_up_ne _ _ (by omega), hq40]
  have hq42 : M5 (mb + 3) = M (mb + 3) := by rw [eM5, va_up_ne _ _ (by omega), hq41]
  have hq43 : M9 (mb + 3) = va_cpy (M (mo + 3)) (M (mb + 3)) 0 0 n := by rw [emb_3_9, hq39, hq42]
  have hq44 : M10 (mb + 3) = va_cpy (M (mo + 3)) (M (mb + 3)) 0 0 n := (fr10 (mb + 3) (by omega)).trans hq43
  have hq45 : M16 (mb + 3) = va_cpy (M (mo + 3)) (M (mb + 3)) 0 0 n := by rw [eM16, va_up_ne _ _ (by omega), hq44]
  have hq46 : M17 (mb + 3) = va_cpy (M (mo + 3)) (M (mb + 3)) 0 0 n := by rw [eM17, va_up_ne _ _ (by omega), hq45]
  have hq47 : M1 (mo + 4) = M (mo + 4) := by rw [eM1, va_up_ne _ _ (by omega)]
  have hq48 : M3 (mo + 4) = M (mo + 4) := by rw [eM3, va_up_ne _ _ (by omega), hq47]
  have hq49 : M5 (mo + 4) = M (mo + 4) := by rw [eM5, va_up_ne _ _ (by omega), hq48]
  have hq50 : M1 (mb + 4) = M (mb + 4) := by rw [eM1, va_up_ne _ _ (by omega)]
  have hq51 : M3 (mb + 4) = M (mb + 4) := by rw [eM3, va_up_ne _ _ (by omega), hq50]
  have hq52 : M5 (mb + 4) = M (mb + 4) := by rw [eM5, va_up_ne _ _ (by omega), hq51]
  have hq53 : M9 (mb + 4) = va_cpy (M (mo + 4)) (M (mb + 4)) 0 0 n := by rw [emb_4_9, hq49, hq52]
  have hq54 : M10 (mb + 4) = va_cpy (M (mo + 4)) (M (mb + 4)) 0 0 n := (fr10 (mb + 4) (by omega)).trans hq53
  have hq55 : M16 (mb + 4) = va_cpy (M (mo + 4)) (M (mb + 4)) 0 0 n := by rw [eM16, va_up_ne _ _ (by omega), hq54]
  have hq56 : M17 (mb + 4) = va_cpy (M (mo + 4)) (M (mb + 4)) 0 0 n := by rw [eM17, va_up_ne _ _ (by omega), hq55]
  have hq57 : M1 (mo + 5) = M (mo + 5) := by rw [eM1, va_up_ne _ _ (by omega)]
  have hq58 : M3 (mo + 5) = M (mo + 5) := by rw [eM3, va_up_ne _ _ (by omega), hq57]
  have hq59 : M5 (mo + 5) = M (mo + 5) := by rw [eM5, va_up_ne _ _ (by omega), hq58]
  have hq60 : M1 (mb + 5) = M (mb + 5) := by rw [eM1, va_up_ne _ _ (by omega)]
  have hq61 : M3 (mb + 5) = M (mb + 5) := by rw [eM3, va_up_ne _ _ (by omega), hq60]
  have hq62 : M5 (mb + 5) = M (mb + 5) := by rw [eM5, va_up_ne _ _ (by omega), hq61]
  have hq63 : M9 (mb + 5) = va_cpy (M (mo + 5)) (M (mb + 5)) 0 0 n := by rw [emb_5_9, hq59, hq62]
  have hq64 : M10 (mb + 5) = va_cpy (M (mo + 5)) (M (mb + 5)) 0 0 n := (fr10 (mb + 5) (by omega)).trans hq63
  have hq65 : M16 (mb + 5) = va_cpy (M (mo + 5)) (M (mb + 5)) 0 0 n := by rw [eM16, va_up_ne _ _ (by omega), hq64]
  have hq66 : M17 (mb + 5) = va_cpy (M (mo + 5)) (M (mb + 5)) 0 0 n := by rw [eM17, va_up_ne _ _ (by omega), hq65]
  have hq67 : M1 (mo + 7) = M (mo + 7) := by rw [eM1, va_up_ne _ _ (by omega)]
  have hq68 : M3 (mo + 7) = M (mo + 7) := by rw [eM3, va_up_ne _ _ (by omega), hq67]
  have hq69 : M5 (mo + 7) = M (mo + 7) := by rw [eM5, va_up_ne _ _ (by omega), hq68]
  have hq70 : M9 (mo + 7) = M (mo + 7) := (fr9 (mo + 7) (by omega)).trans hq69
  have hq71 : M1 (mb + 7) = M (mb + 7) := by rw [eM1, va_up_ne _ _ (by omega)]
  have hq72 : M3 (mb + 7) = M (mb + 7) := by rw [eM3, va_up_ne _ _ (by omega), hq71]
  have hq73 : M5 (mb + 7) = M (mb + 7) := by rw [eM5, va_up_ne _ _ (by omega), hq72]
  have hq74 : M9 (mb + 7) = M (mb + 7) := (fr9 (mb + 7) (by omega)).trans hq73
  have hq75 : M10 (mb + 7) = va_cpy (M (mo + 7)) (M (mb + 7)) 0 0 48 := by rw [emb_7_10, hq70, hq74]
  have hq76 : M16 (mb + 7) = va_cpy (M (mo + 7)) (M (mb + 7)) 0 0 48 := by rw [eM16, va_up_ne _ _ (by omega), hq75]
  have hq77 : M17 (mb + 7) = va_cpy (M (mo + 7)) (M (mb + 7)) 0 0 48 := by rw [eM17, va_up_ne _ _ (by omega), hq76]
  have hq78 : M1 (mo + 8) = M (mo + 8) := by rw [eM1, va_up_ne _ _ (by omega)]
  have hq79 : M3 (mo + 8) = M (mo + 8) := by rw [eM3, va_up_ne _ _ (by omega), hq78]
  have hq80 : M5 (mo + 8) = M (mo + 8) := by rw [eM5, va_up_ne _ _ (by omega), hq79]
  have hq81 : M9 (mo + 8) = M (mo + 8) := (fr9 (mo + 8) (by omega)).trans hq80
  have hq82 : M1 (mb + 8) = M (mb + 8) := by rw [eM1, va_up_ne _ _ (by omega)]
  have hq83 : M3 (mb + 8) = M (mb + 8) := by rw [eM3, va_up_ne _ _ (by omega), hq82]
  have hq84 : M5 (mb + 8) = M (mb + 8) := by rw [eM5, va_up_ne _ _ (by omega), hq83]
  have hq85 : M9 (mb + 8) = M (mb + 8) := (fr9 (mb + 8) (by omega)).trans hq84
  have hq86 : M10 (mb + 8) = va_cpy (M (mo + 8)) (M (mb + 8)) 0 0 48 := by rw [emb_8_10, hq81, hq85]
  have hq87 : M16 (mb + 8) = va_cpy (M (mo + 8)) (M (mb + 8)) 0 0 48 := by rw [eM16, va_up_ne _ _ (by omega), hq86]
  have hq88 : M17 (mb + 8) = va_cpy (M (mo + 8)) (M (mb + 8)) 0 0 48 := by rw [eM17, va_up_ne _ _ (by omega), hq87]
  have hq89 : M1 (mo + 9) = M (mo + 9) := by rw [eM1, va_up_ne _ _ (by omega)]
  have hq90 : M3 (mo + 9) = M (mo + 9) := by rw [eM3, va_up_ne _ _ (by omega), hq89]
  have hq91 : M5 (mo + 9) = M (mo + 9) := by rw [eM5, va_up_ne _ _ (by omega), hq90]
  have hq92 : M9 (mo + 9) = M (mo + 9) := (fr9 (mo + 9) (by omega)).trans hq91
  have hq93 : M1 (mb + 9) = M (mb + 9) := by rw [eM1, va_up_ne _ _ (by omega)]
  have hq94 : M3 (mb + 9) = M (mb + 9) := by rw [eM3, va_up_ne _ _ (by omega), hq93]
  have hq95 : M5 (mb + 9) = M (mb + 9) := by rw [eM5, va_up_ne _ _ (by omega), hq94]
  have hq96 : M9 (mb + 9) = M (mb + 9) := (fr9 (mb + 9) (by omega)).trans hq95
  have hq97 : M10 (mb + 9) = va_cpy (M (mo + 9)) (M (mb + 9)) 0 0 48 := by rw [emb_9_10, hq92, hq96]
  have hq98 : M16 (mb + 9) = va_cpy (M (mo + 9)) (M (mb + 9)) 0 0 48 := by rw [eM16, va_up_ne _ _ (by omega), hq97]
  have hq99 : M17 (mb + 9) = va_cpy (M (mo + 9)) (M (mb + 9)) 0 0 48 := by rw [eM17, va_up_ne _ _ (by omega), hq98]
  have hq100 : M1 (mo + 10) = M (mo + 10) := by rw [eM1, va_up_ne _ _ (by omega)]
  have hq101 : M3 (mo + 10) = M (mo + 10) := by rw [eM3, va_up_ne _ _ (by omega), hq100]
  have hq102 : M5 (mo + 10) = M (mo + 10) := by rw [eM5, va_up_ne _ _ (by omega), hq101]
  have hq103 : M9 (mo + 10) = M (mo + 10) := (fr9 (mo + 10) (by omega)).trans hq102
  have hq104 : M1 (mb + 10) = M (mb + 10) := by rw [eM1, va_up_ne _ _ (by omega)]
  have hq105 : M3 (mb + 10) = M (mb + 10) := by rw [eM3, va_up_ne _ _ (by omega), hq104]
  have hq106 : M5 (mb + 10) = M (mb + 10) := by rw [eM5, va_up_ne _ _ (by omega), hq105]
  have hq107 : M9 (mb + 10) = M (mb + 10) := (fr9 (mb + 10) (by omega)).trans hq106
  have hq108 : M10 (mb + 10) = va_cpy (M (mo + 10)) (M (mb + 10)) 0 0 6 := by rw [emb_10_10, hq103, hq107]
  have hq109 : M16 (mb + 10) = va_cpy (M (mo + 10)) (M (mb + 10)) 0 0 6 := by rw [eM16, va_up_ne _ _ (by omega), hq108]
  have hq110 : M17 (mb + 10) = va_cpy (M (mo + 10)) (M (mb + 10)) 0 0 6 := by rw [eM17, va_up_ne _ _ (by omega), hq109]
  have hq111 : M1 (mb + 11) = M (mb + 11) := by rw [eM1, va_up_ne _ _ (by omega)]
  have hq112 : M3 (mb + 11) = M (mb + 11) := by rw [eM3, va_up_ne _ _ (by omega), hq111]
  have hq113 : M5 (mb + 11) = M (mb + 11) := by rw [eM5, va_up_ne _ _ (by omega), hq112]
  have hq114 : M9 (mb + 11) = M (mb + 11) := (fr9 (mb + 11) (by omega)).trans hq113
  have hq115 : M10 (mb + 11) = M (mb + 11) := (fr10 (mb + 11) (by omega)).trans hq114
  have hq116 : M1 (mo + 11) = M (mo + 11) := by rw [eM1, va_up_ne _ _ (by omega)]
  have hq117 : M3 (mo + 11) = M (mo + 11) := by rw [eM3, va_up_ne _ _ (by omega), hq116]
  have hq118 : M5 (mo + 11) = M (mo + 11) := by rw [eM5, va_up_ne _ _ (by omega), hq117]
  have hq119 : M9 (mo + 11) = M (mo + 11) := (fr9 (mo + 11) (by omega)).trans hq118
  have hq120 : M10 (mo + 11) = M (mo + 11) := (fr10 (mo + 11) (by omega)).trans hq119
  have hq121 : M16 (mb + 11) = va_cpy (M (mo + 11)) (M (mb + 11)) 0 0 bn := by rw [eM16, va_up_self, hq120, hq115]
  have hq122 : M17 (mb + 11) = va_cpy (M (mo + 11)) (M (mb + 11)) 0 0 bn := by rw [eM17, va_up_ne _ _ (by omega), hq121]
  have hq123 : M1 (mb + 12) = M (mb + 12) := by rw [eM1, va_up_ne _ _ (by omega)]
  have hq124 : M3 (mb + 12) = M (mb + 12) := by rw [eM3, va_up_ne _ _ (by omega), hq123]
  have hq125 : M5 (mb + 12) = M (mb + 12) := by rw [eM5, va_up_ne _ _ (by omega), hq124]
  have hq126 : M9 (mb + 12) = M (mb + 12) := (fr9 (mb + 12) (by omega)).trans hq125
  have hq127 : M10 (mb + 12) = M (mb + 12) := (fr10 (mb + 12) (by omega)).trans hq126
  have hq128 : M16 (mb + 12) = M (mb + 12) := by rw [eM16, va_up_ne _ _ (by omega), hq127]
  have hq129 : M1 (mo + 12) = M (mo + 12) := by rw [eM1, va_up_ne _ _ (by omega)]
  have hq130 : M3 (mo + 12) = M (mo + 12) := by rw [eM3, va_up_ne _ _ (by omega), hq129]
  have hq131 : M5 (mo + 12) = M (mo + 12) := by rw [eM5, va_up_ne _ _ (by omega), hq130]
  have hq132 : M9 (mo + 12) = M (mo + 12) := (fr9 (mo + 12) (by omega)).trans hq131
  have hq133 : M10 (mo + 12) = M (mo + 12) := (fr10 (mo + 12) (by omega)).trans hq132
  have hq134 : M16 (mo + 12) = M (mo + 12) := by rw [eM16, va_up_ne _ _ (by omega), hq133]
  have hq135 : M17 (mb + 12) = va_cpy (M (mo + 12)) (M (mb + 12)) 0 0 20 := by rw [eM17, va_up_self, hq134, hq128]
  exact m_retv S hr hlocks hw dX1_copyFrom_78 ⟨(Eq.trans (congrFun hq19 0) ((pk_un (by decide)).trans ((pk_un (by decide)).trans pk_us))), (Eq.trans (congrFun hq19 1) ((pk_un (by decide)).trans pk_us)), (Eq.trans (congrFun hq19 2) pk_us), hq26, hq36, hq46, hq56, hq66, hq77, hq88, hq99, hq110, hq122, hq135, (by rw [eM17]; exact Fr.up (by rw [eM16]; exact Fr.up (Fr.tr (Fr.tr (by rw [eM5]; exact Fr.up (by rw [eM3]; exact Fr.up (by rw [eM1]; exact Fr.up Fr.rf (by omega) (by omega)) (by omega) (by omega)) (by omega) (by omega)) fr9 (by omega) (by omega)) fr10 (by omega) (by omega)) (by omega) (by omega)) (by omega) (by omega))⟩
