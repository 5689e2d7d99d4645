set_option maxHeartbeats 4000000 in
set_option maxRecDepth 100000 in
/-- reference: grace -/
theorem c_X8_grace (l : Launch) (G : GT) (N K : Nat) (ad : Nat → Nat) (M : Mem) (h61 : 61 ≤ N) (x y : Int32) : CmI l G N K ad yX8_grace cX8_grace 4 .int 2 42 [.ref (ad 34), .int x, .int y] M (fun r M1 => Dec1 (inB x 8) (r = -1 ∧ M1 = M) (Dec1 (inB y 101) (r = -2 ∧ M1 = M) (r = M 53 (tn x) ∧ M1 34 = (upd (M 34) 33 (nI 0)) ∧ M1 53 = (upd (M 53) (tn x) y) ∧ (∀ k, k ≠ 34 ∧ k ≠ 53 → M1 k = M k)))) := by
  refine cm_startI (by decide +kernel) (Nat.le_of_ble_eq_true rfl) ?_
  intro p e s m below meth c ls S hr hlocks hw hl
  have hl : lv_has ls 4 [(0, .ref (ad 34)), (1, .int x), (2, .int y)] := hl
  refine lv_iload_n S.1 S.2.1 dX8_grace_0 rfl (lv_at hl 1 rfl) ?_
  refine r_SI (As := [.int x]) (rest := []) S hw (c_X8_isKind l G N K ad M x) mf_X8_isKind wm_X8_127 ⟨by decide, by decide⟩ ⟨Nat.le_refl _, Nat.le_refl _⟩ hl.1 rfl (Nat.le_of_ble_eq_true rfl) dX8_grace_1 (fun H locs hw => ?_)
  refine b_ne (tgt := 9) S dX8_grace_4 (by decide) (fun c1 => ?_) (fun c1 => ?_)
  · obtain ⟨a, ha, ea⟩ := inB_of c1 (by omega)
    have ta : tn x = a := tn_of ea (by omega)
    refine lv_iload_n S.1 S.2.1 dX8_grace_9 rfl (lv_at hl 2 rfl) ?_
    refine lv_iconst (v := nI 0) S.1 S.2.1 dX8_grace_10 (by decide) ?_
    refine lv_bipush (v := nI 100) S.1 S.2.1 dX8_grace_11 (by decide) ?_
    refine r_SI (As := [.int y, .int (nI 0), .int (nI 100)]) (rest := []) S hw (c_X8_in l G N K ad M y (nI 0) (nI 100)) mf_X8_in wm_X8_104 ⟨by decide, by decide⟩ ⟨Nat.le_refl _, Nat.le_refl _⟩ hl.1 rfl (Nat.le_of_ble_eq_true rfl) dX8_grace_13 (fun H locs hw => ?_)
    refine b_ne (tgt := 22) S dX8_grace_16 (by decide) (fun c2 => ?_) (fun c2 => ?_)
    · refine lv_aload_n S.1 S.2.1 dX8_grace_22 rfl (lv_at hl 0 rfl) ?_
      refine m_getR 34 22 53 S hw (by omega) rfl rfl rfl in_X8 (by decide) wf_X8_75 dX8_grace_23 ?_
      refine lv_iload_n S.1 S.2.1 dX8_grace_26 rfl (lv_at hl 1 rfl) ?_
      refine m_top (show x = nI a from ea) ?_
      refine m_ald 53 a S hw (by omega) rfl (by decide) (by omega) rfl dX8_grace_27 ?_
      refine lv_istore_n (lv' := [(3, .int (M 53 a)), (0, .ref (ad 34)), (1, .int x), (2, .int y)]) S.1 S.2.1 dX8_grace_28 rfl hl (by decide) rfl (fun ls hl => ?_)
      refine lv_aload_n S.1 S.2.1 dX8_grace_29 rfl (lv_at hl 1 rfl) ?_
      refine m_getR 34 22 53 S hw (by omega) rfl rfl rfl in_X8 (by decide) wf_X8_75 dX8_grace_30 ?_
      refine lv_iload_n S.1 S.2.1 dX8_grace_33 rfl (lv_at hl 2 rfl) ?_
      refine m_top (show x = nI a from ea) ?_
      refine lv_iload_n S.1 S.2.1 dX8_grace_34 rfl (lv_at hl 3 rfl) ?_
      refine n_ast 53 a S hw (by omega) rfl (by decide) (by omega) rfl dX8_grace_35 (fun M3 H locs eM3 hw => ?_)
      refine lv_aload_n S.1 S.2.1 dX8_grace_36 rfl (lv_at hl 1 rfl) ?_
      refine lv_iconst (v := nI 0) S.1 S.2.1 dX8_grace_37 (by decide) ?_
      refine n_putI 34 33 S hw (by omega) rfl rfl rfl in_X8 tyX8_ok nmX8 (by decide) rfl rfl wf_X8_120 dX8_grace_38 (fun M4 H locs eM4 hw => ?_)
      refine lv_iload_n S.1 S.2.1 dX8_grace_41 rfl (lv_at hl 0 rfl) ?_
      have hq5 : M3 34 = M 34 := by rw [eM3, va_up_ne _ _ (by omega)]
      have hq6 : M4 34 = upd (M 34) 33 (nI 0) := by rw [eM4, va_up_self, hq5]
      have hq7 : M3 53 = upd (M 53) a y := by rw [eM3, va_up_self]
      have hq8 : M4 53 = upd (M 53) a y := by rw [eM4, va_up_ne _ _ (by omega), hq7]
      exact m_reti S hr hlocks hw dX8_grace_42 (Dec1.yes c1 (Dec1.yes ((wi_upto y (by decide)).symm.trans c2) (by rw [ta]; exact ⟨rfl, hq6, hq8, (fun k hk => ((show M4 k = M3 k by rw [eM4]; exact va_up_ne _ _ (by omega)).trans (show M3 k = M k by rw [eM3]; exact va_up_ne _ _ (by omega))))⟩)))
    · refine lv_bipush (v := (-2)) S.1 S.2.1 dX8_grace_19 (by decide) ?_
      exact m_reti S hr hlocks hw dX8_grace_21 (Dec1.yes c1 (Dec1.no ((wi_upto y (by decide)).symm.trans c2) ⟨rfl, rfl⟩))
  · refine lv_iconst (v := (-1)) S.1 S.2.1 dX8_grace_7 (by decide) ?_
    exact m_reti S hr hlocks hw dX8_grace_8 (Dec1.no c1 ⟨rfl, rfl⟩)

set_option maxHeartbeats 4000000 in
set_option maxRecDepth 100000 in
/-- reference: rate -/
theorem c_X8_rate (l : Launch) (G : GT) (N K : Nat) (ad : Nat → Nat) (M : Mem) (h61 : 61 ≤ N) (D : Nat) (hD : M 34 10 = nI D) (hD6 : D ≤ 6) (x y : Int32) : CmI l G N K ad yX8_rate cX8_rate 4 .int 2 43 [.ref (ad 34), .int x, .int y] M (fun r M1 => Dec1 (inB x D) (r = -1 ∧ M1 = M) (Dec1 (wi y (nI 1) (nI 60)) (r = -2 ∧ M1 = M) (r = M 43 (tn x) ∧ M1 34 = (upd (M 34) 33 (nI 0)) ∧ M1 43 = (upd (M 43) (tn x) y) ∧ (∀ k, k ≠ 34 ∧ k ≠ 43 → M1 k = M k)))) := by
  refine cm_startI (by decide +kernel) (Nat.le_of_ble_eq_true rfl) ?_
  intro p e s m below meth c ls S hr hlocks hw hl
  have hl : lv_has ls 4 [(0, .ref (ad 34)), (1, .int x), (2, .int y)] := hl
  refine lv_aload_n S.1 S.2.1 dX8_rate_0 rfl (lv_at hl 0 rfl) ?_
  refine lv_iload_n S.1 S.2.1 dX8_rate_1 rfl (lv_at hl 1 rfl) ?_
  refine r_VI (As := [.int x]) (rest := []) 34 S hw (by omega) rfl rfl (c_X8_isDoor l G N K ad M h61 D hD hD6 x) mf_X8_isDoor wm_X8_123 ⟨by decide, by decide⟩ ⟨Nat.le_refl _, Nat.le_refl _⟩ hl.1 rfl (Nat.le_of_ble_eq_true rfl) dX8_rate_2 (fun H locs hw => ?_)
  refine b_ne (tgt := 10) S dX8_rate_5 (by decide) (fun c1 => ?_) (fun c1 => ?_)
  · obtain ⟨a, ha, ea⟩ := inB_of c1 (by omega)
    have ta : tn x = a := tn_of ea (by omega)
    refine lv_iload_n S.1 S.2.1 dX8_rate_10 rfl (lv_at hl 2 rfl) ?_
    refine lv_iconst (v := nI 1) S.1 S.2.1 dX8_rate_11 (by decide) ?_
    refine lv_bipush (v := nI 60) S.1 S.2.1 dX8_rate_12 (by decide) ?_
    refine r_SI (As := [.int y, .int (nI 1), .int (nI 60)]) (rest := []) S hw (c_X8_in l G N K ad M y (nI 1) (nI 60)) mf_X8_in wm_X8_104 ⟨by decide, by decide⟩ ⟨Nat.le_refl _, Nat.le_refl _⟩ hl.1 rfl (Nat.le_of_ble_eq_true rfl) dX8_rate_14 (fun H locs hw => ?_)
    refine b_ne (tgt := 23) S dX8_rate_17 (by decide) (fun c2 => ?_) (fun c2 => ?_)
    · refine lv_aload_n S.1 S.2.1 dX8_rate_23 rfl (lv_at hl 0 rfl) ?_
      refine m_getR 34 12 43 S hw (by omega) rfl rfl rfl in_X8 (by decide) wf_X8_44 dX8_rate_24 ?_
      refine lv_iload_n S.1 S.2.1 dX8_rate_27 rfl (lv_at hl 1 rfl) ?_
      refine m_top (show x = nI a from ea) ?_
      refine m_ald 43 a S hw (by omega) rfl (by decide) (by omega) rfl dX8_rate_28 ?_
      refine lv_istore_n (lv' := [(3, .int (M 43 a)), (0, .ref (ad 34)), (1, .int x), (2, .int y)]) S.1 S.2.1 dX8_rate_29 rfl hl (by decide) rfl (fun ls hl => ?_)
      refine lv_aload_n S.1 S.2.1 dX8_rate_30 rfl (lv_at hl 1 rfl) ?_
      refine m_getR 34 12 43 S hw (by omega) rfl rfl rfl in_X8 (by decide) wf_X8_44 dX8_rate_31 ?_
      refine lv_iload_n S.1 S.2.1 dX8_rate_34 rfl (lv_at hl 2 rfl) ?_
      refine m_top (show x = nI a from ea) ?_
      refine lv_iload_n S.1 S.2.1 dX8_rate_35 rfl (lv_at hl 3 rfl) ?_
      refine n_ast 43 a S hw (by omega) rfl (by decide) (by omega) rfl dX8_rate_36 (fun M3 H locs eM3 hw => ?_)
      refine lv_aload_n S.1 S.2.1 dX8_rate_37 rfl (lv_at hl 1 rfl) ?_
      refine lv_iconst (v := nI 0) S.1 S.2.1 dX8_rate_38 (by decide) ?_
      refine n_putI 34 33 S hw (by omega) rfl rfl rfl in_X8 tyX8_ok nmX8 (by decide) rfl rfl wf_X8_120 dX8_rate_39 (fun M4 H locs eM4 hw => ?_)
      refine lv_iload_n S.1 S.2.1 dX8_rate_42 rfl (lv_at hl 0 rfl) ?_
      have hq5 : M3 34 = M 34 := by rw [eM3, va_up_ne _ _ (by omega)]
      have hq6 : M4 34 = upd (M 34) 33 (nI 0) := by rw [eM4, va_up_self, hq5]
      have hq7 : M3 43 = upd (M 43) a y := by rw [eM3, va_up_self]
      have hq8 : M4 43 = upd (M 43) a y := by rw [eM4, va_up_ne _ _ (by omega), hq7]
      exact m_reti S hr hlocks hw dX8_rate_43 (Dec1.yes c1 (Dec1.yes c2 (by rw [ta]; exact ⟨rfl, hq6, hq8, (fun k hk => ((show M4 k = M3 k by rw [eM4]; exact va_up_ne _ _ (by omega)).trans (show M3 k = M k by rw [eM3]; exact va_up_ne _ _ (by omega))))⟩)))
    · refine lv_bipush (v := (-2)) S.1 S.2.1 dX8_rate_20 (by decide) ?_
      exact m_reti S hr hlocks hw dX8_rate_22 (Dec1.yes c1 (Dec1.no c2 ⟨rfl, rfl⟩))
  · refine lv_iconst (v := (-1)) S.1 S.2.1 dX8_rate_8 (by decide) ?_
    exact m_reti S hr hlocks hw dX8_rate_9 (Dec1.no c1 ⟨rfl, rfl⟩)

set_option maxHeartbeats 4000000 in
set_option maxRecDepth 100000 in
/-- reference: price -/
theorem c_X8_price (l : Launch) (G : GT) (N K : Nat) (ad : Nat → Nat) (M : Mem) (h61 : 61 ≤ N) (x y : Int32) : CmI l G N K ad yX8_price cX8_price 4 .int 1 22 [.ref (ad 34), .int x, .int y] M (fun r M1 => Dec1 (inB x 24) (r = -1 ∧ M1 = M) (Dec1 (inB y 101) (r = -2 ∧ M1 = M) (r = M 54 (tn x) ∧ M1 34 = (upd (M 34) 33 (nI 0)) ∧ M1 54 = (upd (M 54) (tn x) y) ∧ (∀ k, k ≠ 34 ∧ k ≠ 54 → M1 k = M k)))) := by
  refine cm_startI (by decide +kernel) (Nat.le_of_ble_eq_true rfl) ?_
  intro p e s m below meth c ls S hr hlocks hw hl
  have hl : lv_has ls 4 [(0, .ref (ad 34)), (1, .int x), (2, .int y)] := hl
  refine lv_iload_n S.1 S.2.1 dX8_price_0 rfl (lv_at hl 1 rfl) ?_
  refine lv_iconst (v := nI 0) S.1 S.2.1 dX8_price_1 (by decide) ?_
  refine lv_bipush (v := nI 23) S.1 S.2.1 dX8_price_2 (by decide) ?_
  refine r_SI (As := [.int x, .int (nI 0), .int (nI 23)]) (rest := []) S hw (c_X8_in l G N K ad M x (nI 0) (nI 23)) mf_X8_in wm_X8_104 ⟨by decide, by decide⟩ ⟨Nat.le_refl _, Nat.le_refl _⟩ hl.1 rfl (Nat.le_of_ble_eq_true rfl) dX8_price_4 (fun H locs hw => ?_)
  refine b_ne (tgt := 12) S dX8_price_7 (by decide) (fun c1 => ?_) (fun c1 => ?_)
  · have hc1 : inB x 24 = true := (wi_upto x (by decide)).symm.trans c1
    obtain ⟨a, ha, ea⟩ := inB_of hc1 (by omega)
    have ta : tn x = a := tn_of ea (by omega)
    refine lv_iload_n S.1 S.2.1 dX8_price_12 rfl (lv_at hl 2 rfl) ?_
    refine lv_iconst (v := nI 0) S.1 S.2.1 dX8_price_13 (by decide) ?_
    refine lv_bipush (v := nI 100) S.1 S.2.1 dX8_price_14 (by decide) ?_
    refine r_SI (As := [.int y, .int (nI 0), .int (nI 100)]) (rest := []) S hw (c_X8_in l G N K ad M y (nI 0) (nI 100)) mf_X8_in wm_X8_104 ⟨by decide, by decide⟩ ⟨Nat.le_refl _, Nat.le_refl _⟩ hl.1 rfl (Nat.le_of_ble_eq_true rfl) dX8_price_16 (fun H locs hw => ?_)
    refine b_ne (tgt := 25) S dX8_price_19 (by decide) (fun c2 => ?_) (fun c2 => ?_)
    · refine lv_aload_n S.1 S.2.1 dX8_price_25 rfl (lv_at hl 0 rfl) ?_
      refine m_getR 34 23 54 S hw (by omega) rfl rfl rfl in_X8 (by decide) wf_X8_78 dX8_price_26 ?_
      refine lv_iload_n S.1 S.2.1 dX8_price_29 rfl (lv_at hl 1 rfl) ?_
      refine m_top (show x = nI a from ea) ?_
      refine m_ald 54 a S hw (by omega) rfl (by decide) (by omega) rfl dX8_price_30 ?_
      refine lv_istore_n (lv' := [(3, .int (M 54 a)), (0, .ref (ad 34)), (1, .int x), (2, .int y)]) S.1 S.2.1 dX8_price_31 rfl hl (by decide) rfl (fun ls hl => ?_)
      refine lv_aload_n S.1 S.2.1 dX8_price_32 rfl (lv_at hl 1 rfl) ?_
      refine m_getR 34 23 54 S hw (by omega) rfl rfl rfl in_X8 (by decide) wf_X8_78 dX8_price_33 ?_
      refine lv_iload_n S.1 S.2.1 dX8_price_36 rfl (lv_at hl 2 rfl) ?_
      refine m_top (show x = nI a from ea) ?_
      refine lv_iload_n S.1 S.2.1 dX8_price_37 rfl (lv_at hl 3 rfl) ?_
      refine n_ast 54 a S hw (by omega) rfl (by decide) (by omega) rfl dX8_price_38 (fun M3 H locs eM3 hw => ?_)
      refine lv_aload_n S.1 S.2.1 dX8_price_39 rfl (lv_at hl 1 rfl) ?_
      refine lv_iconst (v := nI 0) S.1 S.2.1 dX8_price_40 (by decide) ?_
      refine n_putI 34 33 S hw (by omega) rfl rfl rfl in_X8 tyX8_ok nmX8 (by decide) rfl rfl wf_X8_120 dX8_price_41 (fun M4 H locs eM4 hw => ?_)
      refine lv_iload_n S.1 S.2.1 dX8_price_44 rfl (lv_at hl 0 rfl) ?_
      have hq5 : M3 34 = M 34 := by rw [eM3, va_up_ne _ _ (by omega)]
      have hq6 : M4 34 = upd (M 34) 33 (nI 0) := by rw [eM4, va_up_self, hq5]
      have hq7 : M3 54 = upd (M 54) a y := by rw [eM3, va_up_self]
      have hq8 : M4 54 = upd (M 54) a y := by rw [eM4, va_up_ne _ _ (by omega), hq7]
      exact m_reti S hr hlocks hw dX8_price_45 (Dec1.yes hc1 (Dec1.yes ((wi_upto y (by decide)).symm.trans c2) (by rw [ta]; exact ⟨rfl, hq6, hq8, (fun k hk => ((show M4 k = M3 k by rw [eM4]; exact va_up_ne _ _ (by omega)).trans (show M3 k = M k by rw [eM3]; exact va_up_ne _ _ (by omega))))⟩)))
    · refine lv_bipush (v := (-2)) S.1 S.2.1 dX8_price_22 (by decide) ?_
      exact m_reti S hr hlocks hw dX8_price_24 (Dec1.yes hc1 (Dec1.no ((wi_upto y (by decide)).symm.trans c2) ⟨rfl, rfl⟩))
  · refine lv_iconst (v := (-1)) S.1 S.2.1 dX8_price_10 (by decide) ?_
    exact m_reti S hr hlocks hw dX8_price_11 (Dec1.no ((wi_upto x (by decide)).symm.trans c1) ⟨rfl, rfl⟩)

set_option maxHeartbeats 4000000 in
set_option maxRecDepth 100000 in
/-- reference: wait -/
theorem c_X8_wait (l : Launch) (G : GT) (N K : Nat) (ad : Nat → Nat) (M : Mem) (h61 : 61 ≤ N) (x : Int32) : CmI l G N K ad yX8_wait cX8_wait 2 .int 1 22 [.ref (ad 34), .int x] M (fun r M1 => Dec1 (inB x 1001) (r = -2 ∧ M1 = M) (r = M 34 24 + x ∧ M1 34 = (upd (upd (M 34) 24 (M 34 24 + x)) 33 (nI 0)) ∧ (∀ k, k ≠ 34 → M1 k = M k))) := by
  refine cm_startI (by decide +kernel) (Nat.le_of_ble_eq_true rfl) ?_
  intro p e s m below meth c ls S hr hlocks hw hl
  have hl : lv_has ls 2 [(0, .ref (ad 34)), (1, .int x)] := hl
  refine lv_iload_n S.1 S.2.1 dX8_wait_0 rfl (lv_at hl 1 rfl) ?_
  refine lv_iconst (v := nI 0) S.1 S.2.1 dX8_wait_1 (by decide) ?_
  refine lv_sipush (v := nI 1000) S.1 S.2.1 dX8_wait_2 (by decide) ?_
  refine r_SI (As := [.int x, .int (nI 0), .int (nI 1000)]) (rest := []) S hw (c_X8_in l G N K ad M x (nI 0) (nI 1000)) mf_X8_in wm_X8_104 ⟨by decide, by decide⟩ ⟨Nat.le_refl _, Nat.le_refl _⟩ hl.1 rfl (Nat.le_of_ble_eq_true rfl) dX8_wait_5 (fun H locs hw => ?_)
  refine b_ne (tgt := 14) S dX8_wait_8 (by decide) (fun c1 => ?_) (fun c1 => ?_)
  · refine lv_aload_n S.1 S.2.1 dX8_wait_14 rfl (lv_at hl 0 rfl) ?_
    refine lv_dup S.1 S.2.1 dX8_wait_15 rfl ?_
    refine m_getI 34 24 S hw (by omega) rfl rfl rfl in_X8 (by decide) wf_X8_114 dX8_wait_16 ?_
    refine lv_iload_n S.1 S.2.1 dX8_wait_19 rfl (lv_at hl 1 rfl) ?_
    refine lv_iadd S.1 S.2.1 dX8_wait_20 ?_
    refine n_putI 34 24 S hw (by omega) rfl rfl rfl in_X8 tyX8_ok nmX8 (by decide) rfl rfl wf_X8_114 dX8_wait_21 (fun M2 H locs eM2 hw => ?_)
    refine lv_aload_n S.1 S.2.1 dX8_wait_24 rfl (lv_at hl 0 rfl) ?_
    refine lv_iconst (v := nI 0) S.1 S.2.1 dX8_wait_25 (by decide) ?_
    refine n_putI 34 33 S hw (by omega) rfl rfl rfl in_X8 tyX8_ok nmX8 (by decide) rfl rfl wf_X8_120 dX8_wait_26 (fun M3 H locs eM3 hw => ?_)
    refine lv_aload_n S.1 S.2.1 dX8_wait_29 rfl (lv_at hl 0 rfl) ?_
    refine m_getI 34 24 S hw (by omega) rfl rfl rfl in_X8 (by decide) wf_X8_114 dX8_wait_30 ?_
    have hq4 : M2 34 = upd (M 34) 24 ((M 34 24) + x) := by rw [eM2, va_up_self]
    have hq5 : M3 34 = upd (upd (M 34) 24 ((M 34 24) + x)) 33 (nI 0) := by rw [eM3, va_up_self, hq4]
    refine m_top (show M3 34 24 = (upd (upd (M 34) 24 ((M 34 24) + x)) 33 (nI 0)) 24 from congrFun hq5 24) ?_
    refine m_top (show (upd (upd (M 34) 24 ((M 34 24) + x)) 33 (nI 0)) 24 = (M 34 24) + x from ((pk_un (by decide)).trans pk_us)) ?_
    exact m_reti S hr hlocks hw dX8_wait_33 (Dec1.yes ((wi_upto x (by decide)).symm.trans c1) ⟨rfl, hq5, (fun k hk => ((show M3 k = M2 k by rw [eM3]; exact va_up_ne _ _ (by omega)).trans (show M2 k = M k by rw [eM2]; exact va_up_ne _ _ (by omega))))⟩)
  · refine lv_bipush (v := (-2)) S.1 S.2.1 dX8_wait_11 (by decide) ?_
    exact m_reti S hr hlocks hw dX8_wait_13 (Dec1.no ((wi_upto x (by decide)).symm.trans c1) ⟨rfl, rfl⟩)

set_option maxHeartbeats 4000000 in
set_option maxRecDepth 100000 in
/-- reference: follow -/
theorem c_X8_follow (l : Launch) (G : GT) (N K : Nat) (ad : Nat → Nat) (M : Mem) (h61 : 61 ≤ N) (x y u v : Int32) : CmI l G N K ad yX8_follow cX8_follow 5 .int 2 42 [.ref (ad 34), .int x, .int y, .int u, .int v] M (fun r M1 => Dec1 (inB x 8 && inB y 8) (r = -1 ∧ M1 = M) (Dec1 (inB u 2 && inB v 201) (r = -2 ∧ M1 = M) (Dec1 (!(eqB u 0 && eqB x y)) (r = -3 ∧ M1 = M) (r = nI 0 ∧ M1 34 = (upd (M 34) 33 (nI 0)) ∧ M1 51 = (upd (M 51) (tn x * 8 + tn y) (b01 (eqB u 0))) ∧ M1 52 = (upd (M 52) (tn x * 8 + tn y) v) ∧ (∀ k, k ≠ 34 ∧ k ≠ 51 ∧ k ≠ 52 → M1 k = M k))))) := by
  refine cm_startI (by decide +kernel) (Nat.le_of_ble_eq_true rfl) ?_
  intro p e s m below meth c ls S hr hlocks hw hl
  have hl : lv_has ls 5 [(0, .ref (ad 34)), (1, .int x), (2, .int y), (3, .int u), (4, .int v)] := hl
  refine lv_iload_n S.1 S.2.1 dX8_follow_0 rfl (lv_at hl 1 rfl) ?_
  refine r_SI (As := [.int x]) (rest := []) S hw (c_X8_isKind l G N K ad M x) mf_X8_isKind wm_X8_127 ⟨by decide, by decide⟩ ⟨Nat.le_refl _, Nat.le_refl _⟩ hl.1 rfl (Nat.le_of_ble_eq_true rfl) dX8_follow_1 (fun H locs hw => ?_)
  refine b_eq (tgt := 14) S dX8_follow_4 (by decide) (fun c1 => ?_) (fun c1 => ?_)
  · refine lv_iconst (v := (-1)) S.1 S.2.1 dX8_follow_14 (by decide) ?_
    exact m_reti S hr hlocks hw dX8_follow_15 (Dec1.no (and_f1 c1) ⟨rfl, rfl⟩)
  · obtain ⟨a, ha, ea⟩ := inB_of c1 (by omega)
    have ta : tn x = a := tn_of ea (by omega)
    refine lv_iload_n S.1 S.2.1 dX8_follow_7 rfl (lv_at hl 2 rfl) ?_
    refine r_SI (As := [.int y]) (rest := []) S hw (c_X8_isKind l G N K ad M y) mf_X8_isKind wm_X8_127 ⟨by decide, by decide⟩ ⟨Nat.le_refl _, Nat.le_refl _⟩ hl.1 rfl (Nat.le_of_ble_eq_true rfl) dX8_follow_8 (fun H locs hw => ?_)
    refine b_ne (tgt := 16) S dX8_follow_11 (by decide) (fun c2 => ?_) (fun c2 => ?_)
    · obtain ⟨b, hb, eb⟩ := inB_of c2 (by omega)
      have tb : tn y = b := tn_of eb (by omega)
      refine lv_iload_n S.1 S.2.1 dX8_follow_16 rfl (lv_at hl 3 rfl) ?_
      refine lv_iconst (v := nI 0) S.1 S.2.1 dX8_follow_17 (by decide) ?_
      refine lv_iconst (v := nI 1) S.1 S.2.1 dX8_follow_18 (by decide) ?_
      refine r_SI (As := [.int u, .int (nI 0), .int (nI 1)]) (rest := []) S hw (c_X8_in l G N K ad M u (nI 0) (nI 1)) mf_X8_in wm_X8_104 ⟨by decide, by decide⟩ ⟨Nat.le_refl _, Nat.le_refl _⟩ hl.1 rfl (Nat.le_of_ble_eq_true rfl) dX8_follow_19 (fun H locs hw => ?_)
      refine b_eq (tgt := 37) S dX8_follow_22 (by decide) (fun c3 => ?_) (fun c3 => ?_)
      · refine lv_bipush (v := (-2)) S.1 S.2.1 dX8_follow_37 (by decide) ?_
        exact m_reti S hr hlocks hw dX8_follow_39 (Dec1.yes (and_t c1 c2) (Dec1.no (and_f1 ((wi_upto u (by decide)).symm.trans c3)) ⟨rfl, rfl⟩))
      · refine lv_iload S.1 S.2.1 dX8_follow_25 (lv_at hl 4 rfl) ?_
        refine lv_iconst (v := nI 0) S.1 S.2.1 dX8_follow_27 (by decide) ?_
        refine lv_sipush (v := nI 200) S.1 S.2.1 dX8_follow_28 (by decide) ?_
        refine r_SI (As := [.int v, .int (nI 0), .int (nI 200)]) (rest := []) S hw (c_X8_in l G N K ad M v (nI 0) (nI 200)) mf_X8_in wm_X8_104 ⟨by decide, by decide⟩ ⟨Nat.le_refl _, Nat.le_refl _⟩ hl.1 rfl (Nat.le_of_ble_eq_true rfl) dX8_follow_31 (fun H locs hw => ?_)
        refine b_ne (tgt := 40) S dX8_follow_34 (by decide) (fun c4 => ?_) (fun c4 => ?_)
        · refine lv_iload_n S.1 S.2.1 dX8_follow_40 rfl (lv_at hl 3 rfl) ?_
          refine lv_if_ne (tgt := 52) S.1 S.2.1 dX8_follow_41 (by decide) (fun c5 => ?_) (fun c5 => ?_)
          · refine lv_aload_n S.1 S.2.1 dX8_follow_52 rfl (lv_at hl 0 rfl) ?_
            refine m_getR 34 20 51 S hw (by omega) rfl rfl rfl in_X8 (by decide) wf_X8_69 dX8_follow_53 ?_
            refine lv_bipush (v := nI 8) S.1 S.2.1 dX8_follow_56 (by decide) ?_
            refine lv_iload_n S.1 S.2.1 dX8_follow_58 rfl (lv_at hl 1 rfl) ?_
            refine m_top (show x = nI a from ea) ?_
            refine lv_imul S.1 S.2.1 dX8_follow_59 ?_
            refine m_top (show (nI 8) * (nI a) = nI (a * 8) from by rw [pk_mul, Nat.mul_comm]) ?_
            refine lv_iload_n S.1 S.2.1 dX8_follow_60 rfl (lv_at hl 2 rfl) ?_
            refine m_top (show y = nI b from eb) ?_
            refine lv_iadd S.1 S.2.1 dX8_follow_61 ?_
            refine m_top (show (nI (a * 8)) + (nI b) = nI (a * 8 + b) from nI_add _ _) ?_
            refine lv_iload_n S.1 S.2.1 dX8_follow_62 rfl (lv_at hl 3 rfl) ?_
            refine lv_if_ne (tgt := 70) S.1 S.2.1 dX8_follow_63 (by decide) (fun c6 => ?_) (fun c6 => absurd c6 c5)
            refine lv_iconst (v := nI 0) S.1 S.2.1 dX8_follow_70 (by decide) ?_
            refine n_zst 51 (a * 8 + b) S hw (by omega) rfl (by decide) (by omega) rfl rfl dX8_follow_71 (fun M7 H locs eM7 hw => ?_)
            refine lv_aload_n S.1 S.2.1 dX8_follow_72 rfl (lv_at hl 0 rfl) ?_
            refine m_getR 34 21 52 S hw (by omega) rfl rfl rfl in_X8 (by decide) wf_X8_72 dX8_follow_73 ?_
            refine lv_bipush (v := nI 8) S.1 S.2.1 dX8_follow_76 (by decide) ?_
            refine lv_iload_n S.1 S.2.1 dX8_follow_78 rfl (lv_at hl 1 rfl) ?_
            refine m_top (show x = nI a from ea) ?_
            refine lv_imul S.1 S.2.1 dX8_follow_79 ?_
            refine m_top (show (nI 8) * (nI a) = nI (a * 8) from by rw [pk_mul, Nat.mul_comm]) ?_
            refine lv_iload_n S.1 S.2.1 dX8_follow_80 rfl (lv_at hl 2 rfl) ?_
            refine m_top (show y = nI b from eb) ?_
            refine lv_iadd S.1 S.2.1 dX8_follow_81 ?_
            refine m_top (show (nI (a * 8)) + (nI b) = nI (a * 8 + b) from nI_add _ _) ?_
            refine lv_iload S.1 S.2.1 dX8_follow_82 (lv_at hl 4 rfl) ?_
            refine n_ast 52 (a * 8 + b) S hw (by omega) rfl (by decide) (by omega) rfl dX8_follow_84 (fun M8 H locs eM8 hw => ?_)
            refine lv_aload_n S.1 S.2.1 dX8_follow_85 rfl (lv_at hl 0 rfl) ?_
            refine lv_iconst (v := nI 0) S.1 S.2.1 dX8_follow_86 (by decide) ?_
            refine n_putI 34 33 S hw (by omega) rfl rfl rfl in_X8 tyX8_ok nmX8 (by decide) rfl rfl wf_X8_120 dX8_follow_87 (fun M9 H locs eM9 hw => ?_)
            refine lv_iconst (v := nI 0) S.1 S.2.1 dX8_follow_90 (by decide) ?_
            have hq10 : M7 34 = M 34 := by rw [eM7, va_up_ne _ _ (by omega)]
            have hq11 : M8 34 = M 34 := by rw [eM8, va_up_ne _ _ (by omega), hq10]
            have hq12 : M9 34 = upd (M 34) 33 (nI 0) := by rw [eM9, va_up_self, hq11]
            have hq13 : M7 51 = upd (M 51) (a * 8 + b) (nI 0) := by rw [eM7, va_up_self]
            have hq14 : M8 51 = upd (M 51) (a * 8 + b) (nI 0) := by rw [eM8, va_up_ne _ _ (by omega), hq13]
            have hq15 : M9 51 = upd (M 51) (a * 8 + b) (nI 0) := by rw [eM9, va_up_ne _ _ (by omega), hq14]
            have hq16 : M7 52 = M 52 := by rw [eM7, va_up_ne _ _ (by omega)]
            have hq17 : M8 52 = upd (M 52) (a * 8 + b) v := by rw [eM8, va_up_self, hq16]
            have hq18 : M9 52 = upd (M 52) (a * 8 + b) v := by rw [eM9, va_up_ne _ _ (by omega), hq17]
            exact m_reti S hr hlocks hw dX8_follow_91 (Dec1.yes (and_t c1 c2) (Dec1.yes (and_t ((wi_upto u (by decide)).symm.trans c3) ((wi_upto v (by decide)).symm.trans c4)) (Dec1.yes (by rw [eqB_f (x := u) c5]; rfl) (by rw [ta, tb, eqB_f (x := u) c6]; exact ⟨rfl, hq12, hq15, hq18, (fun k hk => ((show M9 k = M8 k by rw [eM9]; exact va_up_ne _ _ (by omega)).trans ((show M8 k = M7 k by rw [eM8]; exact va_up_ne _ _ (by omega)).trans (show M7 k = M k by rw [eM7]; exact va_up_ne _ _ (by omega)))))⟩))))
          · refine lv_iload_n S.1 S.2.1 dX8_follow_44 rfl (lv_at hl 1 rfl) ?_
            refine m_top (show x = nI a from ea) ?_
            refine lv_iload_n S.1 S.2.1 dX8_follow_45 rfl (lv_at hl 2 rfl) ?_
            refine m_top (show y = nI b from eb) ?_
            refine n_ne (tgt := 52) S (by omega) (by omega) dX8_follow_46 (by decide) (fun c19 => ?_) (fun c19 => ?_)
            · have hdiff : ¬ x = y := by rw [ea, eb]; exact fun z => c19 ((nI_eq (by omega) (by omega)).mp z)
              refine lv_aload_n S.1 S.2.1 dX8_follow_52 rfl (lv_at hl 0 rfl) ?_
              refine m_getR 34 20 51 S hw (by omega) rfl rfl rfl in_X8 (by decide) wf_X8_69 dX8_follow_53 ?_
              refine lv_bipush (v := nI 8) S.1 S.2.1 dX8_follow_56 (by decide) ?_
              refine lv_iload_n S.1 S.2.1 dX8_follow_58 rfl (lv_at hl 1 rfl) ?_
              refine m_top (show x = nI a from ea) ?_
              refine lv_imul S.1 S.2.1 dX8_follow_59 ?_
              refine m_top (show (nI 8) * (nI a) = nI (a * 8) from by rw [pk_mul, Nat.mul_comm]) ?_
              refine lv_iload_n S.1 S.2.1 dX8_follow_60 rfl (lv_at hl 2 rfl) ?_
              refine m_top (show y = nI b from eb) ?_
              refine lv_iadd S.1 S.2.1 dX8_follow_61 ?_
              refine m_top (show (nI (a * 8)) + (nI b) = nI (a * 8 + b) from nI_add _ _) ?_
              refine lv_iload_n S.1 S.2.1 dX8_follow_62 rfl (lv_at hl 3 rfl) ?_
              refine lv_if_ne (tgt := 70) S.1 S.2.1 dX8_follow_63 (by decide) (fun c20 => absurd c20 (fun z => z c5)) (fun c20 => ?_)
              refine lv_iconst (v := nI 1) S.1 S.2.1 dX8_follow_66 (by decide) ?_
              refine lv_goto (tgt := 71) S.1 S.2.1 dX8_follow_67 (by decide) ?_
              refine n_zst 51 (a * 8 + b) S hw (by omega) rfl (by decide) (by omega) rfl rfl dX8_follow_71 (fun M21 H locs eM21 hw => ?_)
              refine lv_aload_n S.1 S.2.1 dX8_follow_72 rfl (lv_at hl 0 rfl) ?_
              refine m_getR 34 21 52 S hw (by omega) rfl rfl rfl in_X8 (by decide) wf_X8_72 dX8_follow_73 ?_
              refine lv_bipush (v := nI 8) S.1 S.2.1 dX8_follow_76 (by decide) ?_
              refine lv_iload_n S.1 S.2.1 dX8_follow_78 rfl (lv_at hl 1 rfl) ?_
              refine m_top (show x = nI a from ea) ?_
              refine lv_imul S.1 S.2.1 dX8_follow_79 ?_
              refine m_top (show (nI 8) * (nI a) = nI (a * 8) from by rw [pk_mul, Nat.mul_comm]) ?_
              refine lv_iload_n S.1 S.2.1 dX8_follow_80 rfl (lv_at hl 2 rfl) ?_
              refine m_top (show y = nI b from eb) ?_
              refine lv_iadd S.1 S.2.1 dX8_follow_81 ?_
              refine m_top (show (nI (a * 8)) + (nI b) = nI (a * 8 + b) from nI_add _ _) ?_
              refine lv_iload S.1 S.2.1 dX8_follow_82 (lv_at hl 4 rfl) ?_
              refine n_ast 52 (a * 8 + b) S hw (by omega) rfl (by decide) (by omega) rfl dX8_follow_84 (fun M22 H locs eM22 hw => ?_)
              refine lv_aload_n S.1 S.2.1 dX8_follow_85 rfl (lv_at hl 0 rfl) ?_
              refine lv_iconst (v := nI 0) S.1 S.2.1 dX8_follow_86 (by decide) ?_
              refine n_putI 34 33 S hw (by omega) rfl rfl rfl in_X8 tyX8_ok nmX8 (by decide) rfl rfl wf_X8_120 dX8_follow_87 (fun M23 H locs eM23 hw => ?_)
              refine lv_iconst (v := nI 0) S.1 S.2.1 dX8_follow_90 (by decide) ?_
              have hq24 : M21 34 = M 34 := by rw [eM21, va_up_ne _ _ (by omega)]
              have hq25 : M22 34 = M 34 := by rw [eM22, va_up_ne _ _ (by omega), hq24]
              have hq26 : M23 34 = upd (M 34) 33 (nI 0) := by rw [eM23, va_up_self, hq25]
              have hq27 : M21 51 = upd (M 51) (a * 8 + b) (nI 1) := by rw [eM21, va_up_self]
              have hq28 : M22 51 = upd (M 51) (a * 8 + b) (nI 1) := by rw [eM22, va_up_ne _ _ (by omega), hq27]
              have hq29 : M23 51 = upd (M 51) (a * 8 + b) (nI 1) := by rw [eM23, va_up_ne _ _ (by omega), hq28]
              have hq30 : M21 52 = M 52 := by rw [eM21, va_up_ne _ _ (by omega)]
              have hq31 : M22 52 = upd (M 52) (a * 8 + b) v := by rw [eM22, va_up_self, hq30]
              have hq32 : M23 52 = upd (M 52) (a * 8 + b) v := by rw [eM23, va_up_ne _ _ (by omega), hq31]
              exact m_reti S hr hlocks hw dX8_follow_91 (Dec1.yes (and_t c1 c2) (Dec1.yes (and_t ((wi_upto u (by decide)).symm.trans c3) ((wi_upto v (by decide)).symm.trans c4)) (Dec1.yes (by rw [eqB_f hdiff]; cases eqB u 0 <;> rfl) (by rw [ta, tb, eqB_t (x := u) c20]; exact ⟨rfl, hq26, hq29, hq32, (fun k hk => ((show M23 k = M22 k by rw [eM23]; exact va_up_ne _ _ (by omega)).trans ((show M22 k = M21 k by rw [eM22]; exact va_up_ne _ _ (by omega)).trans (show M21 k = M k by rw [eM21]; exact va_up_ne _ _ (by omega)))))⟩))))
            · have hsame : x = y := by rw [ea, eb, c19]
              refine lv_bipush (v := (-3)) S.1 S.2.1 dX8_follow_49 (by decide) ?_
              exact m_reti S hr hlocks hw dX8_follow_51 (Dec1.yes (and_t c1 c2) (Dec1.yes (and_t ((wi_upto u (by decide)).symm.trans c3) ((wi_upto v (by decide)).symm.trans c4)) (Dec1.no (by rw [eqB_t (x := u) c5, eqB_t hsame]; rfl) ⟨rfl, rfl⟩)))
        · refine lv_bipush (v := (-2)) S.1 S.2.1 dX8_follow_37 (by decide) ?_
          exact m_reti S hr hlocks hw dX8_follow_39 (Dec1.yes (and_t c1 c2) (Dec1.no (and_f2 ((wi_upto v (by decide)).symm.trans c4)) ⟨rfl, rfl⟩))
    · refine lv_iconst (v := (-1)) S.1 S.2.1 dX8_follow_14 (by decide) ?_
      exact m_reti S hr hlocks hw dX8_follow_15 (Dec1.no (and_f2 c2) ⟨rfl, rfl⟩)

theorem okT_1 {u v z : Int32} (h : u < 0) : okTank u v z = false := by
  refine and_f2 (and_f1 ?_)
  have a : ¬ (nI 0) ≤ u := fun q => Int32.not_lt.mpr q h
  simp [wi, a]
theorem okT_2 {u v z : Int32} (h : v < u) : okTank u v z = false := by
  refine and_f2 (and_f1 ?_)
  have a : ¬ u ≤ v := fun q => Int32.not_lt.mpr q h
  simp [wi, a]
theorem okT_3 {u v z : Int32} (h : nI 10000 < v) : okTank u v z = false := by
  refine and_f1 ?_
  have a : ¬ v ≤ nI 10000 := fun q => Int32.not_lt.mpr q h
  simp [wi, a]
theorem okT_4 {u v z : Int32} (h : wi z u v = false) : okTank u v z = false := and_f2 (and_f2 h)
theorem okT_y {u v z : Int32} (h1 : ¬ u < 0) (h2 : ¬ v < u) (h3 : ¬ nI 10000 < v) (h4 : wi z u v = true) : okTank u v z = true := by
  have a : (nI 0) ≤ u := Int32.not_lt.mp h1
  have b : u ≤ v := Int32.not_lt.mp h2
  have c : v ≤ nI 10000 := Int32.not_lt.mp h3
  have d : (nI 0) ≤ v := Int32.le_trans a b
  refine and_t ?_ (and_t ?_ h4)
  · simp [wi, d, c]
  · simp [wi, a, b]

set_option maxHeartbeats 4000000 in
set_option maxRecDepth 100000 in
/-- reference: tank -/
theorem c_X8_tank (l : Launch) (G : GT) (N K : Nat) (ad : Nat → Nat) (M : Mem) (h61 : 61 ≤ N) (D : Nat) (hD : M 34 10 = nI D) (hD6 : D ≤ 6) (x y u v z : Int32) : CmI l G N K ad yX8_tank cX8_tank 7 .int 2 43 [.ref (ad 34), .int x, .int y, .int u, .int v, .int z] M (fun r M1 => Dec1 (inB x D && inB y 8) (r = -1 ∧ M1 = M) (Dec1 (okTank u v z) (r = -2 ∧ M1 = M) (Dec1 (eqB (M 45 (tn x * 8 + tn y)) 0) (r = -3 ∧ M1 = M) (r = nI 0 ∧ M1 34 = (upd (M 34) 33 (nI 0)) ∧ M1 45 = (upd (M 45) (tn x * 8 + tn y) (nI 1)) ∧ M1 46 = (upd (M 46) (tn x * 8 + tn y) u) ∧ M1 47 = (upd (M 47) (tn x * 8 + tn y) v) ∧ M1 48 = (upd (M 48) (tn x * 8 + tn y) z) ∧ M1 49 = (upd (M 49) (tn x * 8 + tn y) (nI 0)) ∧ M1 50 = (upd (M 50) (tn x * 8 + tn y) (nI 0)) ∧ (∀ k, k ≠ 34 ∧ k ≠ 45 ∧ k ≠ 46 ∧ k ≠ 47 ∧ k ≠ 48 ∧ k ≠ 49 ∧ k ≠ 50 → M1 k = M k))))) := by
  refine cm_startI (by decide +kernel) (Nat.le_of_ble_eq_true rfl) ?_
  intro p e s m below meth c ls S hr hlocks hw hl
  have hl : lv_has ls 7 [(0, .ref (ad 34)), (1, .int x), (2, .int y), (3, .int u), (4, .int v), (5, .int z)] := hl
  refine lv_aload_n S.1 S.2.1 dX8_tank_0 rfl (lv_at hl 0 rfl) ?_
  refine lv_iload_n S.1 S.2.1 dX8_tank_1 rfl (lv_at hl 1 rfl) ?_
  refine r_VI (As := [.int x]) (rest := []) 34 S hw (by omega) rfl rfl (c_X8_isDoor l G N K ad M h61 D hD hD6 x) mf_X8_isDoor wm_X8_123 ⟨by decide, by decide⟩ ⟨Nat.le_refl _, Nat.le_refl _⟩ hl.1 rfl (Nat.le_of_ble_eq_true rfl) dX8_tank_2 (fun H locs hw => ?_)
  refine b_eq (tgt := 15) S dX8_tank_5 (by decide) (fun c1 => ?_) (fun c1 => ?_)
  · refine lv_iconst (v := (-1)) S.1 S.2.1 dX8_tank_15 (by decide) ?_
    exact m_reti S hr hlocks hw dX8_tank_16 (Dec1.no (and_f1 c1) ⟨rfl, rfl⟩)
  · obtain ⟨a, ha, ea⟩ := inB_of c1 (by omega)
    have ta : tn x = a := tn_of ea (by omega)
    refine lv_iload_n S.1 S.2.1 dX8_tank_8 rfl (lv_at hl 2 rfl) ?_
    refine r_SI (As := [.int y]) (rest := []) S hw (c_X8_isKind l G N K ad M y) mf_X8_isKind wm_X8_127 ⟨by decide, by decide⟩ ⟨Nat.le_refl _, Nat.le_refl _⟩ hl.1 rfl (Nat.le_of_ble_eq_true rfl) dX8_tank_9 (fun H locs hw => ?_)
    refine b_ne (tgt := 17) S dX8_tank_12 (by decide) (fun c2 => ?_) (fun c2 => ?_)
    · obtain ⟨b, hb, eb⟩ := inB_of c2 (by omega)
      have tb : tn y = b := tn_of eb (by omega)
      refine lv_iload_n S.1 S.2.1 dX8_tank_17 rfl (lv_at hl 3 rfl) ?_
      refine lv_if_lt (tgt := 46) S.1 S.2.1 dX8_tank_18 (by decide) (fun c3 => ?_) (fun c3 => ?_)
      · refine lv_bipush (v := (-2)) S.1 S.2.1 dX8_tank_46 (by decide) ?_
        exact m_reti S hr hlocks hw dX8_tank_48 (Dec1.yes (and_t c1 c2) (Dec1.no (okT_1 c3) ⟨rfl, rfl⟩))
      · refine lv_iload S.1 S.2.1 dX8_tank_21 (lv_at hl 4 rfl) ?_
        refine lv_iload_n S.1 S.2.1 dX8_tank_23 rfl (lv_at hl 3 rfl) ?_
        refine lv_icmp_lt (tgt := 46) S.1 S.2.1 dX8_tank_24 (by decide) (fun c4 => ?_) (fun c4 => ?_)
        · refine lv_bipush (v := (-2)) S.1 S.2.1 dX8_tank_46 (by decide) ?_
          exact m_reti S hr hlocks hw dX8_tank_48 (Dec1.yes (and_t c1 c2) (Dec1.no (okT_2 c4) ⟨rfl, rfl⟩))
        · refine lv_iload S.1 S.2.1 dX8_tank_27 (lv_at hl 4 rfl) ?_
          refine lv_sipush (v := nI 10000) S.1 S.2.1 dX8_tank_29 (by decide) ?_
          refine lv_icmp_gt (tgt := 46) S.1 S.2.1 dX8_tank_32 (by decide) (fun c5 => ?_) (fun c5 => ?_)
          · refine lv_bipush (v := (-2)) S.1 S.2.1 dX8_tank_46 (by decide) ?_
            exact m_reti S hr hlocks hw dX8_tank_48 (Dec1.yes (and_t c1 c2) (Dec1.no (okT_3 c5) ⟨rfl, rfl⟩))
          · refine lv_iload S.1 S.2.1 dX8_tank_35 (lv_at hl 5 rfl) ?_
            refine lv_iload_n S.1 S.2.1 dX8_tank_37 rfl (lv_at hl 3 rfl) ?_
            refine lv_iload S.1 S.2.1 dX8_tank_38 (lv_at hl 4 rfl) ?_
            refine r_SI (As := [.int z, .int u, .int v]) (rest := []) S hw (c_X8_in l G N K ad M z u v) mf_X8_in wm_X8_104 ⟨by decide, by decide⟩ ⟨Nat.le_refl _, Nat.le_refl _⟩ hl.1 rfl (Nat.le_of_ble_eq_true rfl) dX8_tank_40 (fun H locs hw => ?_)
            refine b_ne (tgt := 49) S dX8_tank_43 (by decide) (fun c6 => ?_) (fun c6 => ?_)
            · refine lv_bipush (v := nI 8) S.1 S.2.1 dX8_tank_49 (by decide) ?_
              refine lv_iload_n S.1 S.2.1 dX8_tank_51 rfl (lv_at hl 1 rfl) ?_
              refine m_top (show x = nI a from ea) ?_
              refine lv_imul S.1 S.2.1 dX8_tank_52 ?_
              refine m_top (show (nI 8) * (nI a) = nI (a * 8) from by rw [pk_mul, Nat.mul_comm]) ?_
              refine lv_iload_n S.1 S.2.1 dX8_tank_53 rfl (lv_at hl 2 rfl) ?_
              refine m_top (show y = nI b from eb) ?_
              refine lv_iadd S.1 S.2.1 dX8_tank_54 ?_
              refine m_top (show (nI (a * 8)) + (nI b) = nI (a * 8 + b) from nI_add _ _) ?_
              refine lv_istore (lv' := [(6, .int (nI (a * 8 + b))), (0, .ref (ad 34)), (1, .int x), (2, .int y), (3, .int u), (4, .int v), (5, .int z)]) S.1 S.2.1 dX8_tank_55 hl (by decide) rfl (fun ls hl => ?_)
              refine lv_aload_n S.1 S.2.1 dX8_tank_57 rfl (lv_at hl 1 rfl) ?_
              refine m_getR 34 14 45 S hw (by omega) rfl rfl rfl in_X8 (by decide) wf_X8_50 dX8_tank_58 ?_
              refine lv_iload S.1 S.2.1 dX8_tank_61 (lv_at hl 0 rfl) ?_
              refine m_zld 45 (a * 8 + b) S hw (by omega) rfl (by decide) (by omega) rfl dX8_tank_63 ?_
              refine lv_if_eq (tgt := 70) S.1 S.2.1 dX8_tank_64 (by decide) (fun c7 => ?_) (fun c7 => ?_)
              · refine lv_aload_n S.1 S.2.1 dX8_tank_70 rfl (lv_at hl 1 rfl) ?_
                refine m_getR 34 14 45 S hw (by omega) rfl rfl rfl in_X8 (by decide) wf_X8_50 dX8_tank_71 ?_
                refine lv_iload S.1 S.2.1 dX8_tank_74 (lv_at hl 0 rfl) ?_
                refine lv_iconst (v := nI 1) S.1 S.2.1 dX8_tank_76 (by decide) ?_
                refine n_zst 45 (a * 8 + b) S hw (by omega) rfl (by decide) (by omega) rfl rfl dX8_tank_77 (fun M8 H locs eM8 hw => ?_)
                refine lv_aload_n S.1 S.2.1 dX8_tank_78 rfl (lv_at hl 1 rfl) ?_
                refine m_getR 34 15 46 S hw (by omega) rfl rfl rfl in_X8 (by decide) wf_X8_54 dX8_tank_79 ?_
                refine lv_iload S.1 S.2.1 dX8_tank_82 (lv_at hl 0 rfl) ?_
                refine lv_iload_n S.1 S.2.1 dX8_tank_84 rfl (lv_at hl 4 rfl) ?_
                refine n_ast 46 (a * 8 + b) S hw (by omega) rfl (by decide) (by omega) rfl dX8_tank_85 (fun M9 H locs eM9 hw => ?_)
                refine lv_aload_n S.1 S.2.1 dX8_tank_86 rfl (lv_at hl 1 rfl) ?_
                refine m_getR 34 16 47 S hw (by omega) rfl rfl rfl in_X8 (by decide) wf_X8_57 dX8_tank_87 ?_
                refine lv_iload S.1 S.2.1 dX8_tank_90 (lv_at hl 0 rfl) ?_
                refine lv_iload S.1 S.2.1 dX8_tank_92 (lv_at hl 5 rfl) ?_
                refine n_ast 47 (a * 8 + b) S hw (by omega) rfl (by decide) (by omega) rfl dX8_tank_94 (fun M10 H locs eM10 hw => ?_)
                refine lv_aload_n S.1 S.2.1 dX8_tank_95 rfl (lv_at hl 1 rfl) ?_
                refine m_getR 34 17 48 S hw (by omega) rfl rfl rfl in_X8 (by decide) wf_X8_60 dX8_tank_96 ?_
                refine lv_iload S.1 S.2.1 dX8_tank_99 (lv_at hl 0 rfl) ?_
                refine lv_iload S.1 S.2.1 dX8_tank_101 (lv_at hl 6 rfl) ?_
                refine n_ast 48 (a * 8 + b) S hw (by omega) rfl (by decide) (by omega) rfl dX8_tank_103 (fun M11 H locs eM11 hw => ?_)
                refine lv_aload_n S.1 S.2.1 dX8_tank_104 rfl (lv_at hl 1 rfl) ?_
                refine m_getR 34 18 49 S hw (by omega) rfl rfl rfl in_X8 (by decide) wf_X8_63 dX8_tank_105 ?_
                refine lv_iload S.1 S.2.1 dX8_tank_108 (lv_at hl 0 rfl) ?_
                refine lv_iconst (v := nI 0) S.1 S.2.1 dX8_tank_110 (by decide) ?_
                refine n_ast 49 (a * 8 + b) S hw (by omega) rfl (by decide) (by omega) rfl dX8_tank_111 (fun M12 H locs eM12 hw => ?_)
                refine lv_aload_n S.1 S.2.1 dX8_tank_112 rfl (lv_at hl 1 rfl) ?_
                refine m_getR 34 19 50 S hw (by omega) rfl rfl rfl in_X8 (by decide) wf_X8_66 dX8_tank_113 ?_
                refine lv_iload S.1 S.2.1 dX8_tank_116 (lv_at hl 0 rfl) ?_
                refine lv_iconst (v := nI 0) S.1 S.2.1 dX8_tank_118 (by decide) ?_
                refine n_ast 50 (a * 8 + b) S hw (by omega) rfl (by decide) (by omega) rfl dX8_tank_119 (fun M13 H locs eM13 hw => ?_)
                refine lv_aload_n S.1 S.2.1 dX8_tank_120 rfl (lv_at hl 1 rfl) ?_
                refine lv_iconst (v := nI 0) S.1 S.2.1 dX8_tank_121 (by decide) ?_
                refine n_putI 34 33 S hw (by omega) rfl rfl rfl in_X8 tyX8_ok nmX8 (by decide) rfl rfl wf_X8_120 dX8_tank_122 (fun M14 H locs eM14 hw => ?_)
                refine lv_iconst (v := nI 0) S.1 S.2.1 dX8_tank_125 (by decide) ?_
                have hq15 : M8 34 = M 34 := by rw [eM8, va_up_ne _ _ (by omega)]
                have hq16 : M9 34 = M 34 := by rw [eM9, va_up_ne _ _ (by omega), hq15]
                have hq17 : M10 34 = M 34 := by rw [eM10, va_up_ne _ _ (by omega), hq16]
                have hq18 : M11 34 = M 34 := by rw [eM11, va_up_ne _ _ (by omega), hq17]
                have hq19 : M12 34 = M 34 := by rw [eM12, va_up_ne _ _ (by omega), hq18]
                have hq20 : M13 34 = M 34 := by rw [eM13, va_up_ne _ _ (by omega), hq19]
                have hq21 : M14 34 = upd (M 34) 33 (nI 0) := by rw [eM14, va_up_self, hq20]
                have hq22 : M8 45 = upd (M 45) (a * 8 + b) (nI 1) := by rw [eM8, va_up_self]
                have hq23 : M9 45 = upd (M 45) (a * 8 + b) (nI 1) := by rw [eM9, va_up_ne _ _ (by omega), hq22]
                have hq24 : M10 45 = upd (M 45) (a * 8 + b) (nI 1) := by rw [eM10, va_up_ne _ _ (by omega), hq23]
                have hq25 : M11 45 = upd (M 45) (a * 8 + b) (nI 1) := by rw [eM11, va_up_ne _ _ (by omega), hq24]
                have hq26 : M12 45 = upd (M 45) (a * 8 + b) (nI 1) := by rw [eM12, va_up_ne _ _ (by omega), hq25]
                have hq27 : M13 45 = upd (M 45) (a * 8 + b) (nI 1) := by rw [eM13, va_up_ne _ _ (by omega), hq26]
                have hq28 : M14 45 = upd (M 45) (a * 8 + b) (nI 1) := by rw [eM14, va_up_ne _ _ (by omega), hq27]
                have hq29 : M8 46 = M 46 := by rw [eM8, va_up_ne _ _ (by omega)]
                have hq30 : M9 46 = upd (M 46) (a * 8 + b) u := by rw [eM9, va_up_self, hq29]
                have hq31 : M10 46 = upd (M 46) (a * 8 + b) u := by rw [eM10, va_up_ne _ _ (by omega), hq30]
                have hq32 : M11 46 = upd (M 46) (a * 8 + b) u := by rw [eM11, va_up_ne _ _ (by omega), hq31]
                have hq33 : M12 46 = upd (M 46) (a * 8 + b) u := by rw [eM12, va_up_ne _ _ (by omega), hq32]
                have hq34 : M13 46 = upd (M 46) (a * 8 + b) u := by rw [eM13, va_up_ne _ _ (by omega), hq33]
                have hq35 : M14 46 = upd (M 46) (a * 8 + b) u := by rw [eM14, va_up_ne _ _ (by omega), hq34]
                have hq36 : M8 47 = M 47 := by rw [eM8, va_up_ne _ _ (by omega)]
                have hq37 : M9 47 = M 47 := by rw [eM9, va_up_ne _ _ (by omega), hq36]
                have hq38 : M10 47 = upd (M 47) (a * 8 + b) v := by rw [eM10, va_up_self, hq37]
                have hq39 : M11 47 = upd (M 47) (a * 8 + b) v := by rw [eM11, va_up_ne _ _ (by omega), hq38]
                have hq40 : M12 47 = upd (M 47) (a * 8 + b) v := by rw [eM12, va_up_ne _ _ (by omega), hq39]
                have hq41 : M13 47 = upd (M 47) (a * 8 + b) v := by rw [eM13, va_up_ne _ _ (by omega), hq40]
                have hq42 : M14 47 = upd (M 47) (a * 8 + b) v := by rw [eM14, va_up_ne _ _ (by omega), hq41]
                have hq43 : M8 48 = M 48 := by rw [eM8, va_up_ne _ _ (by omega)]
                have hq44 : M9 48 = M 48 := by rw [eM9, va_up_ne _ _ (by omega), hq43]
                have hq45 : M10 48 = M 48 := by rw [eM10, va_up_ne _ _ (by omega), hq44]
                have hq46 : M11 48 = upd (M 48) (a * 8 + b) z := by rw [eM11, va_up_self, hq45]
                have hq47 : M12 48 = upd (M 48) (a * 8 + b) z := by rw [eM12, va_up_ne _ _ (by omega), hq46]
                have hq48 : M13 48 = upd (M 48) (a * 8 + b) z := by rw [eM13, va_up_ne _ _ (by omega), hq47]
                have hq49 : M14 48 = upd (M 48) (a * 8 + b) z := by rw [eM14, va_up_ne _ _ (by omega), hq48]
                have hq50 : M8 49 = M 49 := by rw [eM8, va_up_ne _ _ (by omega)]
                have hq51 : M9 49 = M 49 := by rw [eM9, va_up_ne _ _ (by omega), hq50]
                have hq52 : M10 49 = M 49 := by rw [eM10, va_up_ne _ _ (by omega), hq51]
                have hq53 : M11 49 = M 49 := by rw [eM11, va_up_ne _ _ (by omega), hq52]
                have hq54 : M12 49 = upd (M 49) (a * 8 + b) (nI 0) := by rw [eM12, va_up_self, hq53]
                have hq55 : M13 49 = upd (M 49) (a * 8 + b) (nI 0) := by rw [eM13, va_up_ne _ _ (by omega), hq54]
                have hq56 : M14 49 = upd (M 49) (a * 8 + b) (nI 0) := by rw [eM14, va_up_ne _ _ (by omega), hq55]
                have hq57 : M8 50 = M 50 := by rw [eM8, va_up_ne _ _ (by omega)]
                have hq58 : M9 50 = M 50 := by rw [eM9, va_up_ne _ _ (by omega), hq57]
                have hq59 : M10 50 = M 50 := by rw [eM10, va_up_ne _ _ (by omega), hq58]
                have hq60 : M11 50 = M 50 := by rw [eM11, va_up_ne _ _ (by omega), hq59]
                have hq61 : M12 50 = M 50 := by rw [eM12, va_up_ne _ _ (by omega), hq60]
                have hq62 : M13 50 = upd (M 50) (a * 8 + b) (nI 0) := by rw [eM13, va_up_self, hq61]
                have hq63 : M14 50 = upd (M 50) (a * 8 + b) (nI 0) := by rw [eM14, va_up_ne _ _ (by omega), hq62]
                exact m_reti S hr hlocks hw dX8_tank_126 (Dec1.yes (and_t c1 c2) (Dec1.yes (okT_y c3 c4 c5 c6) (by rw [ta, tb]; exact Dec1.yes (eqB_t c7) ⟨rfl, hq21, hq28, hq35, hq42, hq49, hq56, hq63, (fun k hk => ((show M14 k = M13 k by rw [eM14]; exact va_up_ne _ _ (by omega)).trans ((show M13 k = M12 k by rw [eM13]; exact va_up_ne _ _ (by omega)).trans ((show M12 k = M11 k by rw [eM12]; exact va_up_ne _ _ (by omega)).trans ((show M11 k = M10 k by rw [eM11]; exact va_up_ne _ _ (by omega)).trans ((show M10 k = M9 k by rw [eM10]; exact va_up_ne _ _ (by omega)).trans ((show M9 k = M8 k by rw [eM9]; exact va_up_ne _ _ (by omega)).trans (show M8 k = M k by rw [eM8]; exact va_up_ne _ _ (by omega)))))))))⟩)))
              · refine lv_bipush (v := (-3)) S.1 S.2.1 dX8_tank_67 (by decide) ?_
                exact m_reti S hr hlocks hw dX8_tank_69 (Dec1.yes (and_t c1 c2) (Dec1.yes (okT_y c3 c4 c5 c6) (Dec1.no (by rw [ta, tb]; exact eqB_f c7) ⟨rfl, rfl⟩)))
            · refine lv_bipush (v := (-2)) S.1 S.2.1 dX8_tank_46 (by decide) ?_
              exact m_reti S hr hlocks hw dX8_tank_48 (Dec1.yes (and_t c1 c2) (Dec1.no (okT_4 c6) ⟨rfl, rfl⟩))
    · refine lv_iconst (v := (-1)) S.1 S.2.1 dX8_tank_15 (by decide) ?_
      exact m_reti S hr hlocks hw dX8_tank_16 (Dec1.no (and_f2 c2) ⟨rfl, rfl⟩)

set_option maxHeartbeats 4000000 in
set_option maxRecDepth 100000 in
/-- reference: wish -/
theorem c_X8_wish (l : Launch) (G : GT) (N K : Nat) (ad : Nat → Nat) (M : Mem) (h61 : 61 ≤ N) (D : Nat) (hD : M 34 10 = nI D) (hD6 : D ≤ 6) (Wn : Nat) (hWn : M 34 26 = nI Wn) (hW20 : Wn ≤ 20) (x y u v : Int32) : CmI l G N K ad yX8_wish cX8_wish 5 .int 3 65 [.ref (ad 34), .int x, .int y, .int u, .int v] M (fun r M1 => Dec1 (inB x D && (inB y 8 && !eqB (M 45 (tn x * 8 + tn y)) 0)) (r = -1 ∧ M1 = M) (Dec1 (wi u (nI 1) (nI 1000) && inB v 100001) (r = -2 ∧ M1 = M) (Dec1 (decide (Wn < 20)) (r = -4 ∧ M1 = M) (r = nI Wn ∧ M1 34 = (upd (upd (M 34) 26 (nI (Wn + 1))) 33 (nI 0)) ∧ M1 55 = (upd (M 55) Wn (nI (tn x * 8 + tn y))) ∧ M1 56 = (upd (M 56) Wn u) ∧ M1 57 = (upd (M 57) Wn v) ∧ M1 58 = (upd (M 58) Wn (M 50 (tn x * 8 + tn y))) ∧ M1 59 = (upd (M 59) Wn (-1)) ∧ (∀ k, k ≠ 34 ∧ k ≠ 55 ∧ k ≠ 56 ∧ k ≠ 57 ∧ k ≠ 58 ∧ k ≠ 59 → M1 k = M k))))) := by
  refine cm_startI (by decide +kernel) (Nat.le_of_ble_eq_true rfl) ?_
  intro p e s m below meth c ls S hr hlocks hw hl
  have hl : lv_has ls 5 [(0, .ref (ad 34)), (1, .int x), (2, .int y), (3, .int u), (4, .int v)] := hl
  refine lv_aload_n S.1 S.2.1 dX8_wish_0 rfl (lv_at hl 0 rfl) ?_
  refine lv_iload_n S.1 S.2.1 dX8_wish_1 rfl (lv_at hl 1 rfl) ?_
  refine lv_iload_n S.1 S.2.1 dX8_wish_2 rfl (lv_at hl 2 rfl) ?_
  refine r_VI (As := [.int x, .int y]) (rest := []) 34 S hw (by omega) rfl rfl (c_X8_isTank l G N K ad M h61 D hD hD6 x y) mf_X8_isTank wm_X8_130 ⟨by decide, by decide⟩ ⟨Nat.le_refl _, Nat.le_refl _⟩ hl.1 rfl (Nat.le_of_ble_eq_true rfl) dX8_wish_3 (fun H locs hw => ?_)
  refine b_ne (tgt := 11) S dX8_wish_6 (by decide) (fun c1 => ?_) (fun c1 => ?_)
  · have hx3 := and3 c1
    obtain ⟨a, ha, ea⟩ := inB_of hx3.1 (by omega)
    have ta : tn x = a := tn_of ea (by omega)
    obtain ⟨b, hb, eb⟩ := inB_of hx3.2.1 (by omega)
    have tb : tn y = b := tn_of eb (by omega)
    refine lv_iload_n S.1 S.2.1 dX8_wish_11 rfl (lv_at hl 3 rfl) ?_
    refine lv_iconst (v := nI 1) S.1 S.2.1 dX8_wish_12 (by decide) ?_
    refine lv_sipush (v := nI 1000) S.1 S.2.1 dX8_wish_13 (by decide) ?_
    refine r_SI (As := [.int u, .int (nI 1), .int (nI 1000)]) (rest := []) S hw (c_X8_in l G N K ad M u (nI 1) (nI 1000)) mf_X8_in wm_X8_104 ⟨by decide, by decide⟩ ⟨Nat.le_refl _, Nat.le_refl _⟩ hl.1 rfl (Nat.le_of_ble_eq_true rfl) dX8_wish_16 (fun H locs hw => ?_)
    refine b_eq (tgt := 33) S dX8_wish_19 (by decide) (fun c2 => ?_) (fun c2 => ?_)
    · refine lv_bipush (v := (-2)) S.1 S.2.1 dX8_wish_33 (by decide) ?_
      exact m_reti S hr hlocks hw dX8_wish_35 (Dec1.yes c1 (Dec1.no (and_f1 c2) ⟨rfl, rfl⟩))
    · refine lv_iload S.1 S.2.1 dX8_wish_22 (lv_at hl 4 rfl) ?_
      refine lv_iconst (v := nI 0) S.1 S.2.1 dX8_wish_24 (by decide) ?_
      refine lv_ldc (v := nI 100000) S.1 S.2.1 S.2.2.2.1 (S.2.2.2.2 _ wv_X8_134) dX8_wish_25 ?_
      refine r_SI (As := [.int v, .int (nI 0), .int (nI 100000)]) (rest := []) S hw (c_X8_in l G N K ad M v (nI 0) (nI 100000)) mf_X8_in wm_X8_104 ⟨by decide, by decide⟩ ⟨Nat.le_refl _, Nat.le_refl _⟩ hl.1 rfl (Nat.le_of_ble_eq_true rfl) dX8_wish_27 (fun H locs hw => ?_)
      refine b_ne (tgt := 36) S dX8_wish_30 (by decide) (fun c3 => ?_) (fun c3 => ?_)
      · refine lv_aload_n S.1 S.2.1 dX8_wish_36 rfl (lv_at hl 0 rfl) ?_
        refine m_getI 34 26 S hw (by omega) rfl rfl rfl in_X8 (by decide) wf_X8_111 dX8_wish_37 ?_
        refine m_top (show M 34 26 = nI Wn from hWn) ?_
        refine lv_bipush (v := nI 20) S.1 S.2.1 dX8_wish_40 (by decide) ?_
        refine n_ne (tgt := 48) S (by omega) (by omega) dX8_wish_42 (by decide) (fun c4 => ?_) (fun c4 => ?_)
        · refine lv_aload_n S.1 S.2.1 dX8_wish_48 rfl (lv_at hl 0 rfl) ?_
          refine m_getR 34 27 55 S hw (by omega) rfl rfl rfl in_X8 (by decide) wf_X8_81 dX8_wish_49 ?_
          refine lv_aload_n S.1 S.2.1 dX8_wish_52 rfl (lv_at hl 0 rfl) ?_
          refine m_getI 34 26 S hw (by omega) rfl rfl rfl in_X8 (by decide) wf_X8_111 dX8_wish_53 ?_
          refine m_top (show M 34 26 = nI Wn from hWn) ?_
          refine lv_bipush (v := nI 8) S.1 S.2.1 dX8_wish_56 (by decide) ?_
          refine lv_iload_n S.1 S.2.1 dX8_wish_58 rfl (lv_at hl 1 rfl) ?_
          refine m_top (show x = nI a from ea) ?_
          refine lv_imul S.1 S.2.1 dX8_wish_59 ?_
          refine m_top (show (nI 8) * (nI a) = nI (a * 8) from by rw [pk_mul, Nat.mul_comm]) ?_
          refine lv_iload_n S.1 S.2.1 dX8_wish_60 rfl (lv_at hl 2 rfl) ?_
          refine m_top (show y = nI b from eb) ?_
          refine lv_iadd S.1 S.2.1 dX8_wish_61 ?_
          refine m_top (show (nI (a * 8)) + (nI b) = nI (a * 8 + b) from nI_add _ _) ?_
          refine n_ast 55 Wn S hw (by omega) rfl (by decide) (by omega) rfl dX8_wish_62 (fun M5 H locs eM5 hw => ?_)
          refine lv_aload_n S.1 S.2.1 dX8_wish_63 rfl (lv_at hl 0 rfl) ?_
          refine m_getR 34 28 56 S hw (by omega) rfl rfl rfl in_X8 (by decide) wf_X8_84 dX8_wish_64 ?_
          refine lv_aload_n S.1 S.2.1 dX8_wish_67 rfl (lv_at hl 0 rfl) ?_
          refine m_getI 34 26 S hw (by omega) rfl rfl rfl in_X8 (by decide) wf_X8_111 dX8_wish_68 ?_
          have hq6 : M5 34 = M 34 := by rw [eM5, va_up_ne _ _ (by omega)]
          refine m_top (show M5 34 26 = M 34 26 from congrFun hq6 26) ?_
          refine m_top (show M 34 26 = nI Wn from hWn) ?_
          refine lv_iload_n S.1 S.2.1 dX8_wish_71 rfl (lv_at hl 3 rfl) ?_
          refine n_ast 56 Wn S hw (by omega) rfl (by decide) (by omega) rfl dX8_wish_72 (fun M7 H locs eM7 hw => ?_)
          refine lv_aload_n S.1 S.2.1 dX8_wish_73 rfl (lv_at hl 0 rfl) ?_
          refine m_getR 34 29 57 S hw (by omega) rfl rfl rfl in_X8 (by decide) wf_X8_87 dX8_wish_74 ?_
          refine lv_aload_n S.1 S.2.1 dX8_wish_77 rfl (lv_at hl 0 rfl) ?_
          refine m_getI 34 26 S hw (by omega) rfl rfl rfl in_X8 (by decide) wf_X8_111 dX8_wish_78 ?_
          have hq8 : M7 34 = M 34 := by rw [eM7, va_up_ne _ _ (by omega), hq6]
          refine m_top (show M7 34 26 = M 34 26 from congrFun hq8 26) ?_
          refine m_top (show M 34 26 = nI Wn from hWn) ?_
          refine lv_iload S.1 S.2.1 dX8_wish_81 (lv_at hl 4 rfl) ?_
          refine n_ast 57 Wn S hw (by omega) rfl (by decide) (by omega) rfl dX8_wish_83 (fun M9 H locs eM9 hw => ?_)
          refine lv_aload_n S.1 S.2.1 dX8_wish_84 rfl (lv_at hl 0 rfl) ?_
          refine m_getR 34 30 58 S hw (by omega) rfl rfl rfl in_X8 (by decide) wf_X8_90 dX8_wish_85 ?_
          refine lv_aload_n S.1 S.2.1 dX8_wish_88 rfl (lv_at hl 0 rfl) ?_
          refine m_getI 34 26 S hw (by omega) rfl rfl rfl in_X8 (by decide) wf_X8_111 dX8_wish_89 ?_
          have hq10 : M9 34 = M 34 := by rw [eM9, va_up_ne _ _ (by omega), hq8]
          refine m_top (show M9 34 26 = M 34 26 from congrFun hq10 26) ?_
          refine m_top (show M 34 26 = nI Wn from hWn) ?_
          refine lv_aload_n S.1 S.2.1 dX8_wish_92 rfl (lv_at hl 0 rfl) ?_
          refine m_getR 34 19 50 S hw (by omega) rfl rfl rfl in_X8 (by decide) wf_X8_66 dX8_wish_93 ?_
          refine lv_bipush (v := nI 8) S.1 S.2.1 dX8_wish_96 (by decide) ?_
          refine lv_iload_n S.1 S.2.1 dX8_wish_98 rfl (lv_at hl 1 rfl) ?_
          refine m_top (show x = nI a from ea) ?_
          refine lv_imul S.1 S.2.1 dX8_wish_99 ?_
          refine m_top (show (nI 8) * (nI a) = nI (a * 8) from by rw [pk_mul, Nat.mul_comm]) ?_
          refine lv_iload_n S.1 S.2.1 dX8_wish_100 rfl (lv_at hl 2 rfl) ?_
          refine m_top (show y = nI b from eb) ?_
          refine lv_iadd S.1 S.2.1 dX8_wish_101 ?_
          refine m_top (show (nI (a * 8)) + (nI b) = nI (a * 8 + b) from nI_add _ _) ?_
          refine m_ald 50 (a * 8 + b) S hw (by omega) rfl (by decide) (by omega) rfl dX8_wish_102 ?_
          have hq11 : M5 50 = M 50 := by rw [eM5, va_up_ne _ _ (by omega)]
          have hq12 : M7 50 = M 50 := by rw [eM7, va_up_ne _ _ (by omega), hq11]
          have hq13 : M9 50 = M 50 := by rw [eM9, va_up_ne _ _ (by omega), hq12]
          refine m_top (show M9 50 (a * 8 + b) = M 50 (a * 8 + b) from congrFun hq13 (a * 8 + b)) ?_
          refine n_ast 58 Wn S hw (by omega) rfl (by decide) (by omega) rfl dX8_wish_103 (fun M14 H locs eM14 hw => ?_)
          refine lv_aload_n S.1 S.2.1 dX8_wish_104 rfl (lv_at hl 0 rfl) ?_
          refine m_getR 34 31 59 S hw (by omega) rfl rfl rfl in_X8 (by decide) wf_X8_93 dX8_wish_105 ?_
          refine lv_aload_n S.1 S.2.1 dX8_wish_108 rfl (lv_at hl 0 rfl) ?_
          refine m_getI 34 26 S hw (by omega) rfl rfl rfl in_X8 (by decide) wf_X8_111 dX8_wish_109 ?_
          have hq15 : M14 34 = M 34 := by rw [eM14, va_up_ne _ _ (by omega), hq10]
          refine m_top (show M14 34 26 = M 34 26 from congrFun hq15 26) ?_
          refine m_top (show M 34 26 = nI Wn from hWn) ?_
          refine lv_iconst (v := (-1)) S.1 S.2.1 dX8_wish_112 (by decide) ?_
          refine n_ast 59 Wn S hw (by omega) rfl (by decide) (by omega) rfl dX8_wish_113 (fun M16 H locs eM16 hw => ?_)
          refine lv_aload_n S.1 S.2.1 dX8_wish_114 rfl (lv_at hl 0 rfl) ?_
          refine lv_dup S.1 S.2.1 dX8_wish_115 rfl ?_
          refine m_getI 34 26 S hw (by omega) rfl rfl rfl in_X8 (by decide) wf_X8_111 dX8_wish_116 ?_
          have hq17 : M16 34 = M 34 := by rw [eM16, va_up_ne _ _ (by omega), hq15]
          refine m_top (show M16 34 26 = M 34 26 from congrFun hq17 26) ?_
          refine m_top (show M 34 26 = nI Wn from hWn) ?_
          refine lv_iconst (v := nI 1) S.1 S.2.1 dX8_wish_119 (by decide) ?_
          refine lv_iadd S.1 S.2.1 dX8_wish_120 ?_
          refine m_top (show (nI Wn) + (nI 1) = nI (Wn + 1) from nI_add _ _) ?_
          refine n_putI 34 26 S hw (by omega) rfl rfl rfl in_X8 tyX8_ok nmX8 (by decide) rfl rfl wf_X8_111 dX8_wish_121 (fun M18 H locs eM18 hw => ?_)
          refine lv_aload_n S.1 S.2.1 dX8_wish_124 rfl (lv_at hl 0 rfl) ?_
          refine lv_iconst (v := nI 0) S.1 S.2.1 dX8_wish_125 (by decide) ?_
          refine n_putI 34 33 S hw (by omega) rfl rfl rfl in_X8 tyX8_ok nmX8 (by decide) rfl rfl wf_X8_120 dX8_wish_126 (fun M19 H locs eM19 hw => ?_)
          refine lv_aload_n S.1 S.2.1 dX8_wish_129 rfl (lv_at hl 0 rfl) ?_
          refine m_getI 34 26 S hw (by omega) rfl rfl rfl in_X8 (by decide) wf_X8_111 dX8_wish_130 ?_
          have hq20 : M18 34 = upd (M 34) 26 (nI (Wn + 1)) := by rw [eM18, va_up_self, hq17]
          have hq21 : M19 34 = upd (upd (M 34) 26 (nI (Wn + 1))) 33 (nI 0) := by rw [eM19, va_up_self, hq20]
          refine m_top (show M19 34 26 = (upd (upd (M 34) 26 (nI (Wn + 1))) 33 (nI 0)) 26 from congrFun hq21 26) ?_
          refine m_top (show (upd (upd (M 34) 26 (nI (Wn + 1))) 33 (nI 0)) 26 = nI (Wn + 1) from ((pk_un (by decide)).trans pk_us)) ?_
          refine lv_iconst (v := nI 1) S.1 S.2.1 dX8_wish_133 (by decide) ?_
          refine lv_isub S.1 S.2.1 dX8_wish_134 ?_
          refine m_top (show (nI (Wn + 1)) - (nI 1) = nI Wn from nI_pred _) ?_
          have hq22 : M5 55 = upd (M 55) Wn (nI (a * 8 + b)) := by rw [eM5, va_up_self]
          have hq23 : M7 55 = upd (M 55) Wn (nI (a * 8 + b)) := by rw [eM7, va_up_ne _ _ (by omega), hq22]
          have hq24 : M9 55 = upd (M 55) Wn (nI (a * 8 + b)) := by rw [eM9, va_up_ne _ _ (by omega), hq23]
          have hq25 : M14 55 = upd (M 55) Wn (nI (a * 8 + b)) := by rw [eM14, va_up_ne _ _ (by omega), hq24]
          have hq26 : M16 55 = upd (M 55) Wn (nI (a * 8 + b)) := by rw [eM16, va_up_ne _ _ (by omega), hq25]
          have hq27 : M18 55 = upd (M 55) Wn (nI (a * 8 + b)) := by rw [eM18, va_up_ne _ _ (by omega), hq26]
          have hq28 : M19 55 = upd (M 55) Wn (nI (a * 8 + b)) := by rw [eM19, va_up_ne _ _ (by omega), hq27]
          have hq29 : M5 56 = M 56 := by rw [eM5, va_up_ne _ _ (by omega)]
          have hq30 : M7 56 = upd (M 56) Wn u := by rw [eM7, va_up_self, hq29]
          have hq31 : M9 56 = upd (M 56) Wn u := by rw [eM9, va_up_ne _ _ (by omega), hq30]
          have hq32 : M14 56 = upd (M 56) Wn u := by rw [eM14, va_up_ne _ _ (by omega), hq31]
          have hq33 : M16 56 = upd (M 56) Wn u := by rw [eM16, va_up_ne _ _ (by omega), hq32]
          have hq34 : M18 56 = upd (M 56) Wn u := by rw [eM18, va_up_ne _ _ (by omega), hq33]
          have hq35 : M19 56 = upd (M 56) Wn u := by rw [eM19, va_up_ne _ _ (by omega), hq34]
          have hq36 : M5 57 = M 57 := by rw [eM5, va_up_ne _ _ (by omega)]
          have hq37 : M7 57 = M 57 := by rw [eM7, va_up_ne _ _ (by omega), hq36]
          have hq38 : M9 57 = upd (M 57) Wn v := by rw [eM9, va_up_self, hq37]
          have hq39 : M14 57 = upd (M 57) Wn v := by rw [eM14, va_up_ne _ _ (by omega), hq38]
          have hq40 : M16 57 = upd (M 57) Wn v := by rw [eM16, va_up_ne _ _ (by omega), hq39]
          have hq41 : M18 57 = upd (M 57) Wn v := by rw [eM18, va_up_ne _ _ (by omega), hq40]
          have hq42 : M19 57 = upd (M 57) Wn v := by rw [eM19, va_up_ne _ _ (by omega), hq41]
          have hq43 : M5 58 = M 58 := by rw [eM5, va_up_ne _ _ (by omega)]
          have hq44 : M7 58 = M 58 := by rw [eM7, va_up_ne _ _ (by omega), hq43]
          have hq45 : M9 58 = M 58 := by rw [eM9, va_up_ne _ _ (by omega), hq44]
          have hq46 : M14 58 = upd (M 58) Wn (M 50 (a * 8 + b)) := by rw [eM14, va_up_self, hq45]
          have hq47 : M16 58 = upd (M 58) Wn (M 50 (a * 8 + b)) := by rw [eM16, va_up_ne _ _ (by omega), hq46]
          have hq48 : M18 58 = upd (M 58) Wn (M 50 (a * 8 + b)) := by rw [eM18, va_up_ne _ _ (by omega), hq47]
          have hq49 : M19 58 = upd (M 58) Wn (M 50 (a * 8 + b)) := by rw [eM19, va_up_ne _ _ (by omega), hq48]
          have hq50 : M5 59 = M 59 := by rw [eM5, va_up_ne _ _ (by omega)]
          have hq51 : M7 59 = M 59 := by rw [eM7, va_up_ne _ _ (by omega), hq50]
          have hq52 : M9 59 = M 59 := by rw [eM9, va_up_ne _ _ (by omega), hq51]
          have hq53 : M14 59 = M 59 := by rw [eM14, va_up_ne _ _ (by omega), hq52]
          have hq54 : M16 59 = upd (M 59) Wn (-1) := by rw [eM16, va_up_self, hq53]
          have hq55 : M18 59 = upd (M 59) Wn (-1) := by rw [eM18, va_up_ne _ _ (by omega), hq54]
          have hq56 : M19 59 = upd (M 59) Wn (-1) := by rw [eM19, va_up_ne _ _ (by omega), hq55]
          exact m_reti S hr hlocks hw dX8_wish_135 (Dec1.yes c1 (Dec1.yes (and_t c2 ((wi_upto v (by decide)).symm.trans c3)) (Dec1.yes (decide_eq_true (by omega)) (by rw [ta, tb]; exact ⟨rfl, hq21, hq28, hq35, hq42, hq49, hq56, (fun k hk => ((show M19 k = M18 k by rw [eM19]; exact va_up_ne _ _ (by omega)).trans ((show M18 k = M16 k by rw [eM18]; exact va_up_ne _ _ (by omega)).trans ((show M16 k = M14 k by rw [eM16]; exact va_up_ne _ _ (by omega)).trans ((show M14 k = M9 k by rw [eM14]; exact va_up_ne _ _ (by omega)).trans ((show M9 k = M7 k by rw [eM9]; exact va_up_ne _ _ (by omega)).trans ((show M7 k = M5 k by rw [eM7]; exact va_up_ne _ _ (by omega)).trans (show M5 k = M k by rw [eM5]; exact va_up_ne _ _ (by omega)))))))))⟩))))
        · refine lv_bipush (v := (-4)) S.1 S.2.1 dX8_wish_45 (by decide) ?_
          exact m_reti S hr hlocks hw dX8_wish_47 (Dec1.yes c1 (Dec1.yes (and_t c2 ((wi_upto v (by decide)).symm.trans c3)) (Dec1.no (decide_eq_false (by omega)) ⟨rfl, rfl⟩)))
      · refine lv_bipush (v := (-2)) S.1 S.2.1 dX8_wish_33 (by decide) ?_
        exact m_reti S hr hlocks hw dX8_wish_35 (Dec1.yes c1 (Dec1.no (and_f2 ((wi_upto v (by decide)).symm.trans c3)) ⟨rfl, rfl⟩))
  · refine lv_iconst (v := (-1)) S.1 S.2.1 dX8_wish_9 (by decide) ?_
    exact m_reti S hr hlocks hw dX8_wish_10 (Dec1.no c1 ⟨rfl, rfl⟩)

theorem blk_0 {f : Nat → Int32} {x : Int32} {b : Nat} : f = fun t => if b ≤ t ∧ t < b + 0 then x else f t := by
  funext t
  exact (if_neg (by omega)).symm
theorem blk_s {f : Nat → Int32} {x : Int32} {b i : Nat} : upd (fun t => if b ≤ t ∧ t < b + i then x else f t) (b + i) x = fun t => if b ≤ t ∧ t < b + (i + 1) then x else f t := by
  funext t
  by_cases e : t = b + i
  · subst e
    rw [pk_us, if_pos (by omega)]
  · rw [pk_un e]
    by_cases c : b ≤ t ∧ t < b + i
    · rw [if_pos c, if_pos (by omega)]
    · rw [if_neg c, if_neg (by omega)]

set_option maxHeartbeats 4000000 in
set_option maxRecDepth 100000 in
/-- reference: door -/
theorem c_X8_door (l : Launch) (G : GT) (N K : Nat) (ad : Nat → Nat) (M : Mem) (h61 : 61 ≤ N) (D : Nat) (hD : M 34 10 = nI D) (hD6 : D ≤ 6) (n : Nat) (hn : M 34 1 = nI n) (hn1 : n ≤ 120) (x : Int32) : CmI l G N K ad yX8_door cX8_door 3 .int 1 22 [.ref (ad 34), .int x] M (fun r M1 => Dec1 (inB x (n + 1)) (r = -2 ∧ M1 = M) (Dec1 (!anyB (fun d => eqB (M 42 d) x) D) (r = -3 ∧ M1 = M) (Dec1 (decide (D < 6)) (r = -4 ∧ M1 = M) (r = nI D ∧ M1 34 = (upd (upd (M 34) 10 (nI (D + 1))) 33 (nI 0)) ∧ M1 42 = (upd (M 42) D x) ∧ M1 43 = (upd (M 43) D (nI 10)) ∧ M1 44 = (upd (M 44) D (nI 0)) ∧ M1 45 = (fun t => if D * 8 ≤ t ∧ t < D * 8 + 8 then nI 0 else M 45 t) ∧ (∀ k, k ≠ 34 ∧ k ≠ 42 ∧ k ≠ 43 ∧ k ≠ 44 ∧ k ≠ 45 → M1 k = M k))))) := by
  refine cm_startI (by decide +kernel) (Nat.le_of_ble_eq_true rfl) ?_
  intro p e s m below meth c ls S hr hlocks hw hl
  have hl : lv_has ls 3 [(0, .ref (ad 34)), (1, .int x)] := hl
  generalize hAv : List.toArray ([.ref (ad 34), .int x] : List Value) = A at S ⊢
  have loop2 : ∀ (n' : Nat) (i : Nat), i + n' = 8 → inB x (n + 1) = true → anyB (fun d => eqB (M 42 d) x) D = false → D < 6 → ∀ (M2 : Mem) (H : Heap) (locs : List Loc) (ls : Array Slot), (M2 45 = (fun t => if D * 8 ≤ t ∧ t < D * 8 + i then nI 0 else M 45 t) ∧ M2 42 = upd (M 42) D x ∧ M2 43 = upd (M 43) D (nI 10) ∧ M2 44 = upd (M 44) D (nI 0) ∧ (∀ k, k ≠ 42 ∧ k ≠ 43 ∧ k ≠ 44 ∧ k ≠ 45 → M2 k = M k)) → Wd G N K ad M2 s H locs → lv_has ls 3 [(0, .ref (ad 34)), (1, .int x), (2, .int (nI i))] → W p l e { frames := 1, cells := 0, slots := 0, locals := 22 } s m A below meth c H locs 0 0 (QmI G N K ad (fun r M1 => Dec1 (inB x (n + 1)) (r = -2 ∧ M1 = M) (Dec1 (!anyB (fun d => eqB (M 42 d) x) D) (r = -3 ∧ M1 = M) (Dec1 (decide (D < 6)) (r = -4 ∧ M1 = M) (r = nI D ∧ M1 34 = (upd (upd (M 34) 10 (nI (D + 1))) 33 (nI 0)) ∧ M1 42 = (upd (M 42) D x) ∧ M1 43 = (upd (M 43) D (nI 10)) ∧ M1 44 = (upd (M 44) D (nI 0)) ∧ M1 45 = (fun t => if D * 8 ≤ t ∧ t < D * 8 + 8 then nI 0 else M 45 t) ∧ (∀ k, k ≠ 34 ∧ k ≠ 42 ∧ k ≠ 43 ∧ k ≠ 44 ∧ k ≠ 45 → M1 k = M k))))) below A s) (F0 m 89 ls []) := by
    intro n'
    induction n' with
    | zero =>
      intro i hi hc1 hc2 hD5 M2 H locs ls hv hw hl
      obtain ⟨i45, i42, i43, i44, ifr⟩ := hv
      have hD2 : M2 34 10 = nI D := (congrFun (ifr 34 (by omega)) 10).trans hD
      refine lv_iload_n S.1 S.2.1 dX8_door_89 rfl (lv_at hl 2 rfl) ?_
      refine lv_bipush (v := nI 8) S.1 S.2.1 dX8_door_90 (by decide) ?_
      refine n_ge (tgt := 116) S (by omega) (by omega) dX8_door_92 (by decide) (fun c21 => ?_) (fun c21 => absurd c21 (by omega))
      refine lv_aload_n S.1 S.2.1 dX8_door_116 rfl (lv_at hl 0 rfl) ?_
      refine lv_dup S.1 S.2.1 dX8_door_117 rfl ?_
      refine m_getI 34 10 S hw (by omega) rfl rfl rfl in_X8 (by decide) wf_X8_108 dX8_door_118 ?_
      refine m_top (show M2 34 10 = nI D from hD2) ?_
      refine lv_iconst (v := nI 1) S.1 S.2.1 dX8_door_121 (by decide) ?_
      refine lv_iadd S.1 S.2.1 dX8_door_122 ?_
      refine m_top (show (nI D) + (nI 1) = nI (D + 1) from nI_add _ _) ?_
      refine n_putI 34 10 S hw (by omega) rfl rfl rfl in_X8 tyX8_ok nmX8 (by decide) rfl rfl wf_X8_108 dX8_door_123 (fun M22 H locs eM22 hw => ?_)
      refine lv_aload_n S.1 S.2.1 dX8_door_126 rfl (lv_at hl 0 rfl) ?_
      refine lv_iconst (v := nI 0) S.1 S.2.1 dX8_door_127 (by decide) ?_
      refine n_putI 34 33 S hw (by omega) rfl rfl rfl in_X8 tyX8_ok nmX8 (by decide) rfl rfl wf_X8_120 dX8_door_128 (fun M23 H locs eM23 hw => ?_)
      refine lv_aload_n S.1 S.2.1 dX8_door_131 rfl (lv_at hl 0 rfl) ?_
      refine m_getI 34 10 S hw (by omega) rfl rfl rfl in_X8 (by decide) wf_X8_108 dX8_door_132 ?_
      have hq24 : M22 34 = upd (M2 34) 10 (nI (D + 1)) := by rw [eM22, va_up_self]
      have hq25 : M23 34 = upd (upd (M2 34) 10 (nI (D + 1))) 33 (nI 0) := by rw [eM23, va_up_self, hq24]
      refine m_top (show M23 34 10 = (upd (upd (M2 34) 10 (nI (D + 1))) 33 (nI 0)) 10 from congrFun hq25 10) ?_
      refine m_top (show (upd (upd (M2 34) 10 (nI (D + 1))) 33 (nI 0)) 10 = nI (D + 1) from ((pk_un (by decide)).trans pk_us)) ?_
      refine lv_iconst (v := nI 1) S.1 S.2.1 dX8_door_135 (by decide) ?_
      refine lv_isub S.1 S.2.1 dX8_door_136 ?_
      refine m_top (show (nI (D + 1)) - (nI 1) = nI D from nI_pred _) ?_
      have hq26 : M22 42 = M2 42 := by rw [eM22, va_up_ne _ _ (by omega)]
      have hq27 : M23 42 = M2 42 := by rw [eM23, va_up_ne _ _ (by omega), hq26]
      have hq28 : M22 43 = M2 43 := by rw [eM22, va_up_ne _ _ (by omega)]
      have hq29 : M23 43 = M2 43 := by rw [eM23, va_up_ne _ _ (by omega), hq28]
      have hq30 : M22 44 = M2 44 := by rw [eM22, va_up_ne _ _ (by omega)]
      have hq31 : M23 44 = M2 44 := by rw [eM23, va_up_ne _ _ (by omega), hq30]
      have hq32 : M22 45 = M2 45 := by rw [eM22, va_up_ne _ _ (by omega)]
      have hq33 : M23 45 = M2 45 := by rw [eM23, va_up_ne _ _ (by omega), hq32]
      exact m_reti S hr hlocks hw dX8_door_137 (Dec1.yes hc1 (Dec1.yes (by rw [hc2]; rfl) (Dec1.yes (decide_eq_true hD5) ⟨rfl, hq25.trans (by rw [ifr 34 (by omega)]), hq27.trans i42, hq29.trans i43, hq31.trans i44, hq33.trans (by rw [i45, show i = 8 by omega]), fun k hk => ((show M23 k = M22 k by rw [eM23]; exact va_up_ne _ _ (by omega)).trans (show M22 k = M2 k by rw [eM22]; exact va_up_ne _ _ (by omega))).trans (ifr k (by omega))⟩)))
    | succ n' ih =>
      intro i hi hc1 hc2 hD5 M2 H locs ls hv hw hl
      obtain ⟨i45, i42, i43, i44, ifr⟩ := hv
      have hD2 : M2 34 10 = nI D := (congrFun (ifr 34 (by omega)) 10).trans hD
      refine lv_iload_n S.1 S.2.1 dX8_door_89 rfl (lv_at hl 2 rfl) ?_
      refine lv_bipush (v := nI 8) S.1 S.2.1 dX8_door_90 (by decide) ?_
      refine n_ge (tgt := 116) S (by omega) (by omega) dX8_door_92 (by decide) (fun c21 => absurd c21 (by omega)) (fun c21 => ?_)
      refine lv_aload_n S.1 S.2.1 dX8_door_95 rfl (lv_at hl 0 rfl) ?_
      refine m_getR 34 14 45 S hw (by omega) rfl rfl rfl in_X8 (by decide) wf_X8_50 dX8_door_96 ?_
      refine lv_bipush (v := nI 8) S.1 S.2.1 dX8_door_99 (by decide) ?_
      refine lv_aload_n S.1 S.2.1 dX8_door_101 rfl (lv_at hl 0 rfl) ?_
      refine m_getI 34 10 S hw (by omega) rfl rfl rfl in_X8 (by decide) wf_X8_108 dX8_door_102 ?_
      refine m_top (show M2 34 10 = nI D from hD2) ?_
      refine lv_imul S.1 S.2.1 dX8_door_105 ?_
      refine m_top (show (nI 8) * (nI D) = nI (D * 8) from by rw [pk_mul, Nat.mul_comm]) ?_
      refine lv_iload_n S.1 S.2.1 dX8_door_106 rfl (lv_at hl 2 rfl) ?_
      refine lv_iadd S.1 S.2.1 dX8_door_107 ?_
      refine m_top (show (nI (D * 8)) + (nI i) = nI (D * 8 + i) from nI_add _ _) ?_
      refine lv_iconst (v := nI 0) S.1 S.2.1 dX8_door_108 (by decide) ?_
      refine n_zst 45 (D * 8 + i) S hw (by omega) rfl (by decide) (by omega) rfl rfl dX8_door_109 (fun M22 H locs eM22 hw => ?_)
      refine lv_iinc (v := nI (i + 1)) (lv' := [(2, .int (nI (i + 1))), (0, .ref (ad 34)), (1, .int x)]) S.1 S.2.1 dX8_door_110 hl (k := 2) rfl (iinc1 _) (by decide) rfl (fun ls hl => ?_)
      refine lv_goto (tgt := 89) S.1 S.2.1 dX8_door_113 (by decide) ?_
      have hq23 : M22 42 = M2 42 := by rw [eM22, va_up_ne _ _ (by omega)]
      have hq24 : M22 43 = M2 43 := by rw [eM22, va_up_ne _ _ (by omega)]
      have hq25 : M22 44 = M2 44 := by rw [eM22, va_up_ne _ _ (by omega)]
      have hq26 : M22 45 = upd (M2 45) (D * 8 + i) (nI 0) := by rw [eM22, va_up_self]
      exact ih (i + 1) (by omega) hc1 hc2 hD5 _ _ _ ls ⟨hq26.trans (by rw [i45]; exact blk_s), hq23.trans i42, hq24.trans i43, hq25.trans i44, fun k hk => (show M22 k = M2 k by rw [eM22]; exact va_up_ne _ _ (by omega)).trans (ifr k hk)⟩ hw (lv_sub hl [1, 2, 0] rfl)
  have loop1 : ∀ (n' : Nat) (i : Nat), i + n' = D → inB x (n + 1) = true → (∀ k, k < i → eqB (M 42 k) x = false) → ∀ (H : Heap) (locs : List Loc) (ls : Array Slot), Wd G N K ad M s H locs → lv_has ls 3 [(0, .ref (ad 34)), (1, .int x), (2, .int (nI i))] → W p l e { frames := 1, cells := 0, slots := 0, locals := 22 } s m A below meth c H locs 0 0 (QmI G N K ad (fun r M1 => Dec1 (inB x (n + 1)) (r = -2 ∧ M1 = M) (Dec1 (!anyB (fun d => eqB (M 42 d) x) D) (r = -3 ∧ M1 = M) (Dec1 (decide (D < 6)) (r = -4 ∧ M1 = M) (r = nI D ∧ M1 34 = (upd (upd (M 34) 10 (nI (D + 1))) 33 (nI 0)) ∧ M1 42 = (upd (M 42) D x) ∧ M1 43 = (upd (M 43) D (nI 10)) ∧ M1 44 = (upd (M 44) D (nI 0)) ∧ M1 45 = (fun t => if D * 8 ≤ t ∧ t < D * 8 + 8 then nI 0 else M 45 t) ∧ (∀ k, k ≠ 34 ∧ k ≠ 42 ∧ k ≠ 43 ∧ k ≠ 44 ∧ k ≠ 45 → M1 k = M k))))) below A s) (F0 m 17 ls []) := by
    intro n'
    induction n' with
    | zero =>
      intro i hi hc1 hno H locs ls hw hl
      have hc2 : anyB (fun d => eqB (M 42 d) x) D = false := anyB_f (fun k hk => hno k (by omega))
      refine lv_iload_n S.1 S.2.1 dX8_door_17 rfl (lv_at hl 2 rfl) ?_
      refine lv_aload_n S.1 S.2.1 dX8_door_18 rfl (lv_at hl 0 rfl) ?_
      refine m_getI 34 10 S hw (by omega) rfl rfl rfl in_X8 (by decide) wf_X8_108 dX8_door_19 ?_
      refine m_top (show M 34 10 = nI D from hD) ?_
      refine n_ge (tgt := 44) S (by omega) (by omega) dX8_door_22 (by decide) (fun c21 => ?_) (fun c21 => absurd c21 (by omega))
      refine lv_aload_n S.1 S.2.1 dX8_door_44 rfl (lv_at hl 0 rfl) ?_
      refine m_getI 34 10 S hw (by omega) rfl rfl rfl in_X8 (by decide) wf_X8_108 dX8_door_45 ?_
      refine m_top (show M 34 10 = nI D from hD) ?_
      refine lv_bipush (v := nI 6) S.1 S.2.1 dX8_door_48 (by decide) ?_
      refine n_ne (tgt := 56) S (by omega) (by omega) dX8_door_50 (by decide) (fun c22 => ?_) (fun c22 => ?_)
      · refine lv_aload_n S.1 S.2.1 dX8_door_56 rfl (lv_at hl 0 rfl) ?_
        refine m_getR 34 11 42 S hw (by omega) rfl rfl rfl in_X8 (by decide) wf_X8_41 dX8_door_57 ?_
        refine lv_aload_n S.1 S.2.1 dX8_door_60 rfl (lv_at hl 0 rfl) ?_
        refine m_getI 34 10 S hw (by omega) rfl rfl rfl in_X8 (by decide) wf_X8_108 dX8_door_61 ?_
        refine m_top (show M 34 10 = nI D from hD) ?_
        refine lv_iload_n S.1 S.2.1 dX8_door_64 rfl (lv_at hl 1 rfl) ?_
        refine n_ast 42 D S hw (by omega) rfl (by decide) (by omega) rfl dX8_door_65 (fun M23 H locs eM23 hw => ?_)
        refine lv_aload_n S.1 S.2.1 dX8_door_66 rfl (lv_at hl 0 rfl) ?_
        refine m_getR 34 12 43 S hw (by omega) rfl rfl rfl in_X8 (by decide) wf_X8_44 dX8_door_67 ?_
        refine lv_aload_n S.1 S.2.1 dX8_door_70 rfl (lv_at hl 0 rfl) ?_
        refine m_getI 34 10 S hw (by omega) rfl rfl rfl in_X8 (by decide) wf_X8_108 dX8_door_71 ?_
        have hq24 : M23 34 = M 34 := by rw [eM23, va_up_ne _ _ (by omega)]
        refine m_top (show M23 34 10 = M 34 10 from congrFun hq24 10) ?_
        refine m_top (show M 34 10 = nI D from hD) ?_
        refine lv_bipush (v := nI 10) S.1 S.2.1 dX8_door_74 (by decide) ?_
        refine n_ast 43 D S hw (by omega) rfl (by decide) (by omega) rfl dX8_door_76 (fun M25 H locs eM25 hw => ?_)
        refine lv_aload_n S.1 S.2.1 dX8_door_77 rfl (lv_at hl 0 rfl) ?_
        refine m_getR 34 13 44 S hw (by omega) rfl rfl rfl in_X8 (by decide) wf_X8_47 dX8_door_78 ?_
        refine lv_aload_n S.1 S.2.1 dX8_door_81 rfl (lv_at hl 0 rfl) ?_
        refine m_getI 34 10 S hw (by omega) rfl rfl rfl in_X8 (by decide) wf_X8_108 dX8_door_82 ?_
        have hq26 : M25 34 = M 34 := by rw [eM25, va_up_ne _ _ (by omega), hq24]
        refine m_top (show M25 34 10 = M 34 10 from congrFun hq26 10) ?_
        refine m_top (show M 34 10 = nI D from hD) ?_
        refine lv_iconst (v := nI 0) S.1 S.2.1 dX8_door_85 (by decide) ?_
        refine n_ast 44 D S hw (by omega) rfl (by decide) (by omega) rfl dX8_door_86 (fun M27 H locs eM27 hw => ?_)
        refine lv_iconst (v := nI 0) S.1 S.2.1 dX8_door_87 (by decide) ?_
        refine lv_istore_n (lv' := [(2, .int (nI 0)), (0, .ref (ad 34)), (1, .int x)]) S.1 S.2.1 dX8_door_88 rfl hl (by decide) rfl (fun ls hl => ?_)
        have hq28 : M23 42 = upd (M 42) D x := by rw [eM23, va_up_self]
        have hq29 : M25 42 = upd (M 42) D x := by rw [eM25, va_up_ne _ _ (by omega), hq28]
        have hq30 : M27 42 = upd (M 42) D x := by rw [eM27, va_up_ne _ _ (by omega), hq29]
        have hq31 : M23 43 = M 43 := by rw [eM23, va_up_ne _ _ (by omega)]
        have hq32 : M25 43 = upd (M 43) D (nI 10) := by rw [eM25, va_up_self, hq31]
        have hq33 : M27 43 = upd (M 43) D (nI 10) := by rw [eM27, va_up_ne _ _ (by omega), hq32]
        have hq34 : M23 44 = M 44 := by rw [eM23, va_up_ne _ _ (by omega)]
        have hq35 : M25 44 = M 44 := by rw [eM25, va_up_ne _ _ (by omega), hq34]
        have hq36 : M27 44 = upd (M 44) D (nI 0) := by rw [eM27, va_up_self, hq35]
        have hq37 : M23 45 = M 45 := by rw [eM23, va_up_ne _ _ (by omega)]
        have hq38 : M25 45 = M 45 := by rw [eM25, va_up_ne _ _ (by omega), hq37]
        have hq39 : M27 45 = M 45 := by rw [eM27, va_up_ne _ _ (by omega), hq38]
        exact loop2 8 0 (by omega) hc1 hc2 (by omega) _ _ _ ls ⟨hq39.trans blk_0, hq30, hq33, hq36, fun k hk => ((show M27 k = M25 k by rw [eM27]; exact va_up_ne _ _ (by omega)).trans ((show M25 k = M23 k by rw [eM25]; exact va_up_ne _ _ (by omega)).trans (show M23 k = M k by rw [eM23]; exact va_up_ne _ _ (by omega))))⟩ hw (lv_sub hl [1, 2, 0] rfl)
      · refine lv_bipush (v := (-4)) S.1 S.2.1 dX8_door_53 (by decide) ?_
        exact m_reti S hr hlocks hw dX8_door_55 (Dec1.yes hc1 (Dec1.yes (by rw [hc2]; rfl) (Dec1.no (decide_eq_false (by omega)) ⟨rfl, rfl⟩)))
    | succ n' ih =>
      intro i hi hc1 hno H locs ls hw hl
      refine lv_iload_n S.1 S.2.1 dX8_door_17 rfl (lv_at hl 2 rfl) ?_
      refine lv_aload_n S.1 S.2.1 dX8_door_18 rfl (lv_at hl 0 rfl) ?_
      refine m_getI 34 10 S hw (by omega) rfl rfl rfl in_X8 (by decide) wf_X8_108 dX8_door_19 ?_
      refine m_top (show M 34 10 = nI D from hD) ?_
      refine n_ge (tgt := 44) S (by omega) (by omega) dX8_door_22 (by decide) (fun c1 => absurd c1 (by omega)) (fun c1 => ?_)
      refine lv_aload_n S.1 S.2.1 dX8_door_25 rfl (lv_at hl 0 rfl) ?_
      refine m_getR 34 11 42 S hw (by omega) rfl rfl rfl in_X8 (by decide) wf_X8_41 dX8_door_26 ?_
      refine lv_iload_n S.1 S.2.1 dX8_door_29 rfl (lv_at hl 2 rfl) ?_
      refine m_ald 42 i S hw (by omega) rfl (by decide) (by omega) rfl dX8_door_30 ?_
      refine lv_iload_n S.1 S.2.1 dX8_door_31 rfl (lv_at hl 1 rfl) ?_
      refine lv_icmp_ne (tgt := 38) S.1 S.2.1 dX8_door_32 (by decide) (fun c2 => ?_) (fun c2 => ?_)
      · refine lv_iinc (v := nI (i + 1)) (lv' := [(2, .int (nI (i + 1))), (0, .ref (ad 34)), (1, .int x)]) S.1 S.2.1 dX8_door_38 hl (k := 2) rfl (iinc1 _) (by decide) rfl (fun ls hl => ?_)
        refine lv_goto (tgt := 17) S.1 S.2.1 dX8_door_41 (by decide) ?_
        exact ih (i + 1) (by omega) hc1 (lt_s hno (eqB_f c2)) _ _ ls hw (lv_sub hl [1, 2, 0] rfl)
      · refine lv_bipush (v := (-3)) S.1 S.2.1 dX8_door_35 (by decide) ?_
        exact m_reti S hr hlocks hw dX8_door_37 (Dec1.yes hc1 (Dec1.no (by rw [anyB_t (p := fun d => eqB (M 42 d) x) (i := i) (eqB_t c2) (by omega)]; rfl) ⟨rfl, rfl⟩))
  refine lv_iload_n S.1 S.2.1 dX8_door_0 rfl (lv_at hl 1 rfl) ?_
  refine lv_iconst (v := nI 0) S.1 S.2.1 dX8_door_1 (by decide) ?_
  refine lv_aload_n S.1 S.2.1 dX8_door_2 rfl (lv_at hl 0 rfl) ?_
  refine m_getI 34 1 S hw (by omega) rfl rfl rfl in_X8 (by decide) wf_X8_13 dX8_door_3 ?_
  refine m_top (show M 34 1 = nI n from hn) ?_
  refine r_SI (As := [.int x, .int (nI 0), .int (nI n)]) (rest := []) S hw (c_X8_in l G N K ad M x (nI 0) (nI n)) mf_X8_in wm_X8_104 ⟨by decide, by decide⟩ ⟨Nat.le_refl _, Nat.le_refl _⟩ hl.1 rfl (Nat.le_of_ble_eq_true rfl) dX8_door_6 (fun H locs hw => ?_)
  refine b_ne (tgt := 15) S dX8_door_9 (by decide) (fun c1 => ?_) (fun c1 => ?_)
  · refine lv_iconst (v := nI 0) S.1 S.2.1 dX8_door_15 (by decide) ?_
    refine lv_istore_n (lv' := [(2, .int (nI 0)), (0, .ref (ad 34)), (1, .int x)]) S.1 S.2.1 dX8_door_16 rfl hl (by decide) rfl (fun ls hl => ?_)
    exact loop1 D 0 (by omega) ((wi_upto x (by omega)).symm.trans c1) lt_0 _ _ ls hw (lv_sub hl [1, 2, 0] rfl)
  · refine lv_bipush (v := (-2)) S.1 S.2.1 dX8_door_12 (by decide) ?_
    exact m_reti S hr hlocks hw dX8_door_14 (Dec1.no ((wi_upto x (by omega)).symm.trans c1) ⟨rfl, rfl⟩)

set_option maxHeartbeats 4000000 in
set_option maxRecDepth 100000 in
/-- reference: line -/
theorem c_X8_line (l : Launch) (G : GT) (N K : Nat) (ad : Nat → Nat) (M : Mem) (h61 : 61 ≤ N) (x : Int32) : CmI l G N K ad yX8_line cX8_line 3 .int 1 22 [.ref (ad 34), .int x] M (fun r M1 => Dec1 (wi x (nI 4) (nI 120)) (r = -2 ∧ M1 = M) (r = nI 0 ∧ M1 34 1 = x ∧ M1 34 6 = nI 1 ∧ M1 34 10 = nI 0 ∧ M1 34 26 = nI 0 ∧ M1 34 24 = nI 0 ∧ M1 34 25 = nI 0 ∧ M1 34 33 = nI 0 ∧ M1 35 = (fun j => if j < 120 then nI 0 else M 35 j) ∧ M1 36 = (fun j => if j < 120 then nI 0 else M 36 j) ∧ M1 37 = (fun j => if j < 120 then (-1) else M 37 j) ∧ M1 38 = (fun j => if j < 120 then nI 0 else M 38 j) ∧ M1 39 = (upd (M 39) 0 (nI 0)) ∧ M1 40 = (upd (M 40) 0 (-1)) ∧ M1 41 = (upd (M 41) 0 (nI 0)) ∧ (∀ k, k ≠ 34 ∧ k ≠ 35 ∧ k ≠ 36 ∧ k ≠ 37 ∧ k ≠ 38 ∧ k ≠ 39 ∧ k ≠ 40 ∧ k ≠ 41 → M1 k = M k))) := by
  refine cm_startI (by decide +kernel) (Nat.le_of_ble_eq_true rfl) ?_
  intro p e s m below meth c ls S hr hlocks hw hl
  have hl : lv_has ls 3 [(0, .ref (ad 34)), (1, .int x)] := hl
  generalize hAv : List.toArray ([.ref (ad 34), .int x] : List Value) = A at S ⊢
  have loop : ∀ (n' : Nat) (i : Nat), i + n' = 120 → wi x (nI 4) (nI 120) = true → ∀ (M2 : Mem) (H : Heap) (locs : List Loc) (ls : Array Slot), (M2 34 1 = x ∧ M2 35 = (fun j => if j < i then nI 0 else M 35 j) ∧ M2 36 = (fun j => if j < i then nI 0 else M 36 j) ∧ M2 37 = (fun j => if j < i then (-1) else M 37 j) ∧ M2 38 = (fun j => if j < i then nI 0 else M 38 j) ∧ (∀ k, k ≠ 34 ∧ k ≠ 35 ∧ k ≠ 36 ∧ k ≠ 37 ∧ k ≠ 38 → M2 k = M k)) → Wd G N K ad M2 s H locs → lv_has ls 3 [(0, .ref (ad 34)), (1, .int x), (2, .int (nI i))] → W p l e { frames := 1, cells := 0, slots := 0, locals := 22 } s m A below meth c H locs 0 0 (QmI G N K ad (fun r M1 => Dec1 (wi x (nI 4) (nI 120)) (r = -2 ∧ M1 = M) (r = nI 0 ∧ M1 34 1 = x ∧ M1 34 6 = nI 1 ∧ M1 34 10 = nI 0 ∧ M1 34 26 = nI 0 ∧ M1 34 24 = nI 0 ∧ M1 34 25 = nI 0 ∧ M1 34 33 = nI 0 ∧ M1 35 = (fun j => if j < 120 then nI 0 else M 35 j) ∧ M1 36 = (fun j => if j < 120 then nI 0 else M 36 j) ∧ M1 37 = (fun j => if j < 120 then (-1) else M 37 j) ∧ M1 38 = (fun j => if j < 120 then nI 0 else M 38 j) ∧ M1 39 = (upd (M 39) 0 (nI 0)) ∧ M1 40 = (upd (M 40) 0 (-1)) ∧ M1 41 = (upd (M 41) 0 (nI 0)) ∧ (∀ k, k ≠ 34 ∧ k ≠ 35 ∧ k ≠ 36 ∧ k ≠ 37 ∧ k ≠ 38 ∧ k ≠ 39 ∧ k ≠ 40 ∧ k ≠ 41 → M1 k = M k))) below A s) (F0 m 20 ls []) := by
    intro n'
    induction n' with
    | zero =>
      intro i hi hc1 M2 H locs ls hv hw hl
      obtain ⟨i1, i35, i36, i37, i38, ifr⟩ := hv
      refine lv_iload_n S.1 S.2.1 dX8_line_20 rfl (lv_at hl 2 rfl) ?_
      refine lv_bipush (v := nI 120) S.1 S.2.1 dX8_line_21 (by decide) ?_
      refine n_ge (tgt := 60) S (by omega) (by omega) dX8_line_23 (by decide) (fun c21 => ?_) (fun c21 => absurd c21 (by omega))
      refine lv_aload_n S.1 S.2.1 dX8_line_60 rfl (lv_at hl 0 rfl) ?_
      refine lv_iconst (v := nI 1) S.1 S.2.1 dX8_line_61 (by decide) ?_
      refine n_putI 34 6 S hw (by omega) rfl rfl rfl in_X8 tyX8_ok nmX8 (by decide) rfl rfl wf_X8_29 dX8_line_62 (fun M22 H locs eM22 hw => ?_)
      refine lv_aload_n S.1 S.2.1 dX8_line_65 rfl (lv_at hl 0 rfl) ?_
      refine m_getR 34 7 39 S hw (by omega) rfl rfl rfl in_X8 (by decide) wf_X8_32 dX8_line_66 ?_
      refine lv_iconst (v := nI 0) S.1 S.2.1 dX8_line_69 (by decide) ?_
      refine lv_iconst (v := nI 0) S.1 S.2.1 dX8_line_70 (by decide) ?_
      refine n_ast 39 0 S hw (by omega) rfl (by decide) (by omega) rfl dX8_line_71 (fun M23 H locs eM23 hw => ?_)
      refine lv_aload_n S.1 S.2.1 dX8_line_72 rfl (lv_at hl 0 rfl) ?_
      refine m_getR 34 8 40 S hw (by omega) rfl rfl rfl in_X8 (by decide) wf_X8_35 dX8_line_73 ?_
      refine lv_iconst (v := nI 0) S.1 S.2.1 dX8_line_76 (by decide) ?_
      refine lv_iconst (v := (-1)) S.1 S.2.1 dX8_line_77 (by decide) ?_
      refine n_ast 40 0 S hw (by omega) rfl (by decide) (by omega) rfl dX8_line_78 (fun M24 H locs eM24 hw => ?_)
      refine lv_aload_n S.1 S.2.1 dX8_line_79 rfl (lv_at hl 0 rfl) ?_
      refine m_getR 34 9 41 S hw (by omega) rfl rfl rfl in_X8 (by decide) wf_X8_38 dX8_line_80 ?_
      refine lv_iconst (v := nI 0) S.1 S.2.1 dX8_line_83 (by decide) ?_
      refine lv_iconst (v := nI 0) S.1 S.2.1 dX8_line_84 (by decide) ?_
      refine n_ast 41 0 S hw (by omega) rfl (by decide) (by omega) rfl dX8_line_85 (fun M25 H locs eM25 hw => ?_)
      refine lv_aload_n S.1 S.2.1 dX8_line_86 rfl (lv_at hl 0 rfl) ?_
      refine lv_iconst (v := nI 0) S.1 S.2.1 dX8_line_87 (by decide) ?_
      refine n_putI 34 10 S hw (by omega) rfl rfl rfl in_X8 tyX8_ok nmX8 (by decide) rfl rfl wf_X8_108 dX8_line_88 (fun M26 H locs eM26 hw => ?_)
      refine lv_aload_n S.1 S.2.1 dX8_line_91 rfl (lv_at hl 0 rfl) ?_
      refine lv_iconst (v := nI 0) S.1 S.2.1 dX8_line_92 (by decide) ?_
      refine n_putI 34 26 S hw (by omega) rfl rfl rfl in_X8 tyX8_ok nmX8 (by decide) rfl rfl wf_X8_111 dX8_line_93 (fun M27 H locs eM27 hw => ?_)
      refine lv_aload_n S.1 S.2.1 dX8_line_96 rfl (lv_at hl 0 rfl) ?_
      refine lv_iconst (v := nI 0) S.1 S.2.1 dX8_line_97 (by decide) ?_
      refine n_putI 34 24 S hw (by omega) rfl rfl rfl in_X8 tyX8_ok nmX8 (by decide) rfl rfl wf_X8_114 dX8_line_98 (fun M28 H locs eM28 hw => ?_)
      refine lv_aload_n S.1 S.2.1 dX8_line_101 rfl (lv_at hl 0 rfl) ?_
      refine lv_iconst (v := nI 0) S.1 S.2.1 dX8_line_102 (by decide) ?_
      refine n_putI 34 25 S hw (by omega) rfl rfl rfl in_X8 tyX8_ok nmX8 (by decide) rfl rfl wf_X8_117 dX8_line_103 (fun M29 H locs eM29 hw => ?_)
      refine lv_aload_n S.1 S.2.1 dX8_line_106 rfl (lv_at hl 0 rfl) ?_
      refine lv_iconst (v := nI 0) S.1 S.2.1 dX8_line_107 (by decide) ?_
      refine n_putI 34 33 S hw (by omega) rfl rfl rfl in_X8 tyX8_ok nmX8 (by decide) rfl rfl wf_X8_120 dX8_line_108 (fun M30 H locs eM30 hw => ?_)
      refine lv_iconst (v := nI 0) S.1 S.2.1 dX8_line_111 (by decide) ?_
      have hq31 : M22 34 = upd (M2 34) 6 (nI 1) := by rw [eM22, va_up_self]
      have hq32 : M23 34 = upd (M2 34) 6 (nI 1) := by rw [eM23, va_up_ne _ _ (by omega), hq31]
      have hq33 : M24 34 = upd (M2 34) 6 (nI 1) := by rw [eM24, va_up_ne _ _ (by omega), hq32]
      have hq34 : M25 34 = upd (M2 34) 6 (nI 1) := by rw [eM25, va_up_ne _ _ (by omega), hq33]
      have hq35 : M26 34 = upd (upd (M2 34) 6 (nI 1)) 10 (nI 0) := by rw [eM26, va_up_self, hq34]
      have hq36 : M27 34 = upd (upd (upd (M2 34) 6 (nI 1)) 10 (nI 0)) 26 (nI 0) := by rw [eM27, va_up_self, hq35]
      have hq37 : M28 34 = upd (upd (upd (upd (M2 34) 6 (nI 1)) 10 (nI 0)) 26 (nI 0)) 24 (nI 0) := by rw [eM28, va_up_self, hq36]
      have hq38 : M29 34 = upd (upd (upd (upd (upd (M2 34) 6 (nI 1)) 10 (nI 0)) 26 (nI 0)) 24 (nI 0)) 25 (nI 0) := by rw [eM29, va_up_self, hq37]
      have hq39 : M30 34 = upd (upd (upd (upd (upd (upd (M2 34) 6 (nI 1)) 10 (nI 0)) 26 (nI 0)) 24 (nI 0)) 25 (nI 0)) 33 (nI 0) := by rw [eM30, va_up_self, hq38]
      have hq40 : M22 35 = M2 35 := by rw [eM22, va_up_ne _ _ (by omega)]
      have hq41 : M23 35 = M2 35 := by rw [eM23, va_up_ne _ _ (by omega), hq40]
      have hq42 : M24 35 = M2 35 := by rw [eM24, va_up_ne _ _ (by omega), hq41]
      have hq43 : M25 35 = M2 35 := by rw [eM25, va_up_ne _ _ (by omega), hq42]
      have hq44 : M26 35 = M2 35 := by rw [eM26, va_up_ne _ _ (by omega), hq43]
      have hq45 : M27 35 = M2 35 := by rw [eM27, va_up_ne _ _ (by omega), hq44]
      have hq46 : M28 35 = M2 35 := by rw [eM28, va_up_ne _ _ (by omega), hq45]
      have hq47 : M29 35 = M2 35 := by rw [eM29, va_up_ne _ _ (by omega), hq46]
      have hq48 : M30 35 = M2 35 := by rw [eM30, va_up_ne _ _ (by omega), hq47]
      have hq49 : M22 36 = M2 36 := by rw [eM22, va_up_ne _ _ (by omega)]
      have hq50 : M23 36 = M2 36 := by rw [eM23, va_up_ne _ _ (by omega), hq49]
      have hq51 : M24 36 = M2 36 := by rw [eM24, va_up_ne _ _ (by omega), hq50]
      have hq52 : M25 36 = M2 36 := by rw [eM25, va_up_ne _ _ (by omega), hq51]
      have hq53 : M26 36 = M2 36 := by rw [eM26, va_up_ne _ _ (by omega), hq52]
      have hq54 : M27 36 = M2 36 := by rw [eM27, va_up_ne _ _ (by omega), hq53]
      have hq55 : M28 36 = M2 36 := by rw [eM28, va_up_ne _ _ (by omega), hq54]
      have hq56 : M29 36 = M2 36 := by rw [eM29, va_up_ne _ _ (by omega), hq55]
      have hq57 : M30 36 = M2 36 := by rw [eM30, va_up_ne _ _ (by omega), hq56]
      have hq58 : M22 37 = M2 37 := by rw [eM22, va_up_ne _ _ (by omega)]
      have hq59 : M23 37 = M2 37 := by rw [eM23, va_up_ne _ _ (by omega), hq58]
      have hq60 : M24 37 = M2 37 := by rw [eM24, va_up_ne _ _ (by omega), hq59]
      have hq61 : M25 37 = M2 37 := by rw [eM25, va_up_ne _ _ (by omega), hq60]
      have hq62 : M26 37 = M2 37 := by rw [eM26, va_up_ne _ _ (by omega), hq61]
      have hq63 : M27 37 = M2 37 := by rw [eM27, va_up_ne _ _ (by omega), hq62]
      have hq64 : M28 37 = M2 37 := by rw [eM28, va_up_ne _ _ (by omega), hq63]
      have hq65 : M29 37 = M2 37 := by rw [eM29, va_up_ne _ _ (by omega), hq64]
      have hq66 : M30 37 = M2 37 := by rw [eM30, va_up_ne _ _ (by omega), hq65]
      have hq67 : M22 38 = M2 38 := by rw [eM22, va_up_ne _ _ (by omega)]
      have hq68 : M23 38 = M2 38 := by rw [eM23, va_up_ne _ _ (by omega), hq67]
      have hq69 : M24 38 = M2 38 := by rw [eM24, va_up_ne _ _ (by omega), hq68]
      have hq70 : M25 38 = M2 38 := by rw [eM25, va_up_ne _ _ (by omega), hq69]
      have hq71 : M26 38 = M2 38 := by rw [eM26, va_up_ne _ _ (by omega), hq70]
      have hq72 : M27 38 = M2 38 := by rw [eM27, va_up_ne _ _ (by omega), hq71]
      have hq73 : M28 38 = M2 38 := by rw [eM28, va_up_ne _ _ (by omega), hq72]
      have hq74 : M29 38 = M2 38 := by rw [eM29, va_up_ne _ _ (by omega), hq73]
      have hq75 : M30 38 = M2 38 := by rw [eM30, va_up_ne _ _ (by omega), hq74]
      have hq76 : M22 39 = M2 39 := by rw [eM22, va_up_ne _ _ (by omega)]
      have hq77 : M23 39 = upd (M2 39) 0 (nI 0) := by rw [eM23, va_up_self, hq76]
      have hq78 : M24 39 = upd (M2 39) 0 (nI 0) := by rw [eM24, va_up_ne _ _ (by omega), hq77]
      have hq79 : M25 39 = upd (M2 39) 0 (nI 0) := by rw [eM25, va_up_ne _ _ (by omega), hq78]
      have hq80 : M26 39 = upd (M2 39) 0 (nI 0) := by rw [eM26, va_up_ne _ _ (by omega), hq79]
      have hq81 : M27 39 = upd (M2 39) 0 (nI 0) := by rw [eM27, va_up_ne _ _ (by omega), hq80]
      have hq82 : M28 39 = upd (M2 39) 0 (nI 0) := by rw [eM28, va_up_ne _ _ (by omega), hq81]
      have hq83 : M29 39 = upd (M2 39) 0 (nI 0) := by rw [eM29, va_up_ne _ _ (by omega), hq82]
      have hq84 : M30 39 = upd (M2 39) 0 (nI 0) := by rw [eM30, va_up_ne _ _ (by omega), hq83]
      have hq85 : M22 40 = M2 40 := by rw [eM22, va_up_ne _ _ (by omega)]
      have hq86 : M23 40 = M2 40 := by rw [eM23, va_up_ne _ _ (by omega), hq85]
      have hq87 : M24 40 = upd (M2 40) 0 (-1) := by rw [eM24, va_up_self, hq86]
      have hq88 : M25 40 = upd (M2 40) 0 (-1) := by rw [eM25, va_up_ne _ _ (by omega), hq87]
      have hq89 : M26 40 = upd (M2 40) 0 (-1) := by rw [eM26, va_up_ne _ _ (by omega), hq88]
      have hq90 : M27 40 = upd (M2 40) 0 (-1) := by rw [eM27, va_up_ne _ _ (by omega), hq89]
      have hq91 : M28 40 = upd (M2 40) 0 (-1) := by rw [eM28, va_up_ne _ _ (by omega), hq90]
      have hq92 : M29 40 = upd (M2 40) 0 (-1) := by rw [eM29, va_up_ne _ _ (by omega), hq91]
      have hq93 : M30 40 = upd (M2 40) 0 (-1) := by rw [eM30, va_up_ne _ _ (by omega), hq92]
      have hq94 : M22 41 = M2 41 := by rw [eM22, va_up_ne _ _ (by omega)]
      have hq95 : M23 41 = M2 41 := by rw [eM23, va_up_ne _ _ (by omega), hq94]
      have hq96 : M24 41 = M2 41 := by rw [eM24, va_up_ne _ _ (by omega), hq95]
      have hq97 : M25 41 = upd (M2 41) 0 (nI 0) := by rw [eM25, va_up_self, hq96]
      have hq98 : M26 41 = upd (M2 41) 0 (nI 0) := by rw [eM26, va_up_ne _ _ (by omega), hq97]
      have hq99 : M27 41 = upd (M2 41) 0 (nI 0) := by rw [eM27, va_up_ne _ _ (by omega), hq98]
      have hq100 : M28 41 = upd (M2 41) 0 (nI 0) := by rw [eM28, va_up_ne _ _ (by omega), hq99]
      have hq101 : M29 41 = upd (M2 41) 0 (nI 0) := by rw [eM29, va_up_ne _ _ (by omega), hq100]
      have hq102 : M30 41 = upd (M2 41) 0 (nI 0) := by rw [eM30, va_up_ne _ _ (by omega), hq101]
      exact m_reti S hr hlocks hw dX8_line_112 (Dec1.yes hc1 ⟨rfl, ((Eq.trans (congrFun hq39 1) ((pk_un (by decide)).trans ((pk_un (by decide)).trans ((pk_un (by decide)).trans ((pk_un (by decide)).trans ((pk_un (by decide)).trans (pk_un (by decide)))))))).trans i1), (Eq.trans (congrFun hq39 6) ((pk_un (by decide)).trans ((pk_un (by decide)).trans ((pk_un (by decide)).trans ((pk_un (by decide)).trans ((pk_un (by decide)).trans pk_us)))))), (Eq.trans (congrFun hq39 10) ((pk_un (by decide)).trans ((pk_un (by decide)).trans ((pk_un (by decide)).trans ((pk_un (by decide)).trans pk_us))))), (Eq.trans (congrFun hq39 26) ((pk_un (by decide)).trans ((pk_un (by decide)).trans ((pk_un (by decide)).trans pk_us)))), (Eq.trans (congrFun hq39 24) ((pk_un (by decide)).trans ((pk_un (by decide)).trans pk_us))), (Eq.trans (congrFun hq39 25) ((pk_un (by decide)).trans pk_us)), (Eq.trans (congrFun hq39 33) pk_us), hq48.trans (by rw [i35, show i = 120 by omega]), hq57.trans (by rw [i36, show i = 120 by omega]), hq66.trans (by rw [i37, show i = 120 by omega]), hq75.trans (by rw [i38, show i = 120 by omega]), hq84.trans (by rw [ifr 39 (by omega)]), hq93.trans (by rw [ifr 40 (by omega)]), hq102.trans (by rw [ifr 41 (by omega)]), fun k hk => ((show M30 k = M29 k by rw [eM30]; exact va_up_ne _ _ (by omega)).trans ((show M29 k = M28 k by rw [eM29]; exact va_up_ne _ _ (by omega)).trans ((show M28 k = M27 k by rw [eM28]; exact va_up_ne _ _ (by omega)).trans ((show M27 k = M26 k by rw [eM27]; exact va_up_ne _ _ (by omega)).trans ((show M26 k = M25 k by rw [eM26]; exact va_up_ne _ _ (by omega)).trans ((show M25 k = M24 k by rw [eM25]; exact va_up_ne _ _ (by omega)).trans ((show M24 k = M23 k by rw [eM24]; exact va_up_ne _ _ (by omega)).trans ((show M23 k = M22 k by rw [eM23]; exact va_up_ne _ _ (by omega)).trans (show M22 k = M2 k by rw [eM22]; exact va_up_ne _ _ (by omega)))))))))).trans (ifr k (by omega))⟩)
    | succ n' ih =>
      intro i hi hc1 M2 H locs ls hv hw hl
      obtain ⟨i1, i35, i36, i37, i38, ifr⟩ := hv
      refine lv_iload_n S.1 S.2.1 dX8_line_20 rfl (lv_at hl 2 rfl) ?_
      refine lv_bipush (v := nI 120) S.1 S.2.1 dX8_line_21 (by decide) ?_
      refine n_ge (tgt := 60) S (by omega) (by omega) dX8_line_23 (by decide) (fun c21 => absurd c21 (by omega)) (fun c21 => ?_)
      refine lv_aload_n S.1 S.2.1 dX8_line_26 rfl (lv_at hl 0 rfl) ?_
      refine m_getR 34 2 35 S hw (by omega) rfl rfl rfl in_X8 (by decide) wf_X8_16 dX8_line_27 ?_
      refine lv_iload_n S.1 S.2.1 dX8_line_30 rfl (lv_at hl 2 rfl) ?_
      refine lv_iconst (v := nI 0) S.1 S.2.1 dX8_line_31 (by decide) ?_
      refine n_ast 35 i S hw (by omega) rfl (by decide) (by omega) rfl dX8_line_32 (fun M22 H locs eM22 hw => ?_)
      refine lv_aload_n S.1 S.2.1 dX8_line_33 rfl (lv_at hl 0 rfl) ?_
      refine m_getR 34 3 36 S hw (by omega) rfl rfl rfl in_X8 (by decide) wf_X8_20 dX8_line_34 ?_
      refine lv_iload_n S.1 S.2.1 dX8_line_37 rfl (lv_at hl 2 rfl) ?_
      refine lv_iconst (v := nI 0) S.1 S.2.1 dX8_line_38 (by decide) ?_
      refine n_ast 36 i S hw (by omega) rfl (by decide) (by omega) rfl dX8_line_39 (fun M23 H locs eM23 hw => ?_)
      refine lv_aload_n S.1 S.2.1 dX8_line_40 rfl (lv_at hl 0 rfl) ?_
      refine m_getR 34 4 37 S hw (by omega) rfl rfl rfl in_X8 (by decide) wf_X8_23 dX8_line_41 ?_
      refine lv_iload_n S.1 S.2.1 dX8_line_44 rfl (lv_at hl 2 rfl) ?_
      refine lv_iconst (v := (-1)) S.1 S.2.1 dX8_line_45 (by decide) ?_
      refine n_ast 37 i S hw (by omega) rfl (by decide) (by omega) rfl dX8_line_46 (fun M24 H locs eM24 hw => ?_)
      refine lv_aload_n S.1 S.2.1 dX8_line_47 rfl (lv_at hl 0 rfl) ?_
      refine m_getR 34 5 38 S hw (by omega) rfl rfl rfl in_X8 (by decide) wf_X8_26 dX8_line_48 ?_
      refine lv_iload_n S.1 S.2.1 dX8_line_51 rfl (lv_at hl 2 rfl) ?_
      refine lv_iconst (v := nI 0) S.1 S.2.1 dX8_line_52 (by decide) ?_
      refine n_ast 38 i S hw (by omega) rfl (by decide) (by omega) rfl dX8_line_53 (fun M25 H locs eM25 hw => ?_)
      refine lv_iinc (v := nI (i + 1)) (lv' := [(2, .int (nI (i + 1))), (0, .ref (ad 34)), (1, .int x)]) S.1 S.2.1 dX8_line_54 hl (k := 2) rfl (iinc1 _) (by decide) rfl (fun ls hl => ?_)
      refine lv_goto (tgt := 20) S.1 S.2.1 dX8_line_57 (by decide) ?_
      have hq26 : M22 34 = M2 34 := by rw [eM22, va_up_ne _ _ (by omega)]
      have hq27 : M23 34 = M2 34 := by rw [eM23, va_up_ne _ _ (by omega), hq26]
      have hq28 : M24 34 = M2 34 := by rw [eM24, va_up_ne _ _ (by omega), hq27]
      have hq29 : M25 34 = M2 34 := by rw [eM25, va_up_ne _ _ (by omega), hq28]
      have hq30 : M22 35 = upd (M2 35) i (nI 0) := by rw [eM22, va_up_self]
      have hq31 : M23 35 = upd (M2 35) i (nI 0) := by rw [eM23, va_up_ne _ _ (by omega), hq30]
      have hq32 : M24 35 = upd (M2 35) i (nI 0) := by rw [eM24, va_up_ne _ _ (by omega), hq31]
      have hq33 : M25 35 = upd (M2 35) i (nI 0) := by rw [eM25, va_up_ne _ _ (by omega), hq32]
      have hq34 : M22 36 = M2 36 := by rw [eM22, va_up_ne _ _ (by omega)]
      have hq35 : M23 36 = upd (M2 36) i (nI 0) := by rw [eM23, va_up_self, hq34]
      have hq36 : M24 36 = upd (M2 36) i (nI 0) := by rw [eM24, va_up_ne _ _ (by omega), hq35]
      have hq37 : M25 36 = upd (M2 36) i (nI 0) := by rw [eM25, va_up_ne _ _ (by omega), hq36]
      have hq38 : M22 37 = M2 37 := by rw [eM22, va_up_ne _ _ (by omega)]
      have hq39 : M23 37 = M2 37 := by rw [eM23, va_up_ne _ _ (by omega), hq38]
      have hq40 : M24 37 = upd (M2 37) i (-1) := by rw [eM24, va_up_self, hq39]
      have hq41 : M25 37 = upd (M2 37) i (-1) := by rw [eM25, va_up_ne _ _ (by omega), hq40]
      have hq42 : M22 38 = M2 38 := by rw [eM22, va_up_ne _ _ (by omega)]
      have hq43 : M23 38 = M2 38 := by rw [eM23, va_up_ne _ _ (by omega), hq42]
      have hq44 : M24 38 = M2 38 := by rw [eM24, va_up_ne _ _ (by omega), hq43]
      have hq45 : M25 38 = upd (M2 38) i (nI 0) := by rw [eM25, va_up_self, hq44]
      exact ih (i + 1) (by omega) hc1 _ _ _ ls ⟨(congrFun (hq29) 1).trans i1, hq33.trans (by rw [i35]; exact fill_s), hq37.trans (by rw [i36]; exact fill_s), hq41.trans (by rw [i37]; exact fill_s), hq45.trans (by rw [i38]; exact fill_s), fun k hk => ((show M25 k = M24 k by rw [eM25]; exact va_up_ne _ _ (by omega)).trans ((show M24 k = M23 k by rw [eM24]; exact va_up_ne _ _ (by omega)).trans ((show M23 k = M22 k by rw [eM23]; exact va_up_ne _ _ (by omega)).trans (show M22 k = M2 k by rw [eM22]; exact va_up_ne _ _ (by omega))))).trans (ifr k hk)⟩ hw (lv_sub hl [1, 2, 0] rfl)
  refine lv_iload_n S.1 S.2.1 dX8_line_0 rfl (lv_at hl 1 rfl) ?_
  refine lv_iconst (v := nI 4) S.1 S.2.1 dX8_line_1 (by decide) ?_
  refine lv_bipush (v := nI 120) S.1 S.2.1 dX8_line_2 (by decide) ?_
  refine r_SI (As := [.int x, .int (nI 4), .int (nI 120)]) (rest := []) S hw (c_X8_in l G N K ad M x (nI 4) (nI 120)) mf_X8_in wm_X8_104 ⟨by decide, by decide⟩ ⟨Nat.le_refl _, Nat.le_refl _⟩ hl.1 rfl (Nat.le_of_ble_eq_true rfl) dX8_line_4 (fun H locs hw => ?_)
  refine b_ne (tgt := 13) S dX8_line_7 (by decide) (fun c1 => ?_) (fun c1 => ?_)
  · refine lv_aload_n S.1 S.2.1 dX8_line_13 rfl (lv_at hl 0 rfl) ?_
    refine lv_iload_n S.1 S.2.1 dX8_line_14 rfl (lv_at hl 1 rfl) ?_
    refine n_putI 34 1 S hw (by omega) rfl rfl rfl in_X8 tyX8_ok nmX8 (by decide) rfl rfl wf_X8_13 dX8_line_15 (fun M2 H locs eM2 hw => ?_)
    refine lv_iconst (v := nI 0) S.1 S.2.1 dX8_line_18 (by decide) ?_
    refine lv_istore_n (lv' := [(2, .int (nI 0)), (0, .ref (ad 34)), (1, .int x)]) S.1 S.2.1 dX8_line_19 rfl hl (by decide) rfl (fun ls hl => ?_)
    have hq3 : M2 34 = upd (M 34) 1 x := by rw [eM2, va_up_self]
    have hq4 : M2 35 = M 35 := by rw [eM2, va_up_ne _ _ (by omega)]
    have hq5 : M2 36 = M 36 := by rw [eM2, va_up_ne _ _ (by omega)]
    have hq6 : M2 37 = M 37 := by rw [eM2, va_up_ne _ _ (by omega)]
    have hq7 : M2 38 = M 38 := by rw [eM2, va_up_ne _ _ (by omega)]
    exact loop 120 0 (by omega) c1 _ _ _ ls ⟨(Eq.trans (congrFun hq3 1) pk_us), hq4.trans fill_0, hq5.trans fill_0, hq6.trans fill_0, hq7.trans fill_0, fun k hk => (show M2 k = M k by rw [eM2]; exact va_up_ne _ _ (by omega))⟩ hw (lv_sub hl [1, 2, 0] rfl)
  · refine lv_bipush (v := (-2)) S.1 S.2.1 dX8_line_10 (by decide) ?_
    exact m_reti S hr hlocks hw dX8_line_12 (Dec1.no c1 ⟨rfl, rfl⟩)
