theorem wi_1n (x : Int32) {b : Nat} (hb : b < 2 ^ 31) : wi x (nI 1) (nI b) = true → inB x (b + 1) = true := by
  rw [wi_nn x (by decide) hb]
  simp only [inB, Bool.and_eq_true, decide_eq_true_eq]
  omega

set_option maxHeartbeats 4000000 in
set_option maxRecDepth 100000 in
/-- OilLine.hasTank -/
theorem c_X7_hasTank (l : Launch) (G : GT) (N K : Nat) (ad : Nat → Nat) (M : Mem) (h34 : 34 ≤ N) (D : Nat) (hD : M 6 0 = nI D) (hD6 : D ≤ 6) (x y : Int32) : CrI l G N K ad yX7_hasTank cX7_hasTank 3 .boolean 2 43 [.ref (ad 0), .int x, .int y] M (b01 (inB x D && (inB y 8 && !eqB (M 9 (tn x * 8 + tn y)) 0))) := by
  refine cm_startI (by decide +kernel) (Nat.le_of_ble_eq_true rfl) ?_
  intro p e s m below meth c ls S hr hlocks hw hl
  have hl : lv_has ls 3 [(0, .ref (ad 0)), (1, .int x), (2, .int y)] := hl
  refine lv_aload_n S.1 S.2.1 dX7_hasTank_0 rfl (lv_at hl 0 rfl) ?_
  refine m_getR 0 1 6 S hw (by omega) rfl rfl rfl in_X7 (by decide) wf_X7_19 dX7_hasTank_1 ?_
  refine lv_iload_n S.1 S.2.1 dX7_hasTank_4 rfl (lv_at hl 1 rfl) ?_
  refine r_VI (As := [.int x]) (rest := []) 6 S hw (by omega) rfl rfl (c_X0_has l G N K ad M h34 D hD hD6 x) mf_X0_has wm_X7_89 ⟨by decide, by decide⟩ ⟨Nat.le_refl _, Nat.le_refl _⟩ hl.1 rfl (Nat.le_of_ble_eq_true rfl) dX7_hasTank_5 (fun H locs hw => ?_)
  refine b_eq (tgt := 38) S dX7_hasTank_8 (by decide) (fun c1 => ?_) (fun c1 => ?_)
  · refine lv_iconst (v := nI 0) S.1 S.2.1 dX7_hasTank_38 (by decide) ?_
    exact m_retz S hr hlocks hw dX7_hasTank_39 rfl ⟨b0_f (and_f1 c1), rfl⟩
  · obtain ⟨a, ha, ea⟩ := inB_of c1 (by omega)
    have ta : tn x = a := tn_of ea (by omega)
    refine lv_iload_n S.1 S.2.1 dX7_hasTank_11 rfl (lv_at hl 2 rfl) ?_
    refine r_SI (As := [.int y]) (rest := []) S hw (c_X7_isKind l G N K ad M y) mf_X7_isKind wm_X7_92 ⟨by decide, by decide⟩ ⟨Nat.le_refl _, Nat.le_refl _⟩ hl.1 rfl (Nat.le_of_ble_eq_true rfl) dX7_hasTank_12 (fun H locs hw => ?_)
    refine b_eq (tgt := 38) S dX7_hasTank_15 (by decide) (fun c2 => ?_) (fun c2 => ?_)
    · refine lv_iconst (v := nI 0) S.1 S.2.1 dX7_hasTank_38 (by decide) ?_
      exact m_retz S hr hlocks hw dX7_hasTank_39 rfl ⟨b0_f (and_f2 (and_f1 c2)), rfl⟩
    · obtain ⟨b, hb, eb⟩ := inB_of c2 (by omega)
      have tb : tn y = b := tn_of eb (by omega)
      refine lv_aload_n S.1 S.2.1 dX7_hasTank_18 rfl (lv_at hl 0 rfl) ?_
      refine m_getR 0 1 6 S hw (by omega) rfl rfl rfl in_X7 (by decide) wf_X7_19 dX7_hasTank_19 ?_
      refine m_getR 6 3 9 S hw (by omega) rfl rfl rfl in_X0 (by decide) wf_X7_99 dX7_hasTank_22 ?_
      refine lv_iload_n S.1 S.2.1 dX7_hasTank_25 rfl (lv_at hl 1 rfl) ?_
      refine m_top (show x = nI a from ea) ?_
      refine lv_iload_n S.1 S.2.1 dX7_hasTank_26 rfl (lv_at hl 2 rfl) ?_
      refine m_top (show y = nI b from eb) ?_
      refine r_SI (As := [.int (nI a), .int (nI b)]) (rest := [.ref (ad 9)]) S hw (c_X7_tankNumber l G N K ad M a b) mf_X7_tankNumber wm_X7_95 ⟨by decide, by decide⟩ ⟨Nat.le_refl _, Nat.le_refl _⟩ hl.1 rfl (Nat.le_of_ble_eq_true rfl) dX7_hasTank_27 (fun H locs hw => ?_)
      refine m_zld 9 (a * 8 + b) S hw (by omega) rfl (by decide) (by omega) rfl dX7_hasTank_30 ?_
      refine lv_if_eq (tgt := 38) S.1 S.2.1 dX7_hasTank_31 (by decide) (fun c3 => ?_) (fun c3 => ?_)
      · refine lv_iconst (v := nI 0) S.1 S.2.1 dX7_hasTank_38 (by decide) ?_
        exact m_retz S hr hlocks hw dX7_hasTank_39 rfl ⟨b0_f (and_f2 (and_f2 (by rw [ta, tb, eqB_t c3]; rfl))), rfl⟩
      · refine lv_iconst (v := nI 1) S.1 S.2.1 dX7_hasTank_34 (by decide) ?_
        refine lv_goto (tgt := 39) S.1 S.2.1 dX7_hasTank_35 (by decide) ?_
        exact m_retz S hr hlocks hw dX7_hasTank_39 rfl ⟨b1_t (and_t c1 (and_t c2 (by rw [ta, tb, eqB_f c3]; rfl))), rfl⟩

set_option maxHeartbeats 4000000 in
set_option maxRecDepth 100000 in
/-- OilLine.grace -/
theorem c_X7_grace (l : Launch) (G : GT) (N K : Nat) (ad : Nat → Nat) (M : Mem) (h34 : 34 ≤ N) (x y : Int32) : CmI l G N K ad yX7_grace cX7_grace 3 .int 2 42 [.ref (ad 0), .int x, .int y] M (fun r M1 => Dec1 (inB x 8) (r = -1 ∧ M1 = M) (Dec1 (inB y 101) (r = -2 ∧ M1 = M) (r = M 4 (tn x) ∧ M1 0 = (upd (M 0) 8 (nI 0)) ∧ M1 4 = (upd (M 4) (tn x) y) ∧ (∀ k, k ≠ 0 ∧ k ≠ 4 → M1 k = M k)))) := by
  refine cm_startI (by decide +kernel) (Nat.le_of_ble_eq_true rfl) ?_
  intro p e s m below meth c ls S hr hlocks hw hl
  have hl : lv_has ls 3 [(0, .ref (ad 0)), (1, .int x), (2, .int y)] := hl
  refine lv_iload_n S.1 S.2.1 dX7_grace_0 rfl (lv_at hl 1 rfl) ?_
  refine r_SI (As := [.int x]) (rest := []) S hw (c_X7_isKind l G N K ad M x) mf_X7_isKind wm_X7_92 ⟨by decide, by decide⟩ ⟨Nat.le_refl _, Nat.le_refl _⟩ hl.1 rfl (Nat.le_of_ble_eq_true rfl) dX7_grace_1 (fun H locs hw => ?_)
  refine b_ne (tgt := 9) S dX7_grace_4 (by decide) (fun c1 => ?_) (fun c1 => ?_)
  · obtain ⟨a, ha, ea⟩ := inB_of c1 (by omega)
    have ta : tn x = a := tn_of ea (by omega)
    refine lv_iload_n S.1 S.2.1 dX7_grace_9 rfl (lv_at hl 2 rfl) ?_
    refine lv_iconst (v := nI 0) S.1 S.2.1 dX7_grace_10 (by decide) ?_
    refine lv_bipush (v := nI 100) S.1 S.2.1 dX7_grace_11 (by decide) ?_
    refine r_SI (As := [.int y, .int (nI 0), .int (nI 100)]) (rest := []) S hw (c_X7_within l G N K ad M y (nI 0) (nI 100)) mf_X7_within wm_X7_63 ⟨by decide, by decide⟩ ⟨Nat.le_refl _, Nat.le_refl _⟩ hl.1 rfl (Nat.le_of_ble_eq_true rfl) dX7_grace_13 (fun H locs hw => ?_)
    refine b_ne (tgt := 22) S dX7_grace_16 (by decide) (fun c2 => ?_) (fun c2 => ?_)
    · refine lv_aload_n S.1 S.2.1 dX7_grace_22 rfl (lv_at hl 0 rfl) ?_
      refine lv_iconst (v := nI 0) S.1 S.2.1 dX7_grace_23 (by decide) ?_
      refine n_putI 0 8 S hw (by omega) rfl rfl rfl in_X7 tyX7_ok nmX7 (by decide) rfl rfl wf_X7_55 dX7_grace_24 (fun M3 H locs eM3 hw => ?_)
      refine lv_aload_n S.1 S.2.1 dX7_grace_27 rfl (lv_at hl 0 rfl) ?_
      refine m_getR 0 0 1 S hw (by omega) rfl rfl rfl in_X7 (by decide) wf_X7_12 dX7_grace_28 ?_
      refine m_getR 1 2 4 S hw (by omega) rfl rfl rfl in_X5 (by decide) wf_X7_121 dX7_grace_31 ?_
      refine lv_iload_n S.1 S.2.1 dX7_grace_34 rfl (lv_at hl 1 rfl) ?_
      refine m_top (show x = nI a from ea) ?_
      refine lv_iload_n S.1 S.2.1 dX7_grace_35 rfl (lv_at hl 2 rfl) ?_
      refine m_SI (As := [.ref (ad 4), .int (nI a), .int y]) (rest := []) S hw (c_X7_exchange l G N K ad M3 4 8 (by omega) rfl (by decide) a (by omega) y) mf_X7_exchange wm_X7_124 ⟨by decide, by decide⟩ ⟨Nat.le_refl _, Nat.le_refl _⟩ hl.1 rfl (Nat.le_of_ble_eq_true rfl) dX7_grace_36 (fun r4 M4 H locs hp4 hw => ?_)
      obtain ⟨er4, eM4⟩ := hp4
      refine m_top (show r4 = M3 4 a from er4) ?_
      have hq5 : M3 4 = M 4 := by rw [eM3, va_up_ne _ _ (by omega)]
      have hval : M3 4 a = M 4 a := congrFun hq5 a
      have hq6 : M3 0 = upd (M 0) 8 (nI 0) := by rw [eM3, va_up_self]
      have hq7 : M4 0 = upd (M 0) 8 (nI 0) := by rw [eM4, va_up_ne _ _ (by omega), hq6]
      have hq8 : M4 4 = upd (M 4) a y := by rw [eM4, va_up_self, hq5]
      exact m_reti S hr hlocks hw dX7_grace_39 (Dec1.yes c1 (Dec1.yes ((wi_upto y (by decide)).symm.trans c2) (by rw [ta]; exact ⟨hval, hq7, hq8, (fun k hk => ((show M4 k = M3 k by rw [eM4]; exact va_up_ne _ _ (by omega)).trans (show M3 k = M k by rw [eM3]; exact va_up_ne _ _ (by omega))))⟩)))
    · refine lv_bipush (v := (-2)) S.1 S.2.1 dX7_grace_19 (by decide) ?_
      exact m_reti S hr hlocks hw dX7_grace_21 (Dec1.yes c1 (Dec1.no ((wi_upto y (by decide)).symm.trans c2) ⟨rfl, rfl⟩))
  · refine lv_iconst (v := (-1)) S.1 S.2.1 dX7_grace_7 (by decide) ?_
    exact m_reti S hr hlocks hw dX7_grace_8 (Dec1.no c1 ⟨rfl, rfl⟩)

set_option maxHeartbeats 4000000 in
set_option maxRecDepth 100000 in
/-- OilLine.rate -/
theorem c_X7_rate (l : Launch) (G : GT) (N K : Nat) (ad : Nat → Nat) (M : Mem) (h34 : 34 ≤ N) (D : Nat) (hD : M 6 0 = nI D) (hD6 : D ≤ 6) (x y : Int32) : CmI l G N K ad yX7_rate cX7_rate 3 .int 2 43 [.ref (ad 0), .int x, .int y] M (fun r M1 => Dec1 (inB x D) (r = -1 ∧ M1 = M) (Dec1 (wi y (nI 1) (nI 60)) (r = -2 ∧ M1 = M) (r = M 8 (tn x) ∧ M1 0 = (upd (M 0) 8 (nI 0)) ∧ M1 8 = (upd (M 8) (tn x) y) ∧ (∀ k, k ≠ 0 ∧ k ≠ 8 → M1 k = M k)))) := by
  refine cm_startI (by decide +kernel) (Nat.le_of_ble_eq_true rfl) ?_
  intro p e s m below meth c ls S hr hlocks hw hl
  have hl : lv_has ls 3 [(0, .ref (ad 0)), (1, .int x), (2, .int y)] := hl
  refine lv_aload_n S.1 S.2.1 dX7_rate_0 rfl (lv_at hl 0 rfl) ?_
  refine m_getR 0 1 6 S hw (by omega) rfl rfl rfl in_X7 (by decide) wf_X7_19 dX7_rate_1 ?_
  refine lv_iload_n S.1 S.2.1 dX7_rate_4 rfl (lv_at hl 1 rfl) ?_
  refine r_VI (As := [.int x]) (rest := []) 6 S hw (by omega) rfl rfl (c_X0_has l G N K ad M h34 D hD hD6 x) mf_X0_has wm_X7_89 ⟨by decide, by decide⟩ ⟨Nat.le_refl _, Nat.le_refl _⟩ hl.1 rfl (Nat.le_of_ble_eq_true rfl) dX7_rate_5 (fun H locs hw => ?_)
  refine b_ne (tgt := 13) S dX7_rate_8 (by decide) (fun c1 => ?_) (fun c1 => ?_)
  · obtain ⟨a, ha, ea⟩ := inB_of c1 (by omega)
    have ta : tn x = a := tn_of ea (by omega)
    refine lv_iload_n S.1 S.2.1 dX7_rate_13 rfl (lv_at hl 2 rfl) ?_
    refine lv_iconst (v := nI 1) S.1 S.2.1 dX7_rate_14 (by decide) ?_
    refine lv_bipush (v := nI 60) S.1 S.2.1 dX7_rate_15 (by decide) ?_
    refine r_SI (As := [.int y, .int (nI 1), .int (nI 60)]) (rest := []) S hw (c_X7_within l G N K ad M y (nI 1) (nI 60)) mf_X7_within wm_X7_63 ⟨by decide, by decide⟩ ⟨Nat.le_refl _, Nat.le_refl _⟩ hl.1 rfl (Nat.le_of_ble_eq_true rfl) dX7_rate_17 (fun H locs hw => ?_)
    refine b_ne (tgt := 26) S dX7_rate_20 (by decide) (fun c2 => ?_) (fun c2 => ?_)
    · refine lv_aload_n S.1 S.2.1 dX7_rate_26 rfl (lv_at hl 0 rfl) ?_
      refine lv_iconst (v := nI 0) S.1 S.2.1 dX7_rate_27 (by decide) ?_
      refine n_putI 0 8 S hw (by omega) rfl rfl rfl in_X7 tyX7_ok nmX7 (by decide) rfl rfl wf_X7_55 dX7_rate_28 (fun M3 H locs eM3 hw => ?_)
      refine lv_aload_n S.1 S.2.1 dX7_rate_31 rfl (lv_at hl 0 rfl) ?_
      refine m_getR 0 1 6 S hw (by omega) rfl rfl rfl in_X7 (by decide) wf_X7_19 dX7_rate_32 ?_
      refine m_getR 6 2 8 S hw (by omega) rfl rfl rfl in_X0 (by decide) wf_X7_128 dX7_rate_35 ?_
      refine lv_iload_n S.1 S.2.1 dX7_rate_38 rfl (lv_at hl 1 rfl) ?_
      refine m_top (show x = nI a from ea) ?_
      refine lv_iload_n S.1 S.2.1 dX7_rate_39 rfl (lv_at hl 2 rfl) ?_
      refine m_SI (As := [.ref (ad 8), .int (nI a), .int y]) (rest := []) S hw (c_X7_exchange l G N K ad M3 8 6 (by omega) rfl (by decide) a (by omega) y) mf_X7_exchange wm_X7_124 ⟨by decide, by decide⟩ ⟨Nat.le_refl _, Nat.le_refl _⟩ hl.1 rfl (Nat.le_of_ble_eq_true rfl) dX7_rate_40 (fun r4 M4 H locs hp4 hw => ?_)
      obtain ⟨er4, eM4⟩ := hp4
      refine m_top (show r4 = M3 8 a from er4) ?_
      have hq5 : M3 8 = M 8 := by rw [eM3, va_up_ne _ _ (by omega)]
      have hval : M3 8 a = M 8 a := congrFun hq5 a
      have hq6 : M3 0 = upd (M 0) 8 (nI 0) := by rw [eM3, va_up_self]
      have hq7 : M4 0 = upd (M 0) 8 (nI 0) := by rw [eM4, va_up_ne _ _ (by omega), hq6]
      have hq8 : M4 8 = upd (M 8) a y := by rw [eM4, va_up_self, hq5]
      exact m_reti S hr hlocks hw dX7_rate_43 (Dec1.yes c1 (Dec1.yes c2 (by rw [ta]; exact ⟨hval, hq7, hq8, (fun k hk => ((show M4 k = M3 k by rw [eM4]; exact va_up_ne _ _ (by omega)).trans (show M3 k = M k by rw [eM3]; exact va_up_ne _ _ (by omega))))⟩)))
    · refine lv_bipush (v := (-2)) S.1 S.2.1 dX7_rate_23 (by decide) ?_
      exact m_reti S hr hlocks hw dX7_rate_25 (Dec1.yes c1 (Dec1.no c2 ⟨rfl, rfl⟩))
  · refine lv_iconst (v := (-1)) S.1 S.2.1 dX7_rate_11 (by decide) ?_
    exact m_reti S hr hlocks hw dX7_rate_12 (Dec1.no c1 ⟨rfl, rfl⟩)

set_option maxHeartbeats 4000000 in
set_option maxRecDepth 100000 in
/-- OilLine.price -/
theorem c_X7_price (l : Launch) (G : GT) (N K : Nat) (ad : Nat → Nat) (M : Mem) (h34 : 34 ≤ N) (x y : Int32) : CmI l G N K ad yX7_price cX7_price 3 .int 1 23 [.ref (ad 0), .int x, .int y] M (fun r M1 => Dec1 (inB x 24) (r = -1 ∧ M1 = M) (Dec1 (inB y 101) (r = -2 ∧ M1 = M) (r = M 5 (tn x) ∧ M1 0 = (upd (M 0) 8 (nI 0)) ∧ M1 5 = (upd (M 5) (tn x) y) ∧ (∀ k, k ≠ 0 ∧ k ≠ 5 → M1 k = M k)))) := by
  refine cm_startI (by decide +kernel) (Nat.le_of_ble_eq_true rfl) ?_
  intro p e s m below meth c ls S hr hlocks hw hl
  have hl : lv_has ls 3 [(0, .ref (ad 0)), (1, .int x), (2, .int y)] := hl
  refine lv_iload_n S.1 S.2.1 dX7_price_0 rfl (lv_at hl 1 rfl) ?_
  refine lv_iconst (v := nI 0) S.1 S.2.1 dX7_price_1 (by decide) ?_
  refine lv_bipush (v := nI 23) S.1 S.2.1 dX7_price_2 (by decide) ?_
  refine r_SI (As := [.int x, .int (nI 0), .int (nI 23)]) (rest := []) S hw (c_X7_within l G N K ad M x (nI 0) (nI 23)) mf_X7_within wm_X7_63 ⟨by decide, by decide⟩ ⟨Nat.le_refl _, Nat.le_refl _⟩ hl.1 rfl (Nat.le_of_ble_eq_true rfl) dX7_price_4 (fun H locs hw => ?_)
  refine b_ne (tgt := 12) S dX7_price_7 (by decide) (fun c1 => ?_) (fun c1 => ?_)
  · have hc1 : inB x 24 = true := (wi_upto x (by decide)).symm.trans c1
    obtain ⟨a, ha, ea⟩ := inB_of hc1 (by omega)
    have ta : tn x = a := tn_of ea (by omega)
    refine lv_iload_n S.1 S.2.1 dX7_price_12 rfl (lv_at hl 2 rfl) ?_
    refine lv_iconst (v := nI 0) S.1 S.2.1 dX7_price_13 (by decide) ?_
    refine lv_bipush (v := nI 100) S.1 S.2.1 dX7_price_14 (by decide) ?_
    refine r_SI (As := [.int y, .int (nI 0), .int (nI 100)]) (rest := []) S hw (c_X7_within l G N K ad M y (nI 0) (nI 100)) mf_X7_within wm_X7_63 ⟨by decide, by decide⟩ ⟨Nat.le_refl _, Nat.le_refl _⟩ hl.1 rfl (Nat.le_of_ble_eq_true rfl) dX7_price_16 (fun H locs hw => ?_)
    refine b_ne (tgt := 25) S dX7_price_19 (by decide) (fun c2 => ?_) (fun c2 => ?_)
    · refine lv_aload_n S.1 S.2.1 dX7_price_25 rfl (lv_at hl 0 rfl) ?_
      refine lv_iconst (v := nI 0) S.1 S.2.1 dX7_price_26 (by decide) ?_
      refine n_putI 0 8 S hw (by omega) rfl rfl rfl in_X7 tyX7_ok nmX7 (by decide) rfl rfl wf_X7_55 dX7_price_27 (fun M3 H locs eM3 hw => ?_)
      refine lv_aload_n S.1 S.2.1 dX7_price_30 rfl (lv_at hl 0 rfl) ?_
      refine m_getR 0 0 1 S hw (by omega) rfl rfl rfl in_X7 (by decide) wf_X7_12 dX7_price_31 ?_
      refine m_getR 1 3 5 S hw (by omega) rfl rfl rfl in_X5 (by decide) wf_X7_131 dX7_price_34 ?_
      refine lv_iload_n S.1 S.2.1 dX7_price_37 rfl (lv_at hl 1 rfl) ?_
      refine m_top (show x = nI a from ea) ?_
      refine lv_iload_n S.1 S.2.1 dX7_price_38 rfl (lv_at hl 2 rfl) ?_
      refine m_SI (As := [.ref (ad 5), .int (nI a), .int y]) (rest := []) S hw (c_X7_exchange l G N K ad M3 5 24 (by omega) rfl (by decide) a (by omega) y) mf_X7_exchange wm_X7_124 ⟨by decide, by decide⟩ ⟨Nat.le_refl _, Nat.le_refl _⟩ hl.1 rfl (Nat.le_of_ble_eq_true rfl) dX7_price_39 (fun r4 M4 H locs hp4 hw => ?_)
      obtain ⟨er4, eM4⟩ := hp4
      refine m_top (show r4 = M3 5 a from er4) ?_
      have hq5 : M3 5 = M 5 := by rw [eM3, va_up_ne _ _ (by omega)]
      have hval : M3 5 a = M 5 a := congrFun hq5 a
      have hq6 : M3 0 = upd (M 0) 8 (nI 0) := by rw [eM3, va_up_self]
      have hq7 : M4 0 = upd (M 0) 8 (nI 0) := by rw [eM4, va_up_ne _ _ (by omega), hq6]
      have hq8 : M4 5 = upd (M 5) a y := by rw [eM4, va_up_self, hq5]
      exact m_reti S hr hlocks hw dX7_price_42 (Dec1.yes hc1 (Dec1.yes ((wi_upto y (by decide)).symm.trans c2) (by rw [ta]; exact ⟨hval, hq7, hq8, (fun k hk => ((show M4 k = M3 k by rw [eM4]; exact va_up_ne _ _ (by omega)).trans (show M3 k = M k by rw [eM3]; exact va_up_ne _ _ (by omega))))⟩)))
    · refine lv_bipush (v := (-2)) S.1 S.2.1 dX7_price_22 (by decide) ?_
      exact m_reti S hr hlocks hw dX7_price_24 (Dec1.yes hc1 (Dec1.no ((wi_upto y (by decide)).symm.trans c2) ⟨rfl, rfl⟩))
  · refine lv_iconst (v := (-1)) S.1 S.2.1 dX7_price_10 (by decide) ?_
    exact m_reti S hr hlocks hw dX7_price_11 (Dec1.no ((wi_upto x (by decide)).symm.trans c1) ⟨rfl, rfl⟩)

set_option maxHeartbeats 4000000 in
set_option maxRecDepth 100000 in
/-- OilLine.wait -/
theorem c_X7_wait (l : Launch) (G : GT) (N K : Nat) (ad : Nat → Nat) (M : Mem) (h34 : 34 ≤ N) (x : Int32) : CmI l G N K ad yX7_wait cX7_wait 2 .int 1 22 [.ref (ad 0), .int x] M (fun r M1 => Dec1 (inB x 1001) (r = -2 ∧ M1 = M) (r = M 20 0 + x ∧ M1 0 = (upd (M 0) 8 (nI 0)) ∧ M1 20 = (upd (M 20) 0 (M 20 0 + x)) ∧ (∀ k, k ≠ 0 ∧ k ≠ 20 → M1 k = M k))) := by
  refine cm_startI (by decide +kernel) (Nat.le_of_ble_eq_true rfl) ?_
  intro p e s m below meth c ls S hr hlocks hw hl
  have hl : lv_has ls 2 [(0, .ref (ad 0)), (1, .int x)] := hl
  refine lv_iload_n S.1 S.2.1 dX7_wait_0 rfl (lv_at hl 1 rfl) ?_
  refine lv_iconst (v := nI 0) S.1 S.2.1 dX7_wait_1 (by decide) ?_
  refine lv_sipush (v := nI 1000) S.1 S.2.1 dX7_wait_2 (by decide) ?_
  refine r_SI (As := [.int x, .int (nI 0), .int (nI 1000)]) (rest := []) S hw (c_X7_within l G N K ad M x (nI 0) (nI 1000)) mf_X7_within wm_X7_63 ⟨by decide, by decide⟩ ⟨Nat.le_refl _, Nat.le_refl _⟩ hl.1 rfl (Nat.le_of_ble_eq_true rfl) dX7_wait_5 (fun H locs hw => ?_)
  refine b_ne (tgt := 14) S dX7_wait_8 (by decide) (fun c1 => ?_) (fun c1 => ?_)
  · refine lv_aload_n S.1 S.2.1 dX7_wait_14 rfl (lv_at hl 0 rfl) ?_
    refine lv_iconst (v := nI 0) S.1 S.2.1 dX7_wait_15 (by decide) ?_
    refine n_putI 0 8 S hw (by omega) rfl rfl rfl in_X7 tyX7_ok nmX7 (by decide) rfl rfl wf_X7_55 dX7_wait_16 (fun M2 H locs eM2 hw => ?_)
    refine lv_aload_n S.1 S.2.1 dX7_wait_19 rfl (lv_at hl 0 rfl) ?_
    refine m_getR 0 6 20 S hw (by omega) rfl rfl rfl in_X7 (by decide) wf_X7_47 dX7_wait_20 ?_
    refine lv_dup S.1 S.2.1 dX7_wait_23 rfl ?_
    refine m_getI 20 0 S hw (by omega) rfl rfl rfl in_X1 (by decide) wf_X7_163 dX7_wait_24 ?_
    have hq3 : M2 20 = M 20 := by rw [eM2, va_up_ne _ _ (by omega)]
    refine m_top (show M2 20 0 = M 20 0 from congrFun hq3 0) ?_
    refine lv_iload_n S.1 S.2.1 dX7_wait_27 rfl (lv_at hl 1 rfl) ?_
    refine lv_iadd S.1 S.2.1 dX7_wait_28 ?_
    refine n_putI 20 0 S hw (by omega) rfl rfl rfl in_X1 tyX1_ok nmX1 (by decide) rfl rfl wf_X7_163 dX7_wait_29 (fun M4 H locs eM4 hw => ?_)
    refine lv_aload_n S.1 S.2.1 dX7_wait_32 rfl (lv_at hl 0 rfl) ?_
    refine m_getR 0 6 20 S hw (by omega) rfl rfl rfl in_X7 (by decide) wf_X7_47 dX7_wait_33 ?_
    refine m_getI 20 0 S hw (by omega) rfl rfl rfl in_X1 (by decide) wf_X7_163 dX7_wait_36 ?_
    have hq5 : M4 20 = upd (M 20) 0 ((M 20 0) + x) := by rw [eM4, va_up_self, hq3]
    refine m_top (show M4 20 0 = (upd (M 20) 0 ((M 20 0) + x)) 0 from congrFun hq5 0) ?_
    refine m_top (show (upd (M 20) 0 ((M 20 0) + x)) 0 = (M 20 0) + x from pk_us) ?_
    have hq6 : M2 0 = upd (M 0) 8 (nI 0) := by rw [eM2, va_up_self]
    have hq7 : M4 0 = upd (M 0) 8 (nI 0) := by rw [eM4, va_up_ne _ _ (by omega), hq6]
    exact m_reti S hr hlocks hw dX7_wait_39 (Dec1.yes ((wi_upto x (by decide)).symm.trans c1) ⟨rfl, hq7, hq5, (fun k hk => ((show M4 k = M2 k by rw [eM4]; exact va_up_ne _ _ (by omega)).trans (show M2 k = M k by rw [eM2]; exact va_up_ne _ _ (by omega))))⟩)
  · refine lv_bipush (v := (-2)) S.1 S.2.1 dX7_wait_11 (by decide) ?_
    exact m_reti S hr hlocks hw dX7_wait_13 (Dec1.no ((wi_upto x (by decide)).symm.trans c1) ⟨rfl, rfl⟩)

set_option maxHeartbeats 4000000 in
set_option maxRecDepth 100000 in
/-- OilLine.door -/
theorem c_X7_door (l : Launch) (G : GT) (N K : Nat) (ad : Nat → Nat) (M : Mem) (h34 : 34 ≤ N) (D : Nat) (hD : M 6 0 = nI D) (hD6 : D ≤ 6) (n : Nat) (hn : M 21 0 = nI n) (hn1 : n ≤ 120) (x : Int32) : CmI l G N K ad yX7_door cX7_door 2 .int 1 22 [.ref (ad 0), .int x] M (fun r M1 => Dec1 (inB x (n + 1)) (r = -2 ∧ M1 = M) (Dec1 (!anyB (fun d => eqB (M 7 d) x) D) (r = -3 ∧ M1 = M) (Dec1 (decide (D < 6)) (r = -4 ∧ M1 = M) (r = nI D ∧ M1 0 = (upd (M 0) 8 (nI 0)) ∧ M1 6 = (upd (M 6) 0 (nI (D + 1))) ∧ M1 7 = (upd (M 7) D x) ∧ M1 8 = (upd (M 8) D (nI 10)) ∧ M1 9 = (M 9) ∧ M1 10 = (M 10) ∧ M1 11 = (M 11) ∧ (∀ k, k ≠ 0 ∧ (k < 6 ∨ 12 ≤ k) → M1 k = M k))))) := by
  refine cm_startI (by decide +kernel) (Nat.le_of_ble_eq_true rfl) ?_
  intro p e s m below meth c ls S hr hlocks hw hl
  have hl : lv_has ls 2 [(0, .ref (ad 0)), (1, .int x)] := hl
  refine lv_iload_n S.1 S.2.1 dX7_door_0 rfl (lv_at hl 1 rfl) ?_
  refine lv_iconst (v := nI 0) S.1 S.2.1 dX7_door_1 (by decide) ?_
  refine lv_aload_n S.1 S.2.1 dX7_door_2 rfl (lv_at hl 0 rfl) ?_
  refine m_getR 0 6 20 S hw (by omega) rfl rfl rfl in_X7 (by decide) wf_X7_47 dX7_door_3 ?_
  refine m_getR 20 3 21 S hw (by omega) rfl rfl rfl in_X1 (by decide) wf_X7_73 dX7_door_6 ?_
  refine m_getI 21 0 S hw (by omega) rfl rfl rfl in_X2 (by decide) wf_X7_77 dX7_door_9 ?_
  refine m_top (show M 21 0 = nI n from hn) ?_
  refine r_SI (As := [.int x, .int (nI 0), .int (nI n)]) (rest := []) S hw (c_X7_within l G N K ad M x (nI 0) (nI n)) mf_X7_within wm_X7_63 ⟨by decide, by decide⟩ ⟨Nat.le_refl _, Nat.le_refl _⟩ hl.1 rfl (Nat.le_of_ble_eq_true rfl) dX7_door_12 (fun H locs hw => ?_)
  refine b_ne (tgt := 21) S dX7_door_15 (by decide) (fun c1 => ?_) (fun c1 => ?_)
  · refine lv_aload_n S.1 S.2.1 dX7_door_21 rfl (lv_at hl 0 rfl) ?_
    refine m_getR 0 1 6 S hw (by omega) rfl rfl rfl in_X7 (by decide) wf_X7_19 dX7_door_22 ?_
    refine lv_iload_n S.1 S.2.1 dX7_door_25 rfl (lv_at hl 1 rfl) ?_
    refine r_VI (As := [.int x]) (rest := []) 6 S hw (by omega) rfl rfl (c_X0_isTaken l G N K ad M h34 D hD hD6 x) mf_X0_isTaken wm_X7_80 ⟨by decide, by decide⟩ ⟨Nat.le_refl _, Nat.le_refl _⟩ hl.1 rfl (Nat.le_of_ble_eq_true rfl) dX7_door_26 (fun H locs hw => ?_)
    refine b_eq (tgt := 35) S dX7_door_29 (by decide) (fun c2 => ?_) (fun c2 => ?_)
    · refine lv_aload_n S.1 S.2.1 dX7_door_35 rfl (lv_at hl 0 rfl) ?_
      refine m_getR 0 1 6 S hw (by omega) rfl rfl rfl in_X7 (by decide) wf_X7_19 dX7_door_36 ?_
      refine m_getI 6 0 S hw (by omega) rfl rfl rfl in_X0 (by decide) wf_X7_84 dX7_door_39 ?_
      refine m_top (show M 6 0 = nI D from hD) ?_
      refine lv_bipush (v := nI 6) S.1 S.2.1 dX7_door_42 (by decide) ?_
      refine n_lt (tgt := 50) S (by omega) (by omega) dX7_door_44 (by decide) (fun c3 => ?_) (fun c3 => ?_)
      · refine lv_aload_n S.1 S.2.1 dX7_door_50 rfl (lv_at hl 0 rfl) ?_
        refine lv_iconst (v := nI 0) S.1 S.2.1 dX7_door_51 (by decide) ?_
        refine n_putI 0 8 S hw (by omega) rfl rfl rfl in_X7 tyX7_ok nmX7 (by decide) rfl rfl wf_X7_55 dX7_door_52 (fun M4 H locs eM4 hw => ?_)
        refine lv_aload_n S.1 S.2.1 dX7_door_55 rfl (lv_at hl 0 rfl) ?_
        refine m_getR 0 1 6 S hw (by omega) rfl rfl rfl in_X7 (by decide) wf_X7_19 dX7_door_56 ?_
        refine lv_iload_n S.1 S.2.1 dX7_door_59 rfl (lv_at hl 1 rfl) ?_
        have hq5 : M4 6 = M 6 := by rw [eM4, va_up_ne _ _ (by omega)]
        refine m_VI (As := [.int x]) (rest := []) 6 S hw (by omega) rfl rfl (c_X0_open l G N K ad M4 h34 D (by rw [hq5]; exact hD) (by omega) x) mf_X0_open wm_X7_85 ⟨by decide, by decide⟩ ⟨Nat.le_refl _, Nat.le_refl _⟩ hl.1 rfl (Nat.le_of_ble_eq_true rfl) dX7_door_60 (fun r6 M6 H locs hp6 hw => ?_)
        have er6 : r6 = nI D := hp6.1
        have e6_6 : M6 6 = (upd (M4 6) 0 (nI (D + 1))) := hp6.2.1
        have e7_6 : M6 7 = (upd (M4 7) D x) := hp6.2.2.1
        have e8_6 : M6 8 = (upd (M4 8) D (nI 10)) := hp6.2.2.2.1
        have e9_6 : M6 9 = (M4 9) := hp6.2.2.2.2.1
        have e10_6 : M6 10 = (M4 10) := hp6.2.2.2.2.2.1
        have e11_6 : M6 11 = (M4 11) := hp6.2.2.2.2.2.2.1
        have fr6 : Fr 6 12 M4 M6 := hp6.2.2.2.2.2.2.2
        refine m_top (show r6 = nI D from er6) ?_
        have hq7 : M4 0 = upd (M 0) 8 (nI 0) := by rw [eM4, va_up_self]
        have hq8 : M6 0 = upd (M 0) 8 (nI 0) := (fr6 0 (by omega)).trans hq7
        have hq9 : M6 6 = upd (M 6) 0 (nI (D + 1)) := by rw [e6_6, hq5]
        have hq10 : M4 7 = M 7 := by rw [eM4, va_up_ne _ _ (by omega)]
        have hq11 : M6 7 = upd (M 7) D x := by rw [e7_6, hq10]
        have hq12 : M4 8 = M 8 := by rw [eM4, va_up_ne _ _ (by omega)]
        have hq13 : M6 8 = upd (M 8) D (nI 10) := by rw [e8_6, hq12]
        have hq14 : M4 9 = M 9 := by rw [eM4, va_up_ne _ _ (by omega)]
        have hq15 : M6 9 = M 9 := e9_6.trans hq14
        have hq16 : M4 10 = M 10 := by rw [eM4, va_up_ne _ _ (by omega)]
        have hq17 : M6 10 = M 10 := e10_6.trans hq16
        have hq18 : M4 11 = M 11 := by rw [eM4, va_up_ne _ _ (by omega)]
        have hq19 : M6 11 = M 11 := e11_6.trans hq18
        exact m_reti S hr hlocks hw dX7_door_63 (Dec1.yes ((wi_upto x (by omega)).symm.trans c1) (Dec1.yes (by rw [c2]; rfl) (Dec1.yes (decide_eq_true (by omega)) ⟨rfl, hq8, hq9, hq11, hq13, hq15, hq17, hq19, (fun k hk => ((fr6 k (by omega)).trans (show M4 k = M k by rw [eM4]; exact va_up_ne _ _ (by omega))))⟩)))
      · refine lv_bipush (v := (-4)) S.1 S.2.1 dX7_door_47 (by decide) ?_
        exact m_reti S hr hlocks hw dX7_door_49 (Dec1.yes ((wi_upto x (by omega)).symm.trans c1) (Dec1.yes (by rw [c2]; rfl) (Dec1.no (decide_eq_false (by omega)) ⟨rfl, rfl⟩)))
    · refine lv_bipush (v := (-3)) S.1 S.2.1 dX7_door_32 (by decide) ?_
      exact m_reti S hr hlocks hw dX7_door_34 (Dec1.yes ((wi_upto x (by omega)).symm.trans c1) (Dec1.no (by rw [c2]; rfl) ⟨rfl, rfl⟩))
  · refine lv_bipush (v := (-2)) S.1 S.2.1 dX7_door_18 (by decide) ?_
    exact m_reti S hr hlocks hw dX7_door_20 (Dec1.no ((wi_upto x (by omega)).symm.trans c1) ⟨rfl, rfl⟩)

set_option maxHeartbeats 4000000 in
set_option maxRecDepth 100000 in
/-- OilLine.follow -/
theorem c_X7_follow (l : Launch) (G : GT) (N K : Nat) (ad : Nat → Nat) (M : Mem) (h34 : 34 ≤ N) (x y u v : Int32) : CmI l G N K ad yX7_follow cX7_follow 5 .int 2 42 [.ref (ad 0), .int x, .int y, .int u, .int v] M (fun r M1 => Dec1 (inB x 8 && inB y 8) (r = -1 ∧ M1 = M) (Dec1 (inB u 2 && inB v 201) (r = -2 ∧ M1 = M) (Dec1 (!(eqB u 0 && eqB x y)) (r = -3 ∧ M1 = M) (r = nI 0 ∧ M1 0 = (upd (M 0) 8 (nI 0)) ∧ M1 2 = (upd (M 2) (tn x * 8 + tn y) (b01 (eqB u (nI 1)))) ∧ M1 3 = (upd (M 3) (tn x * 8 + tn y) v) ∧ M1 4 = (M 4) ∧ M1 5 = (M 5) ∧ (∀ k, k ≠ 0 ∧ (k < 1 ∨ 6 ≤ k) → M1 k = M k))))) := by
  refine cm_startI (by decide +kernel) (Nat.le_of_ble_eq_true rfl) ?_
  intro p e s m below meth c ls S hr hlocks hw hl
  have hl : lv_has ls 5 [(0, .ref (ad 0)), (1, .int x), (2, .int y), (3, .int u), (4, .int v)] := hl
  refine lv_iload_n S.1 S.2.1 dX7_follow_0 rfl (lv_at hl 1 rfl) ?_
  refine r_SI (As := [.int x]) (rest := []) S hw (c_X7_isKind l G N K ad M x) mf_X7_isKind wm_X7_92 ⟨by decide, by decide⟩ ⟨Nat.le_refl _, Nat.le_refl _⟩ hl.1 rfl (Nat.le_of_ble_eq_true rfl) dX7_follow_1 (fun H locs hw => ?_)
  refine b_eq (tgt := 14) S dX7_follow_4 (by decide) (fun c1 => ?_) (fun c1 => ?_)
  · refine lv_iconst (v := (-1)) S.1 S.2.1 dX7_follow_14 (by decide) ?_
    exact m_reti S hr hlocks hw dX7_follow_15 (Dec1.no (and_f1 c1) ⟨rfl, rfl⟩)
  · obtain ⟨a, ha, ea⟩ := inB_of c1 (by omega)
    have ta : tn x = a := tn_of ea (by omega)
    refine lv_iload_n S.1 S.2.1 dX7_follow_7 rfl (lv_at hl 2 rfl) ?_
    refine r_SI (As := [.int y]) (rest := []) S hw (c_X7_isKind l G N K ad M y) mf_X7_isKind wm_X7_92 ⟨by decide, by decide⟩ ⟨Nat.le_refl _, Nat.le_refl _⟩ hl.1 rfl (Nat.le_of_ble_eq_true rfl) dX7_follow_8 (fun H locs hw => ?_)
    refine b_ne (tgt := 16) S dX7_follow_11 (by decide) (fun c2 => ?_) (fun c2 => ?_)
    · obtain ⟨b, hb, eb⟩ := inB_of c2 (by omega)
      have tb : tn y = b := tn_of eb (by omega)
      refine lv_iload_n S.1 S.2.1 dX7_follow_16 rfl (lv_at hl 3 rfl) ?_
      refine lv_iconst (v := nI 0) S.1 S.2.1 dX7_follow_17 (by decide) ?_
      refine lv_iconst (v := nI 1) S.1 S.2.1 dX7_follow_18 (by decide) ?_
      refine r_SI (As := [.int u, .int (nI 0), .int (nI 1)]) (rest := []) S hw (c_X7_within l G N K ad M u (nI 0) (nI 1)) mf_X7_within wm_X7_63 ⟨by decide, by decide⟩ ⟨Nat.le_refl _, Nat.le_refl _⟩ hl.1 rfl (Nat.le_of_ble_eq_true rfl) dX7_follow_19 (fun H locs hw => ?_)
      refine b_eq (tgt := 37) S dX7_follow_22 (by decide) (fun c3 => ?_) (fun c3 => ?_)
      · refine lv_bipush (v := (-2)) S.1 S.2.1 dX7_follow_37 (by decide) ?_
        exact m_reti S hr hlocks hw dX7_follow_39 (Dec1.yes (and_t c1 c2) (Dec1.no (and_f1 ((wi_upto u (by decide)).symm.trans c3)) ⟨rfl, rfl⟩))
      · refine lv_iload S.1 S.2.1 dX7_follow_25 (lv_at hl 4 rfl) ?_
        refine lv_iconst (v := nI 0) S.1 S.2.1 dX7_follow_27 (by decide) ?_
        refine lv_sipush (v := nI 200) S.1 S.2.1 dX7_follow_28 (by decide) ?_
        refine r_SI (As := [.int v, .int (nI 0), .int (nI 200)]) (rest := []) S hw (c_X7_within l G N K ad M v (nI 0) (nI 200)) mf_X7_within wm_X7_63 ⟨by decide, by decide⟩ ⟨Nat.le_refl _, Nat.le_refl _⟩ hl.1 rfl (Nat.le_of_ble_eq_true rfl) dX7_follow_31 (fun H locs hw => ?_)
        refine b_ne (tgt := 40) S dX7_follow_34 (by decide) (fun c4 => ?_) (fun c4 => ?_)
        · refine lv_iload_n S.1 S.2.1 dX7_follow_40 rfl (lv_at hl 3 rfl) ?_
          refine lv_if_ne (tgt := 52) S.1 S.2.1 dX7_follow_41 (by decide) (fun c5 => ?_) (fun c5 => ?_)
          · refine lv_aload_n S.1 S.2.1 dX7_follow_52 rfl (lv_at hl 0 rfl) ?_
            refine m_getR 0 0 1 S hw (by omega) rfl rfl rfl in_X7 (by decide) wf_X7_12 dX7_follow_53 ?_
            refine lv_iload_n S.1 S.2.1 dX7_follow_56 rfl (lv_at hl 1 rfl) ?_
            refine m_top (show x = nI a from ea) ?_
            refine lv_iload_n S.1 S.2.1 dX7_follow_57 rfl (lv_at hl 2 rfl) ?_
            refine m_top (show y = nI b from eb) ?_
            refine lv_iload_n S.1 S.2.1 dX7_follow_58 rfl (lv_at hl 3 rfl) ?_
            refine lv_iconst (v := nI 1) S.1 S.2.1 dX7_follow_59 (by decide) ?_
            refine lv_icmp_ne (tgt := 67) S.1 S.2.1 dX7_follow_60 (by decide) (fun c6 => ?_) (fun c6 => ?_)
            · refine lv_iconst (v := nI 0) S.1 S.2.1 dX7_follow_67 (by decide) ?_
              refine lv_iload S.1 S.2.1 dX7_follow_68 (lv_at hl 4 rfl) ?_
              refine m_VV (As := [.int (nI a), .int (nI b), .int (nI 0), .int v]) (rest := []) 1 S hw (by omega) rfl rfl (c_X5_tellPair l G N K ad M h34 a b (by omega) (by omega) false v) mf_X5_tellPair wm_X7_117 ⟨by decide, by decide⟩ ⟨Nat.le_refl _, Nat.le_refl _⟩ hl.1 rfl (Nat.le_of_ble_eq_true rfl) dX7_follow_70 (fun M7 H locs hp7 hw => ?_)
              have e2_7 : M7 2 = (upd (M 2) (a * 8 + b) (b01 false)) := hp7.1
              have e3_7 : M7 3 = (upd (M 3) (a * 8 + b) v) := hp7.2.1
              have e4_7 : M7 4 = (M 4) := hp7.2.2.1
              have e5_7 : M7 5 = (M 5) := hp7.2.2.2.1
              have fr7 : Fr 1 6 M M7 := hp7.2.2.2.2
              refine lv_aload_n S.1 S.2.1 dX7_follow_73 rfl (lv_at hl 0 rfl) ?_
              refine lv_iconst (v := nI 0) S.1 S.2.1 dX7_follow_74 (by decide) ?_
              refine n_putI 0 8 S hw (by omega) rfl rfl rfl in_X7 tyX7_ok nmX7 (by decide) rfl rfl wf_X7_55 dX7_follow_75 (fun M8 H locs eM8 hw => ?_)
              refine lv_iconst (v := nI 0) S.1 S.2.1 dX7_follow_78 (by decide) ?_
              have hq9 : M7 0 = M 0 := fr7 0 (by omega)
              have hq10 : M8 0 = upd (M 0) 8 (nI 0) := by rw [eM8, va_up_self, hq9]
              have hq11 : M8 2 = upd (M 2) (a * 8 + b) (b01 false) := by rw [eM8, va_up_ne _ _ (by omega), e2_7]
              have hq12 : M8 3 = upd (M 3) (a * 8 + b) v := by rw [eM8, va_up_ne _ _ (by omega), e3_7]
              have hq13 : M8 4 = M 4 := by rw [eM8, va_up_ne _ _ (by omega), e4_7]
              have hq14 : M8 5 = M 5 := by rw [eM8, va_up_ne _ _ (by omega), e5_7]
              exact m_reti S hr hlocks hw dX7_follow_79 (Dec1.yes (and_t c1 c2) (Dec1.yes (and_t ((wi_upto u (by decide)).symm.trans c3) ((wi_upto v (by decide)).symm.trans c4)) (Dec1.yes (by rw [eqB_f (x := u) c5]; rfl) (by rw [ta, tb, eqB_f (x := u) c6]; exact ⟨rfl, hq10, hq11, hq12, hq13, hq14, (fun k hk => ((show M8 k = M7 k by rw [eM8]; exact va_up_ne _ _ (by omega)).trans (fr7 k (by omega))))⟩))))
            · refine lv_iconst (v := nI 1) S.1 S.2.1 dX7_follow_63 (by decide) ?_
              refine lv_goto (tgt := 68) S.1 S.2.1 dX7_follow_64 (by decide) ?_
              refine lv_iload S.1 S.2.1 dX7_follow_68 (lv_at hl 4 rfl) ?_
              refine m_VV (As := [.int (nI a), .int (nI b), .int (nI 1), .int v]) (rest := []) 1 S hw (by omega) rfl rfl (c_X5_tellPair l G N K ad M h34 a b (by omega) (by omega) true v) mf_X5_tellPair wm_X7_117 ⟨by decide, by decide⟩ ⟨Nat.le_refl _, Nat.le_refl _⟩ hl.1 rfl (Nat.le_of_ble_eq_true rfl) dX7_follow_70 (fun M15 H locs hp15 hw => ?_)
              have e2_15 : M15 2 = (upd (M 2) (a * 8 + b) (b01 true)) := hp15.1
              have e3_15 : M15 3 = (upd (M 3) (a * 8 + b) v) := hp15.2.1
              have e4_15 : M15 4 = (M 4) := hp15.2.2.1
              have e5_15 : M15 5 = (M 5) := hp15.2.2.2.1
              have fr15 : Fr 1 6 M M15 := hp15.2.2.2.2
              refine lv_aload_n S.1 S.2.1 dX7_follow_73 rfl (lv_at hl 0 rfl) ?_
              refine lv_iconst (v := nI 0) S.1 S.2.1 dX7_follow_74 (by decide) ?_
              refine n_putI 0 8 S hw (by omega) rfl rfl rfl in_X7 tyX7_ok nmX7 (by decide) rfl rfl wf_X7_55 dX7_follow_75 (fun M16 H locs eM16 hw => ?_)
              refine lv_iconst (v := nI 0) S.1 S.2.1 dX7_follow_78 (by decide) ?_
              have hq17 : M15 0 = M 0 := fr15 0 (by omega)
              have hq18 : M16 0 = upd (M 0) 8 (nI 0) := by rw [eM16, va_up_self, hq17]
              have hq19 : M16 2 = upd (M 2) (a * 8 + b) (b01 true) := by rw [eM16, va_up_ne _ _ (by omega), e2_15]
              have hq20 : M16 3 = upd (M 3) (a * 8 + b) v := by rw [eM16, va_up_ne _ _ (by omega), e3_15]
              have hq21 : M16 4 = M 4 := by rw [eM16, va_up_ne _ _ (by omega), e4_15]
              have hq22 : M16 5 = M 5 := by rw [eM16, va_up_ne _ _ (by omega), e5_15]
              exact m_reti S hr hlocks hw dX7_follow_79 (Dec1.yes (and_t c1 c2) (Dec1.yes (and_t ((wi_upto u (by decide)).symm.trans c3) ((wi_upto v (by decide)).symm.trans c4)) (Dec1.yes (by rw [eqB_f (x := u) c5]; rfl) (by rw [ta, tb, eqB_t (x := u) c6]; exact ⟨rfl, hq18, hq19, hq20, hq21, hq22, (fun k hk => ((show M16 k = M15 k by rw [eM16]; exact va_up_ne _ _ (by omega)).trans (fr15 k (by omega))))⟩))))
          · refine lv_iload_n S.1 S.2.1 dX7_follow_44 rfl (lv_at hl 1 rfl) ?_
            refine m_top (show x = nI a from ea) ?_
            refine lv_iload_n S.1 S.2.1 dX7_follow_45 rfl (lv_at hl 2 rfl) ?_
            refine m_top (show y = nI b from eb) ?_
            refine n_ne (tgt := 52) S (by omega) (by omega) dX7_follow_46 (by decide) (fun c23 => ?_) (fun c23 => ?_)
            · have hdiff : ¬ x = y := by rw [ea, eb]; exact fun z => c23 ((nI_eq (by omega) (by omega)).mp z)
              refine lv_aload_n S.1 S.2.1 dX7_follow_52 rfl (lv_at hl 0 rfl) ?_
              refine m_getR 0 0 1 S hw (by omega) rfl rfl rfl in_X7 (by decide) wf_X7_12 dX7_follow_53 ?_
              refine lv_iload_n S.1 S.2.1 dX7_follow_56 rfl (lv_at hl 1 rfl) ?_
              refine m_top (show x = nI a from ea) ?_
              refine lv_iload_n S.1 S.2.1 dX7_follow_57 rfl (lv_at hl 2 rfl) ?_
              refine m_top (show y = nI b from eb) ?_
              refine lv_iload_n S.1 S.2.1 dX7_follow_58 rfl (lv_at hl 3 rfl) ?_
              refine lv_iconst (v := nI 1) S.1 S.2.1 dX7_follow_59 (by decide) ?_
              refine lv_icmp_ne (tgt := 67) S.1 S.2.1 dX7_follow_60 (by decide) (fun c24 => ?_) (fun c24 => ?_)
              · refine lv_iconst (v := nI 0) S.1 S.2.1 dX7_follow_67 (by decide) ?_
                refine lv_iload S.1 S.2.1 dX7_follow_68 (lv_at hl 4 rfl) ?_
                refine m_VV (As := [.int (nI a), .int (nI b), .int (nI 0), .int v]) (rest := []) 1 S hw (by omega) rfl rfl (c_X5_tellPair l G N K ad M h34 a b (by omega) (by omega) false v) mf_X5_tellPair wm_X7_117 ⟨by decide, by decide⟩ ⟨Nat.le_refl _, Nat.le_refl _⟩ hl.1 rfl (Nat.le_of_ble_eq_true rfl) dX7_follow_70 (fun M25 H locs hp25 hw => ?_)
                have e2_25 : M25 2 = (upd (M 2) (a * 8 + b) (b01 false)) := hp25.1
                have e3_25 : M25 3 = (upd (M 3) (a * 8 + b) v) := hp25.2.1
                have e4_25 : M25 4 = (M 4) := hp25.2.2.1
                have e5_25 : M25 5 = (M 5) := hp25.2.2.2.1
                have fr25 : Fr 1 6 M M25 := hp25.2.2.2.2
                refine lv_aload_n S.1 S.2.1 dX7_follow_73 rfl (lv_at hl 0 rfl) ?_
                refine lv_iconst (v := nI 0) S.1 S.2.1 dX7_follow_74 (by decide) ?_
                refine n_putI 0 8 S hw (by omega) rfl rfl rfl in_X7 tyX7_ok nmX7 (by decide) rfl rfl wf_X7_55 dX7_follow_75 (fun M26 H locs eM26 hw => ?_)
                refine lv_iconst (v := nI 0) S.1 S.2.1 dX7_follow_78 (by decide) ?_
                have hq27 : M25 0 = M 0 := fr25 0 (by omega)
                have hq28 : M26 0 = upd (M 0) 8 (nI 0) := by rw [eM26, va_up_self, hq27]
                have hq29 : M26 2 = upd (M 2) (a * 8 + b) (b01 false) := by rw [eM26, va_up_ne _ _ (by omega), e2_25]
                have hq30 : M26 3 = upd (M 3) (a * 8 + b) v := by rw [eM26, va_up_ne _ _ (by omega), e3_25]
                have hq31 : M26 4 = M 4 := by rw [eM26, va_up_ne _ _ (by omega), e4_25]
                have hq32 : M26 5 = M 5 := by rw [eM26, va_up_ne _ _ (by omega), e5_25]
                exact m_reti S hr hlocks hw dX7_follow_79 (Dec1.yes (and_t c1 c2) (Dec1.yes (and_t ((wi_upto u (by decide)).symm.trans c3) ((wi_upto v (by decide)).symm.trans c4)) (Dec1.yes (by rw [eqB_f hdiff]; cases eqB u 0 <;> rfl) (by rw [ta, tb, eqB_f (x := u) c24]; exact ⟨rfl, hq28, hq29, hq30, hq31, hq32, (fun k hk => ((show M26 k = M25 k by rw [eM26]; exact va_up_ne _ _ (by omega)).trans (fr25 k (by omega))))⟩))))
              · refine lv_iconst (v := nI 1) S.1 S.2.1 dX7_follow_63 (by decide) ?_
                refine lv_goto (tgt := 68) S.1 S.2.1 dX7_follow_64 (by decide) ?_
                refine lv_iload S.1 S.2.1 dX7_follow_68 (lv_at hl 4 rfl) ?_
                refine m_VV (As := [.int (nI a), .int (nI b), .int (nI 1), .int v]) (rest := []) 1 S hw (by omega) rfl rfl (c_X5_tellPair l G N K ad M h34 a b (by omega) (by omega) true v) mf_X5_tellPair wm_X7_117 ⟨by decide, by decide⟩ ⟨Nat.le_refl _, Nat.le_refl _⟩ hl.1 rfl (Nat.le_of_ble_eq_true rfl) dX7_follow_70 (fun M33 H locs hp33 hw => ?_)
                have e2_33 : M33 2 = (upd (M 2) (a * 8 + b) (b01 true)) := hp33.1
                have e3_33 : M33 3 = (upd (M 3) (a * 8 + b) v) := hp33.2.1
                have e4_33 : M33 4 = (M 4) := hp33.2.2.1
                have e5_33 : M33 5 = (M 5) := hp33.2.2.2.1
                have fr33 : Fr 1 6 M M33 := hp33.2.2.2.2
                refine lv_aload_n S.1 S.2.1 dX7_follow_73 rfl (lv_at hl 0 rfl) ?_
                refine lv_iconst (v := nI 0) S.1 S.2.1 dX7_follow_74 (by decide) ?_
                refine n_putI 0 8 S hw (by omega) rfl rfl rfl in_X7 tyX7_ok nmX7 (by decide) rfl rfl wf_X7_55 dX7_follow_75 (fun M34 H locs eM34 hw => ?_)
                refine lv_iconst (v := nI 0) S.1 S.2.1 dX7_follow_78 (by decide) ?_
                have hq35 : M33 0 = M 0 := fr33 0 (by omega)
                have hq36 : M34 0 = upd (M 0) 8 (nI 0) := by rw [eM34, va_up_self, hq35]
                have hq37 : M34 2 = upd (M 2) (a * 8 + b) (b01 true) := by rw [eM34, va_up_ne _ _ (by omega), e2_33]
                have hq38 : M34 3 = upd (M 3) (a * 8 + b) v := by rw [eM34, va_up_ne _ _ (by omega), e3_33]
                have hq39 : M34 4 = M 4 := by rw [eM34, va_up_ne _ _ (by omega), e4_33]
                have hq40 : M34 5 = M 5 := by rw [eM34, va_up_ne _ _ (by omega), e5_33]
                exact m_reti S hr hlocks hw dX7_follow_79 (Dec1.yes (and_t c1 c2) (Dec1.yes (and_t ((wi_upto u (by decide)).symm.trans c3) ((wi_upto v (by decide)).symm.trans c4)) (Dec1.yes (by rw [eqB_f hdiff]; cases eqB u 0 <;> rfl) (by rw [ta, tb, eqB_t (x := u) c24]; exact ⟨rfl, hq36, hq37, hq38, hq39, hq40, (fun k hk => ((show M34 k = M33 k by rw [eM34]; exact va_up_ne _ _ (by omega)).trans (fr33 k (by omega))))⟩))))
            · have hsame : x = y := by rw [ea, eb, c23]
              refine lv_bipush (v := (-3)) S.1 S.2.1 dX7_follow_49 (by decide) ?_
              exact m_reti S hr hlocks hw dX7_follow_51 (Dec1.yes (and_t c1 c2) (Dec1.yes (and_t ((wi_upto u (by decide)).symm.trans c3) ((wi_upto v (by decide)).symm.trans c4)) (Dec1.no (by rw [eqB_t (x := u) c5, eqB_t hsame]; rfl) ⟨rfl, rfl⟩)))
        · refine lv_bipush (v := (-2)) S.1 S.2.1 dX7_follow_37 (by decide) ?_
          exact m_reti S hr hlocks hw dX7_follow_39 (Dec1.yes (and_t c1 c2) (Dec1.no (and_f2 ((wi_upto v (by decide)).symm.trans c4)) ⟨rfl, rfl⟩))
    · refine lv_iconst (v := (-1)) S.1 S.2.1 dX7_follow_14 (by decide) ?_
      exact m_reti S hr hlocks hw dX7_follow_15 (Dec1.no (and_f2 c2) ⟨rfl, rfl⟩)

set_option maxHeartbeats 4000000 in
set_option maxRecDepth 100000 in
/-- OilLine.tank -/
theorem c_X7_tank (l : Launch) (G : GT) (N K : Nat) (ad : Nat → Nat) (M : Mem) (h34 : 34 ≤ N) (D : Nat) (hD : M 6 0 = nI D) (hD6 : D ≤ 6) (x y u v z : Int32) : CmI l G N K ad yX7_tank cX7_tank 7 .int 2 43 [.ref (ad 0), .int x, .int y, .int u, .int v, .int z] M (fun r M1 => Dec1 (inB x D && inB y 8) (r = -1 ∧ M1 = M) (Dec1 (okTank u v z) (r = -2 ∧ M1 = M) (Dec1 (eqB (M 9 (tn x * 8 + tn y)) 0) (r = -3 ∧ M1 = M) (r = nI 0 ∧ M1 0 = (upd (M 0) 8 (nI 0)) ∧ M1 6 = (M 6) ∧ M1 7 = (M 7) ∧ M1 8 = (M 8) ∧ M1 9 = (upd (M 9) (tn x * 8 + tn y) (nI 1)) ∧ M1 10 = (upd (M 10) (tn x * 8 + tn y) u) ∧ M1 11 = (upd (M 11) (tn x * 8 + tn y) v) ∧ M1 27 = (upd (M 27) (tn x * 8 + tn y) z) ∧ M1 28 = (upd (M 28) (tn x * 8 + tn y) (nI 0)) ∧ M1 29 = (upd (M 29) (tn x * 8 + tn y) (nI 0)) ∧ M1 30 = (M 30) ∧ (∀ k, k ≠ 0 ∧ (k < 6 ∨ 12 ≤ k) ∧ (k < 26 ∨ 31 ≤ k) → M1 k = M k))))) := by
  refine cm_startI (by decide +kernel) (Nat.le_of_ble_eq_true rfl) ?_
  intro p e s m below meth c ls S hr hlocks hw hl
  have hl : lv_has ls 7 [(0, .ref (ad 0)), (1, .int x), (2, .int y), (3, .int u), (4, .int v), (5, .int z)] := hl
  refine lv_aload_n S.1 S.2.1 dX7_tank_0 rfl (lv_at hl 0 rfl) ?_
  refine m_getR 0 1 6 S hw (by omega) rfl rfl rfl in_X7 (by decide) wf_X7_19 dX7_tank_1 ?_
  refine lv_iload_n S.1 S.2.1 dX7_tank_4 rfl (lv_at hl 1 rfl) ?_
  refine r_VI (As := [.int x]) (rest := []) 6 S hw (by omega) rfl rfl (c_X0_has l G N K ad M h34 D hD hD6 x) mf_X0_has wm_X7_89 ⟨by decide, by decide⟩ ⟨Nat.le_refl _, Nat.le_refl _⟩ hl.1 rfl (Nat.le_of_ble_eq_true rfl) dX7_tank_5 (fun H locs hw => ?_)
  refine b_eq (tgt := 18) S dX7_tank_8 (by decide) (fun c1 => ?_) (fun c1 => ?_)
  · refine lv_iconst (v := (-1)) S.1 S.2.1 dX7_tank_18 (by decide) ?_
    exact m_reti S hr hlocks hw dX7_tank_19 (Dec1.no (and_f1 c1) ⟨rfl, rfl⟩)
  · obtain ⟨a, ha, ea⟩ := inB_of c1 (by omega)
    have ta : tn x = a := tn_of ea (by omega)
    refine lv_iload_n S.1 S.2.1 dX7_tank_11 rfl (lv_at hl 2 rfl) ?_
    refine r_SI (As := [.int y]) (rest := []) S hw (c_X7_isKind l G N K ad M y) mf_X7_isKind wm_X7_92 ⟨by decide, by decide⟩ ⟨Nat.le_refl _, Nat.le_refl _⟩ hl.1 rfl (Nat.le_of_ble_eq_true rfl) dX7_tank_12 (fun H locs hw => ?_)
    refine b_ne (tgt := 20) S dX7_tank_15 (by decide) (fun c2 => ?_) (fun c2 => ?_)
    · obtain ⟨b, hb, eb⟩ := inB_of c2 (by omega)
      have tb : tn y = b := tn_of eb (by omega)
      refine lv_iload S.1 S.2.1 dX7_tank_20 (lv_at hl 4 rfl) ?_
      refine lv_iconst (v := nI 0) S.1 S.2.1 dX7_tank_22 (by decide) ?_
      refine lv_sipush (v := nI 10000) S.1 S.2.1 dX7_tank_23 (by decide) ?_
      refine r_SI (As := [.int v, .int (nI 0), .int (nI 10000)]) (rest := []) S hw (c_X7_within l G N K ad M v (nI 0) (nI 10000)) mf_X7_within wm_X7_63 ⟨by decide, by decide⟩ ⟨Nat.le_refl _, Nat.le_refl _⟩ hl.1 rfl (Nat.le_of_ble_eq_true rfl) dX7_tank_26 (fun H locs hw => ?_)
      refine b_eq (tgt := 53) S dX7_tank_29 (by decide) (fun c3 => ?_) (fun c3 => ?_)
      · refine lv_bipush (v := (-2)) S.1 S.2.1 dX7_tank_53 (by decide) ?_
        exact m_reti S hr hlocks hw dX7_tank_55 (Dec1.yes (and_t c1 c2) (Dec1.no (and_f1 c3) ⟨rfl, rfl⟩))
      · refine lv_iload_n S.1 S.2.1 dX7_tank_32 rfl (lv_at hl 3 rfl) ?_
        refine lv_iconst (v := nI 0) S.1 S.2.1 dX7_tank_33 (by decide) ?_
        refine lv_iload S.1 S.2.1 dX7_tank_34 (lv_at hl 4 rfl) ?_
        refine r_SI (As := [.int u, .int (nI 0), .int v]) (rest := []) S hw (c_X7_within l G N K ad M u (nI 0) v) mf_X7_within wm_X7_63 ⟨by decide, by decide⟩ ⟨Nat.le_refl _, Nat.le_refl _⟩ hl.1 rfl (Nat.le_of_ble_eq_true rfl) dX7_tank_36 (fun H locs hw => ?_)
        refine b_eq (tgt := 53) S dX7_tank_39 (by decide) (fun c4 => ?_) (fun c4 => ?_)
        · refine lv_bipush (v := (-2)) S.1 S.2.1 dX7_tank_53 (by decide) ?_
          exact m_reti S hr hlocks hw dX7_tank_55 (Dec1.yes (and_t c1 c2) (Dec1.no (and_f2 (and_f1 c4)) ⟨rfl, rfl⟩))
        · refine lv_iload S.1 S.2.1 dX7_tank_42 (lv_at hl 5 rfl) ?_
          refine lv_iload_n S.1 S.2.1 dX7_tank_44 rfl (lv_at hl 3 rfl) ?_
          refine lv_iload S.1 S.2.1 dX7_tank_45 (lv_at hl 4 rfl) ?_
          refine r_SI (As := [.int z, .int u, .int v]) (rest := []) S hw (c_X7_within l G N K ad M z u v) mf_X7_within wm_X7_63 ⟨by decide, by decide⟩ ⟨Nat.le_refl _, Nat.le_refl _⟩ hl.1 rfl (Nat.le_of_ble_eq_true rfl) dX7_tank_47 (fun H locs hw => ?_)
          refine b_ne (tgt := 56) S dX7_tank_50 (by decide) (fun c5 => ?_) (fun c5 => ?_)
          · refine lv_iload_n S.1 S.2.1 dX7_tank_56 rfl (lv_at hl 1 rfl) ?_
            refine m_top (show x = nI a from ea) ?_
            refine lv_iload_n S.1 S.2.1 dX7_tank_57 rfl (lv_at hl 2 rfl) ?_
            refine m_top (show y = nI b from eb) ?_
            refine r_SI (As := [.int (nI a), .int (nI b)]) (rest := []) S hw (c_X7_tankNumber l G N K ad M a b) mf_X7_tankNumber wm_X7_95 ⟨by decide, by decide⟩ ⟨Nat.le_refl _, Nat.le_refl _⟩ hl.1 rfl (Nat.le_of_ble_eq_true rfl) dX7_tank_58 (fun H locs hw => ?_)
            refine lv_istore (lv' := [(6, .int (nI (a * 8 + b))), (0, .ref (ad 0)), (1, .int x), (2, .int y), (3, .int u), (4, .int v), (5, .int z)]) S.1 S.2.1 dX7_tank_61 hl (by decide) rfl (fun ls hl => ?_)
            refine lv_aload_n S.1 S.2.1 dX7_tank_63 rfl (lv_at hl 1 rfl) ?_
            refine m_getR 0 1 6 S hw (by omega) rfl rfl rfl in_X7 (by decide) wf_X7_19 dX7_tank_64 ?_
            refine m_getR 6 3 9 S hw (by omega) rfl rfl rfl in_X0 (by decide) wf_X7_99 dX7_tank_67 ?_
            refine lv_iload S.1 S.2.1 dX7_tank_70 (lv_at hl 0 rfl) ?_
            refine m_zld 9 (a * 8 + b) S hw (by omega) rfl (by decide) (by omega) rfl dX7_tank_72 ?_
            refine lv_if_eq (tgt := 79) S.1 S.2.1 dX7_tank_73 (by decide) (fun c6 => ?_) (fun c6 => ?_)
            · refine lv_aload_n S.1 S.2.1 dX7_tank_79 rfl (lv_at hl 1 rfl) ?_
              refine m_getR 0 1 6 S hw (by omega) rfl rfl rfl in_X7 (by decide) wf_X7_19 dX7_tank_80 ?_
              refine lv_iload S.1 S.2.1 dX7_tank_83 (lv_at hl 0 rfl) ?_
              refine lv_iload_n S.1 S.2.1 dX7_tank_85 rfl (lv_at hl 4 rfl) ?_
              refine lv_iload S.1 S.2.1 dX7_tank_86 (lv_at hl 5 rfl) ?_
              refine m_VV (As := [.int (nI (a * 8 + b)), .int u, .int v]) (rest := []) 6 S hw (by omega) rfl rfl (c_X0_build l G N K ad M h34 (a * 8 + b) (by omega) u v) mf_X0_build wm_X7_103 ⟨by decide, by decide⟩ ⟨Nat.le_refl _, Nat.le_refl _⟩ hl.1 rfl (Nat.le_of_ble_eq_true rfl) dX7_tank_88 (fun M7 H locs hp7 hw => ?_)
              have e6_7 : M7 6 = (M 6) := hp7.1
              have e7_7 : M7 7 = (M 7) := hp7.2.1
              have e8_7 : M7 8 = (M 8) := hp7.2.2.1
              have e9_7 : M7 9 = (upd (M 9) (a * 8 + b) (nI 1)) := hp7.2.2.2.1
              have e10_7 : M7 10 = (upd (M 10) (a * 8 + b) u) := hp7.2.2.2.2.1
              have e11_7 : M7 11 = (upd (M 11) (a * 8 + b) v) := hp7.2.2.2.2.2.1
              have fr7 : Fr 6 12 M M7 := hp7.2.2.2.2.2.2
              refine lv_aload_n S.1 S.2.1 dX7_tank_91 rfl (lv_at hl 1 rfl) ?_
              refine m_getR 0 6 20 S hw (by omega) rfl rfl rfl in_X7 (by decide) wf_X7_47 dX7_tank_92 ?_
              refine m_getR 20 4 26 S hw (by omega) rfl rfl rfl in_X1 (by decide) wf_X7_107 dX7_tank_95 ?_
              refine lv_iload S.1 S.2.1 dX7_tank_98 (lv_at hl 0 rfl) ?_
              refine lv_iload S.1 S.2.1 dX7_tank_100 (lv_at hl 6 rfl) ?_
              refine m_VV (As := [.int (nI (a * 8 + b)), .int z]) (rest := []) 26 S hw (by omega) rfl rfl (c_X4_fill l G N K ad M7 20 (isM20 (by omega)) (a * 8 + b) (by omega) z) mf_X4_fill wm_X7_111 ⟨by decide, by decide⟩ ⟨Nat.le_refl _, Nat.le_refl _⟩ hl.1 rfl (Nat.le_of_ble_eq_true rfl) dX7_tank_102 (fun M8 H locs hp8 hw => ?_)
              have e27_8 : M8 27 = (upd (M7 27) (a * 8 + b) z) := hp8.1
              have e28_8 : M8 28 = (upd (M7 28) (a * 8 + b) (nI 0)) := hp8.2.1
              have e29_8 : M8 29 = (upd (M7 29) (a * 8 + b) (nI 0)) := hp8.2.2.1
              have e30_8 : M8 30 = (M7 30) := hp8.2.2.2.1
              have fr8 : Fr 26 31 M7 M8 := hp8.2.2.2.2
              refine lv_aload_n S.1 S.2.1 dX7_tank_105 rfl (lv_at hl 1 rfl) ?_
              refine lv_iconst (v := nI 0) S.1 S.2.1 dX7_tank_106 (by decide) ?_
              refine n_putI 0 8 S hw (by omega) rfl rfl rfl in_X7 tyX7_ok nmX7 (by decide) rfl rfl wf_X7_55 dX7_tank_107 (fun M9 H locs eM9 hw => ?_)
              refine lv_iconst (v := nI 0) S.1 S.2.1 dX7_tank_110 (by decide) ?_
              have hq10 : M7 0 = M 0 := fr7 0 (by omega)
              have hq11 : M8 0 = M 0 := (fr8 0 (by omega)).trans hq10
              have hq12 : M9 0 = upd (M 0) 8 (nI 0) := by rw [eM9, va_up_self, hq11]
              have hq13 : M8 6 = M 6 := (fr8 6 (by omega)).trans e6_7
              have hq14 : M9 6 = M 6 := by rw [eM9, va_up_ne _ _ (by omega), hq13]
              have hq15 : M8 7 = M 7 := (fr8 7 (by omega)).trans e7_7
              have hq16 : M9 7 = M 7 := by rw [eM9, va_up_ne _ _ (by omega), hq15]
              have hq17 : M8 8 = M 8 := (fr8 8 (by omega)).trans e8_7
              have hq18 : M9 8 = M 8 := by rw [eM9, va_up_ne _ _ (by omega), hq17]
              have hq19 : M8 9 = upd (M 9) (a * 8 + b) (nI 1) := (fr8 9 (by omega)).trans e9_7
              have hq20 : M9 9 = upd (M 9) (a * 8 + b) (nI 1) := by rw [eM9, va_up_ne _ _ (by omega), hq19]
              have hq21 : M8 10 = upd (M 10) (a * 8 + b) u := (fr8 10 (by omega)).trans e10_7
              have hq22 : M9 10 = upd (M 10) (a * 8 + b) u := by rw [eM9, va_up_ne _ _ (by omega), hq21]
              have hq23 : M8 11 = upd (M 11) (a * 8 + b) v := (fr8 11 (by omega)).trans e11_7
              have hq24 : M9 11 = upd (M 11) (a * 8 + b) v := by rw [eM9, va_up_ne _ _ (by omega), hq23]
              have hq25 : M7 27 = M 27 := fr7 27 (by omega)
              have hq26 : M8 27 = upd (M 27) (a * 8 + b) z := by rw [e27_8, hq25]
              have hq27 : M9 27 = upd (M 27) (a * 8 + b) z := by rw [eM9, va_up_ne _ _ (by omega), hq26]
              have hq28 : M7 28 = M 28 := fr7 28 (by omega)
              have hq29 : M8 28 = upd (M 28) (a * 8 + b) (nI 0) := by rw [e28_8, hq28]
              have hq30 : M9 28 = upd (M 28) (a * 8 + b) (nI 0) := by rw [eM9, va_up_ne _ _ (by omega), hq29]
              have hq31 : M7 29 = M 29 := fr7 29 (by omega)
              have hq32 : M8 29 = upd (M 29) (a * 8 + b) (nI 0) := by rw [e29_8, hq31]
              have hq33 : M9 29 = upd (M 29) (a * 8 + b) (nI 0) := by rw [eM9, va_up_ne _ _ (by omega), hq32]
              have hq34 : M7 30 = M 30 := fr7 30 (by omega)
              have hq35 : M8 30 = M 30 := e30_8.trans hq34
              have hq36 : M9 30 = M 30 := by rw [eM9, va_up_ne _ _ (by omega), hq35]
              exact m_reti S hr hlocks hw dX7_tank_111 (Dec1.yes (and_t c1 c2) (Dec1.yes (and_t c3 (and_t c4 c5)) (by rw [ta, tb]; exact Dec1.yes (eqB_t c6) ⟨rfl, hq12, hq14, hq16, hq18, hq20, hq22, hq24, hq27, hq30, hq33, hq36, (fun k hk => ((show M9 k = M8 k by rw [eM9]; exact va_up_ne _ _ (by omega)).trans ((fr8 k (by omega)).trans (fr7 k (by omega)))))⟩)))
            · refine lv_bipush (v := (-3)) S.1 S.2.1 dX7_tank_76 (by decide) ?_
              exact m_reti S hr hlocks hw dX7_tank_78 (Dec1.yes (and_t c1 c2) (Dec1.yes (and_t c3 (and_t c4 c5)) (Dec1.no (by rw [ta, tb]; exact eqB_f c6) ⟨rfl, rfl⟩)))
          · refine lv_bipush (v := (-2)) S.1 S.2.1 dX7_tank_53 (by decide) ?_
            exact m_reti S hr hlocks hw dX7_tank_55 (Dec1.yes (and_t c1 c2) (Dec1.no (and_f2 (and_f2 c5)) ⟨rfl, rfl⟩))
    · refine lv_iconst (v := (-1)) S.1 S.2.1 dX7_tank_18 (by decide) ?_
      exact m_reti S hr hlocks hw dX7_tank_19 (Dec1.no (and_f2 c2) ⟨rfl, rfl⟩)

theorem and3 {a b c : Bool} (h : (a && (b && c)) = true) : a = true ∧ b = true ∧ c = true := by
  cases a <;> cases b <;> cases c <;> first | exact ⟨rfl, rfl, rfl⟩ | cases h

set_option maxHeartbeats 4000000 in
set_option maxRecDepth 100000 in
/-- OilLine.wish -/
theorem c_X7_wish (l : Launch) (G : GT) (N K : Nat) (ad : Nat → Nat) (M : Mem) (h34 : 34 ≤ N) (D : Nat) (hD : M 6 0 = nI D) (hD6 : D ≤ 6) (Wn : Nat) (hWn : M 12 0 = nI Wn) (hW20 : Wn ≤ 20) (x y u v : Int32) : CmI l G N K ad yX7_wish cX7_wish 6 .int 3 65 [.ref (ad 0), .int x, .int y, .int u, .int v] M (fun r M1 => Dec1 (inB x D && (inB y 8 && !eqB (M 9 (tn x * 8 + tn y)) 0)) (r = -1 ∧ M1 = M) (Dec1 (wi u (nI 1) (nI 1000) && inB v 100001) (r = -2 ∧ M1 = M) (Dec1 (decide (Wn < 20)) (r = -4 ∧ M1 = M) (r = nI Wn ∧ M1 0 = (upd (M 0) 8 (nI 0)) ∧ M1 12 = (upd (M 12) 0 (nI (Wn + 1))) ∧ M1 13 = (upd (M 13) Wn (nI (tn x * 8 + tn y))) ∧ M1 14 = (upd (M 14) Wn u) ∧ M1 15 = (upd (M 15) Wn v) ∧ M1 16 = (upd (M 16) Wn (M 29 (tn x * 8 + tn y))) ∧ M1 32 = (upd (M 32) Wn (-1)) ∧ (∀ k, k ≠ 0 ∧ (k < 12 ∨ 17 ≤ k) ∧ k ≠ 32 → M1 k = M k))))) := by
  refine cm_startI (by decide +kernel) (Nat.le_of_ble_eq_true rfl) ?_
  intro p e s m below meth c ls S hr hlocks hw hl
  have hl : lv_has ls 6 [(0, .ref (ad 0)), (1, .int x), (2, .int y), (3, .int u), (4, .int v)] := hl
  refine lv_aload_n S.1 S.2.1 dX7_wish_0 rfl (lv_at hl 0 rfl) ?_
  refine lv_iload_n S.1 S.2.1 dX7_wish_1 rfl (lv_at hl 1 rfl) ?_
  refine lv_iload_n S.1 S.2.1 dX7_wish_2 rfl (lv_at hl 2 rfl) ?_
  refine r_VI (As := [.int x, .int y]) (rest := []) 0 S hw (by omega) rfl rfl (c_X7_hasTank l G N K ad M h34 D hD hD6 x y) mf_X7_hasTank wm_X7_134 ⟨by decide, by decide⟩ ⟨Nat.le_refl _, Nat.le_refl _⟩ hl.1 rfl (Nat.le_of_ble_eq_true rfl) dX7_wish_3 (fun H locs hw => ?_)
  refine b_ne (tgt := 11) S dX7_wish_6 (by decide) (fun c1 => ?_) (fun c1 => ?_)
  · have hx3 := and3 c1
    obtain ⟨a, ha, ea⟩ := inB_of hx3.1 (by omega)
    have ta : tn x = a := tn_of ea (by omega)
    obtain ⟨b, hb, eb⟩ := inB_of hx3.2.1 (by omega)
    have tb : tn y = b := tn_of eb (by omega)
    refine lv_iload_n S.1 S.2.1 dX7_wish_11 rfl (lv_at hl 3 rfl) ?_
    refine lv_iconst (v := nI 1) S.1 S.2.1 dX7_wish_12 (by decide) ?_
    refine lv_sipush (v := nI 1000) S.1 S.2.1 dX7_wish_13 (by decide) ?_
    refine r_SI (As := [.int u, .int (nI 1), .int (nI 1000)]) (rest := []) S hw (c_X7_within l G N K ad M u (nI 1) (nI 1000)) mf_X7_within wm_X7_63 ⟨by decide, by decide⟩ ⟨Nat.le_refl _, Nat.le_refl _⟩ hl.1 rfl (Nat.le_of_ble_eq_true rfl) dX7_wish_16 (fun H locs hw => ?_)
    refine b_eq (tgt := 33) S dX7_wish_19 (by decide) (fun c2 => ?_) (fun c2 => ?_)
    · refine lv_bipush (v := (-2)) S.1 S.2.1 dX7_wish_33 (by decide) ?_
      exact m_reti S hr hlocks hw dX7_wish_35 (Dec1.yes c1 (Dec1.no (and_f1 c2) ⟨rfl, rfl⟩))
    · refine lv_iload S.1 S.2.1 dX7_wish_22 (lv_at hl 4 rfl) ?_
      refine lv_iconst (v := nI 0) S.1 S.2.1 dX7_wish_24 (by decide) ?_
      refine lv_ldc (v := nI 100000) S.1 S.2.1 S.2.2.2.1 (S.2.2.2.2 _ wv_X7_138) dX7_wish_25 ?_
      refine r_SI (As := [.int v, .int (nI 0), .int (nI 100000)]) (rest := []) S hw (c_X7_within l G N K ad M v (nI 0) (nI 100000)) mf_X7_within wm_X7_63 ⟨by decide, by decide⟩ ⟨Nat.le_refl _, Nat.le_refl _⟩ hl.1 rfl (Nat.le_of_ble_eq_true rfl) dX7_wish_27 (fun H locs hw => ?_)
      refine b_ne (tgt := 36) S dX7_wish_30 (by decide) (fun c3 => ?_) (fun c3 => ?_)
      · refine lv_aload_n S.1 S.2.1 dX7_wish_36 rfl (lv_at hl 0 rfl) ?_
        refine m_getR 0 2 12 S hw (by omega) rfl rfl rfl in_X7 (by decide) wf_X7_26 dX7_wish_37 ?_
        refine m_getI 12 0 S hw (by omega) rfl rfl rfl in_X6 (by decide) wf_X7_70 dX7_wish_40 ?_
        refine m_top (show M 12 0 = nI Wn from hWn) ?_
        refine lv_bipush (v := nI 20) S.1 S.2.1 dX7_wish_43 (by decide) ?_
        refine n_lt (tgt := 51) S (by omega) (by omega) dX7_wish_45 (by decide) (fun c4 => ?_) (fun c4 => ?_)
        · refine lv_aload_n S.1 S.2.1 dX7_wish_51 rfl (lv_at hl 0 rfl) ?_
          refine lv_iconst (v := nI 0) S.1 S.2.1 dX7_wish_52 (by decide) ?_
          refine n_putI 0 8 S hw (by omega) rfl rfl rfl in_X7 tyX7_ok nmX7 (by decide) rfl rfl wf_X7_55 dX7_wish_53 (fun M5 H locs eM5 hw => ?_)
          refine lv_iload_n S.1 S.2.1 dX7_wish_56 rfl (lv_at hl 1 rfl) ?_
          refine m_top (show x = nI a from ea) ?_
          refine lv_iload_n S.1 S.2.1 dX7_wish_57 rfl (lv_at hl 2 rfl) ?_
          refine m_top (show y = nI b from eb) ?_
          refine r_SI (As := [.int (nI a), .int (nI b)]) (rest := []) S hw (c_X7_tankNumber l G N K ad M5 a b) mf_X7_tankNumber wm_X7_95 ⟨by decide, by decide⟩ ⟨Nat.le_refl _, Nat.le_refl _⟩ hl.1 rfl (Nat.le_of_ble_eq_true rfl) dX7_wish_58 (fun H locs hw => ?_)
          refine lv_istore (lv' := [(5, .int (nI (a * 8 + b))), (0, .ref (ad 0)), (1, .int x), (2, .int y), (3, .int u), (4, .int v)]) S.1 S.2.1 dX7_wish_61 hl (by decide) rfl (fun ls hl => ?_)
          refine lv_aload_n S.1 S.2.1 dX7_wish_63 rfl (lv_at hl 1 rfl) ?_
          refine m_getR 0 6 20 S hw (by omega) rfl rfl rfl in_X7 (by decide) wf_X7_47 dX7_wish_64 ?_
          refine m_getR 20 6 32 S hw (by omega) rfl rfl rfl in_X1 (by decide) wf_X7_139 dX7_wish_67 ?_
          refine lv_aload_n S.1 S.2.1 dX7_wish_70 rfl (lv_at hl 1 rfl) ?_
          refine m_getR 0 2 12 S hw (by omega) rfl rfl rfl in_X7 (by decide) wf_X7_26 dX7_wish_71 ?_
          refine m_getI 12 0 S hw (by omega) rfl rfl rfl in_X6 (by decide) wf_X7_70 dX7_wish_74 ?_
          have hq6 : M5 12 = M 12 := by rw [eM5, va_up_ne _ _ (by omega)]
          refine m_top (show M5 12 0 = M 12 0 from congrFun hq6 0) ?_
          refine m_top (show M 12 0 = nI Wn from hWn) ?_
          refine lv_iconst (v := (-1)) S.1 S.2.1 dX7_wish_77 (by decide) ?_
          refine n_ast 32 Wn S hw (by omega) rfl (by decide) (by omega) rfl dX7_wish_78 (fun M7 H locs eM7 hw => ?_)
          refine lv_aload_n S.1 S.2.1 dX7_wish_79 rfl (lv_at hl 1 rfl) ?_
          refine m_getR 0 2 12 S hw (by omega) rfl rfl rfl in_X7 (by decide) wf_X7_26 dX7_wish_80 ?_
          refine lv_iload S.1 S.2.1 dX7_wish_83 (lv_at hl 0 rfl) ?_
          refine lv_iload_n S.1 S.2.1 dX7_wish_85 rfl (lv_at hl 4 rfl) ?_
          refine lv_iload S.1 S.2.1 dX7_wish_86 (lv_at hl 5 rfl) ?_
          refine lv_aload_n S.1 S.2.1 dX7_wish_88 rfl (lv_at hl 1 rfl) ?_
          refine m_getR 0 6 20 S hw (by omega) rfl rfl rfl in_X7 (by decide) wf_X7_47 dX7_wish_89 ?_
          refine m_getR 20 4 26 S hw (by omega) rfl rfl rfl in_X1 (by decide) wf_X7_107 dX7_wish_92 ?_
          refine m_getR 26 2 29 S hw (by omega) rfl rfl rfl in_X4 (by decide) wf_X7_142 dX7_wish_95 ?_
          refine lv_iload S.1 S.2.1 dX7_wish_98 (lv_at hl 0 rfl) ?_
          refine m_ald 29 (a * 8 + b) S hw (by omega) rfl (by decide) (by omega) rfl dX7_wish_100 ?_
          have hq8 : M5 29 = M 29 := by rw [eM5, va_up_ne _ _ (by omega)]
          have hq9 : M7 29 = M 29 := by rw [eM7, va_up_ne _ _ (by omega), hq8]
          refine m_top (show M7 29 (a * 8 + b) = M 29 (a * 8 + b) from congrFun hq9 (a * 8 + b)) ?_
          have hq10 : M7 12 = M 12 := by rw [eM7, va_up_ne _ _ (by omega), hq6]
          refine m_VI (As := [.int (nI (a * 8 + b)), .int u, .int v, .int (M 29 (a * 8 + b))]) (rest := []) 12 S hw (by omega) rfl rfl (c_X6_tell l G N K ad M7 h34 Wn (by rw [hq10]; exact hWn) (by omega) (nI (a * 8 + b)) u v (M 29 (a * 8 + b))) mf_X6_tell wm_X7_145 ⟨by decide, by decide⟩ ⟨Nat.le_refl _, Nat.le_refl _⟩ hl.1 rfl (Nat.le_of_ble_eq_true rfl) dX7_wish_101 (fun r11 M11 H locs hp11 hw => ?_)
          have er11 : r11 = nI Wn := hp11.1
          have e12_11 : M11 12 = (upd (M7 12) 0 (nI (Wn + 1))) := hp11.2.1
          have e13_11 : M11 13 = (upd (M7 13) Wn (nI (a * 8 + b))) := hp11.2.2.1
          have e14_11 : M11 14 = (upd (M7 14) Wn u) := hp11.2.2.2.1
          have e15_11 : M11 15 = (upd (M7 15) Wn v) := hp11.2.2.2.2.1
          have e16_11 : M11 16 = (upd (M7 16) Wn (M 29 (a * 8 + b))) := hp11.2.2.2.2.2.1
          have fr11 : Fr 12 17 M7 M11 := hp11.2.2.2.2.2.2
          refine m_top (show r11 = nI Wn from er11) ?_
          have hq12 : M5 0 = upd (M 0) 8 (nI 0) := by rw [eM5, va_up_self]
          have hq13 : M7 0 = upd (M 0) 8 (nI 0) := by rw [eM7, va_up_ne _ _ (by omega), hq12]
          have hq14 : M11 0 = upd (M 0) 8 (nI 0) := (fr11 0 (by omega)).trans hq13
          have hq15 : M11 12 = upd (M 12) 0 (nI (Wn + 1)) := by rw [e12_11, hq10]
          have hq16 : M5 13 = M 13 := by rw [eM5, va_up_ne _ _ (by omega)]
          have hq17 : M7 13 = M 13 := by rw [eM7, va_up_ne _ _ (by omega), hq16]
          have hq18 : M11 13 = upd (M 13) Wn (nI (a * 8 + b)) := by rw [e13_11, hq17]
          have hq19 : M5 14 = M 14 := by rw [eM5, va_up_ne _ _ (by omega)]
          have hq20 : M7 14 = M 14 := by rw [eM7, va_up_ne _ _ (by omega), hq19]
          have hq21 : M11 14 = upd (M 14) Wn u := by rw [e14_11, hq20]
          have hq22 : M5 15 = M 15 := by rw [eM5, va_up_ne _ _ (by omega)]
          have hq23 : M7 15 = M 15 := by rw [eM7, va_up_ne _ _ (by omega), hq22]
          have hq24 : M11 15 = upd (M 15) Wn v := by rw [e15_11, hq23]
          have hq25 : M5 16 = M 16 := by rw [eM5, va_up_ne _ _ (by omega)]
          have hq26 : M7 16 = M 16 := by rw [eM7, va_up_ne _ _ (by omega), hq25]
          have hq27 : M11 16 = upd (M 16) Wn (M 29 (a * 8 + b)) := by rw [e16_11, hq26]
          have hq28 : M5 32 = M 32 := by rw [eM5, va_up_ne _ _ (by omega)]
          have hq29 : M7 32 = upd (M 32) Wn (-1) := by rw [eM7, va_up_self, hq28]
          have hq30 : M11 32 = upd (M 32) Wn (-1) := (fr11 32 (by omega)).trans hq29
          exact m_reti S hr hlocks hw dX7_wish_104 (Dec1.yes c1 (Dec1.yes (and_t c2 ((wi_upto v (by decide)).symm.trans c3)) (Dec1.yes (decide_eq_true (by omega)) (by rw [ta, tb]; exact ⟨rfl, hq14, hq15, hq18, hq21, hq24, hq27, hq30, (fun k hk => ((fr11 k (by omega)).trans ((show M7 k = M5 k by rw [eM7]; exact va_up_ne _ _ (by omega)).trans (show M5 k = M k by rw [eM5]; exact va_up_ne _ _ (by omega)))))⟩))))
        · refine lv_bipush (v := (-4)) S.1 S.2.1 dX7_wish_48 (by decide) ?_
          exact m_reti S hr hlocks hw dX7_wish_50 (Dec1.yes c1 (Dec1.yes (and_t c2 ((wi_upto v (by decide)).symm.trans c3)) (Dec1.no (decide_eq_false (by omega)) ⟨rfl, rfl⟩)))
      · refine lv_bipush (v := (-2)) S.1 S.2.1 dX7_wish_33 (by decide) ?_
        exact m_reti S hr hlocks hw dX7_wish_35 (Dec1.yes c1 (Dec1.no (and_f2 ((wi_upto v (by decide)).symm.trans c3)) ⟨rfl, rfl⟩))
  · refine lv_iconst (v := (-1)) S.1 S.2.1 dX7_wish_9 (by decide) ?_
    exact m_reti S hr hlocks hw dX7_wish_10 (Dec1.no c1 ⟨rfl, rfl⟩)

theorem wi_4 {x : Int32} (h : wi x (nI 4) (nI 120) = true) : inB x 121 = true := by
  rw [wi_nn x (by decide) (by decide)] at h
  simp only [inB, Bool.and_eq_true, decide_eq_true_eq] at h ⊢
  omega

set_option maxHeartbeats 4000000 in
set_option maxRecDepth 100000 in
/-- OilLine.line -/
theorem c_X7_line (l : Launch) (G : GT) (N K : Nat) (ad : Nat → Nat) (M : Mem) (h34 : 34 ≤ N) (x : Int32) : CmI l G N K ad yX7_line cX7_line 2 .int 3 66 [.ref (ad 0), .int x] M (fun r M1 => Dec1 (wi x (nI 4) (nI 120)) (r = -2 ∧ M1 = M) (r = nI 0 ∧ (∀ t, t < 48 → M1 9 t = 0) ∧ M1 20 0 = nI 0 ∧ M1 20 1 = nI 0 ∧ M1 20 2 = nI 1 ∧ M1 0 = (upd (M 0) 8 (nI 0)) ∧ M1 6 = (upd (M 6) 0 (nI 0)) ∧ M1 7 = (M 7) ∧ M1 8 = (M 8) ∧ M1 10 = (M 10) ∧ M1 11 = (M 11) ∧ M1 12 = (upd (M 12) 0 (nI 0)) ∧ M1 21 = (upd (M 21) 0 (nI (tn x))) ∧ M1 22 = (fun j => if j < (tn x) then nI 0 else M 22 j) ∧ M1 23 = (fun j => if j < (tn x) then nI 0 else M 23 j) ∧ M1 24 = (fun j => if j < (tn x) then (-1) else M 24 j) ∧ M1 25 = (fun j => if j < (tn x) then nI 0 else M 25 j) ∧ M1 27 = (M 27) ∧ M1 28 = (M 28) ∧ M1 29 = (M 29) ∧ M1 30 = (fun j => if j < 6 then nI 0 else M 30 j) ∧ M1 31 = (upd (M 31) 0 (nI 0)) ∧ M1 32 = (M 32) ∧ (∀ k, k ≠ 0 ∧ (k < 6 ∨ 12 ≤ k) ∧ k ≠ 12 ∧ (k < 20 ∨ 33 ≤ k) → M1 k = M k))) := by
  refine cm_startI (by decide +kernel) (Nat.le_of_ble_eq_true rfl) ?_
  intro p e s m below meth c ls S hr hlocks hw hl
  have hl : lv_has ls 2 [(0, .ref (ad 0)), (1, .int x)] := hl
  refine lv_iload_n S.1 S.2.1 dX7_line_0 rfl (lv_at hl 1 rfl) ?_
  refine lv_iconst (v := nI 4) S.1 S.2.1 dX7_line_1 (by decide) ?_
  refine lv_bipush (v := nI 120) S.1 S.2.1 dX7_line_2 (by decide) ?_
  refine r_SI (As := [.int x, .int (nI 4), .int (nI 120)]) (rest := []) S hw (c_X7_within l G N K ad M x (nI 4) (nI 120)) mf_X7_within wm_X7_63 ⟨by decide, by decide⟩ ⟨Nat.le_refl _, Nat.le_refl _⟩ hl.1 rfl (Nat.le_of_ble_eq_true rfl) dX7_line_4 (fun H locs hw => ?_)
  refine b_ne (tgt := 13) S dX7_line_7 (by decide) (fun c1 => ?_) (fun c1 => ?_)
  · have hx1 : inB x 121 = true := wi_4 c1
    obtain ⟨a, ha, ea⟩ := inB_of hx1 (by omega)
    have ta : tn x = a := tn_of ea (by omega)
    refine lv_aload_n S.1 S.2.1 dX7_line_13 rfl (lv_at hl 0 rfl) ?_
    refine m_getR 0 1 6 S hw (by omega) rfl rfl rfl in_X7 (by decide) wf_X7_19 dX7_line_14 ?_
    refine m_VV (As := []) (rest := []) 6 S hw (by omega) rfl rfl (c_X0_clear l G N K ad M h34) mf_X0_clear wm_X7_67 ⟨by decide, by decide⟩ ⟨Nat.le_refl _, Nat.le_refl _⟩ hl.1 rfl (Nat.le_of_ble_eq_true rfl) dX7_line_17 (fun M2 H locs hp2 hw => ?_)
    have e9all : ∀ t, t < 48 → M2 9 t = 0 := hp2.2.1
    have hpx2 := And.intro hp2.1 hp2.2.2
    have e6_2 : M2 6 = (upd (M 6) 0 (nI 0)) := hpx2.1
    have e7_2 : M2 7 = (M 7) := hpx2.2.1
    have e8_2 : M2 8 = (M 8) := hpx2.2.2.1
    have e10_2 : M2 10 = (M 10) := hpx2.2.2.2.1
    have e11_2 : M2 11 = (M 11) := hpx2.2.2.2.2.1
    have fr2 : Fr 6 12 M M2 := hpx2.2.2.2.2.2
    refine lv_aload_n S.1 S.2.1 dX7_line_20 rfl (lv_at hl 0 rfl) ?_
    refine m_getR 0 2 12 S hw (by omega) rfl rfl rfl in_X7 (by decide) wf_X7_26 dX7_line_21 ?_
    refine lv_iconst (v := nI 0) S.1 S.2.1 dX7_line_24 (by decide) ?_
    refine n_putI 12 0 S hw (by omega) rfl rfl rfl in_X6 tyX6_ok nmX6 (by decide) rfl rfl wf_X7_70 dX7_line_25 (fun M3 H locs eM3 hw => ?_)
    refine lv_aload_n S.1 S.2.1 dX7_line_28 rfl (lv_at hl 0 rfl) ?_
    refine m_getR 0 6 20 S hw (by omega) rfl rfl rfl in_X7 (by decide) wf_X7_47 dX7_line_29 ?_
    refine lv_iload_n S.1 S.2.1 dX7_line_32 rfl (lv_at hl 1 rfl) ?_
    refine m_top (show x = nI a from ea) ?_
    refine m_VV (As := [.int (nI a)]) (rest := []) 20 S hw (by omega) rfl rfl (c_X1_renew l G N K ad M3 20 (isM20 (by omega)) a (by omega)) mf_X1_renew wm_X7_59 ⟨by decide, by decide⟩ ⟨Nat.le_refl _, Nat.le_refl _⟩ hl.1 rfl (Nat.le_of_ble_eq_true rfl) dX7_line_33 (fun M4 H locs hp4 hw => ?_)
    have ef0_4 : M4 20 0 = nI 0 := hp4.1
    have ef1_4 : M4 20 1 = nI 0 := hp4.2.1
    have ef2_4 : M4 20 2 = nI 1 := hp4.2.2.1
    have e21_4 : M4 21 = (upd (M3 21) 0 (nI a)) := hp4.2.2.2.1
    have e22_4 : M4 22 = (fun j => if j < a then nI 0 else M3 22 j) := hp4.2.2.2.2.1
    have e23_4 : M4 23 = (fun j => if j < a then nI 0 else M3 23 j) := hp4.2.2.2.2.2.1
    have e24_4 : M4 24 = (fun j => if j < a then (-1) else M3 24 j) := hp4.2.2.2.2.2.2.1
    have e25_4 : M4 25 = (fun j => if j < a then nI 0 else M3 25 j) := hp4.2.2.2.2.2.2.2.1
    have e27_4 : M4 27 = (M3 27) := hp4.2.2.2.2.2.2.2.2.1
    have e28_4 : M4 28 = (M3 28) := hp4.2.2.2.2.2.2.2.2.2.1
    have e29_4 : M4 29 = (M3 29) := hp4.2.2.2.2.2.2.2.2.2.2.1
    have e30_4 : M4 30 = (fun j => if j < 6 then nI 0 else M3 30 j) := hp4.2.2.2.2.2.2.2.2.2.2.2.1
    have e31_4 : M4 31 = (upd (M3 31) 0 (nI 0)) := hp4.2.2.2.2.2.2.2.2.2.2.2.2.1
    have e32_4 : M4 32 = (M3 32) := hp4.2.2.2.2.2.2.2.2.2.2.2.2.2.1
    have fr4 : Fr 20 33 M3 M4 := hp4.2.2.2.2.2.2.2.2.2.2.2.2.2.2
    refine lv_aload_n S.1 S.2.1 dX7_line_36 rfl (lv_at hl 0 rfl) ?_
    refine lv_iconst (v := nI 0) S.1 S.2.1 dX7_line_37 (by decide) ?_
    refine n_putI 0 8 S hw (by omega) rfl rfl rfl in_X7 tyX7_ok nmX7 (by decide) rfl rfl wf_X7_55 dX7_line_38 (fun M5 H locs eM5 hw => ?_)
    refine lv_iconst (v := nI 0) S.1 S.2.1 dX7_line_41 (by decide) ?_
    have hq6 : M2 0 = M 0 := fr2 0 (by omega)
    have hq7 : M3 0 = M 0 := by rw [eM3, va_up_ne _ _ (by omega), hq6]
    have hq8 : M4 0 = M 0 := (fr4 0 (by omega)).trans hq7
    have hq9 : M5 0 = upd (M 0) 8 (nI 0) := by rw [eM5, va_up_self, hq8]
    have hq10 : M3 6 = upd (M 6) 0 (nI 0) := by rw [eM3, va_up_ne _ _ (by omega), e6_2]
    have hq11 : M4 6 = upd (M 6) 0 (nI 0) := (fr4 6 (by omega)).trans hq10
    have hq12 : M5 6 = upd (M 6) 0 (nI 0) := by rw [eM5, va_up_ne _ _ (by omega), hq11]
    have hq13 : M3 7 = M 7 := by rw [eM3, va_up_ne _ _ (by omega), e7_2]
    have hq14 : M4 7 = M 7 := (fr4 7 (by omega)).trans hq13
    have hq15 : M5 7 = M 7 := by rw [eM5, va_up_ne _ _ (by omega), hq14]
    have hq16 : M3 8 = M 8 := by rw [eM3, va_up_ne _ _ (by omega), e8_2]
    have hq17 : M4 8 = M 8 := (fr4 8 (by omega)).trans hq16
    have hq18 : M5 8 = M 8 := by rw [eM5, va_up_ne _ _ (by omega), hq17]
    have hq19 : M3 10 = M 10 := by rw [eM3, va_up_ne _ _ (by omega), e10_2]
    have hq20 : M4 10 = M 10 := (fr4 10 (by omega)).trans hq19
    have hq21 : M5 10 = M 10 := by rw [eM5, va_up_ne _ _ (by omega), hq20]
    have hq22 : M3 11 = M 11 := by rw [eM3, va_up_ne _ _ (by omega), e11_2]
    have hq23 : M4 11 = M 11 := (fr4 11 (by omega)).trans hq22
    have hq24 : M5 11 = M 11 := by rw [eM5, va_up_ne _ _ (by omega), hq23]
    have hq25 : M2 12 = M 12 := fr2 12 (by omega)
    have hq26 : M3 12 = upd (M 12) 0 (nI 0) := by rw [eM3, va_up_self, hq25]
    have hq27 : M4 12 = upd (M 12) 0 (nI 0) := (fr4 12 (by omega)).trans hq26
    have hq28 : M5 12 = upd (M 12) 0 (nI 0) := by rw [eM5, va_up_ne _ _ (by omega), hq27]
    have hq29 : M2 21 = M 21 := fr2 21 (by omega)
    have hq30 : M3 21 = M 21 := by rw [eM3, va_up_ne _ _ (by omega), hq29]
    have hq31 : M4 21 = upd (M 21) 0 (nI a) := by rw [e21_4, hq30]
    have hq32 : M5 21 = upd (M 21) 0 (nI a) := by rw [eM5, va_up_ne _ _ (by omega), hq31]
    have hq33 : M2 22 = M 22 := fr2 22 (by omega)
    have hq34 : M3 22 = M 22 := by rw [eM3, va_up_ne _ _ (by omega), hq33]
    have hq35 : M4 22 = fun j => if j < a then nI 0 else M 22 j := by rw [e22_4, hq34]
    have hq36 : M5 22 = fun j => if j < a then nI 0 else M 22 j := by rw [eM5, va_up_ne _ _ (by omega), hq35]
    have hq37 : M2 23 = M 23 := fr2 23 (by omega)
    have hq38 : M3 23 = M 23 := by rw [eM3, va_up_ne _ _ (by omega), hq37]
    have hq39 : M4 23 = fun j => if j < a then nI 0 else M 23 j := by rw [e23_4, hq38]
    have hq40 : M5 23 = fun j => if j < a then nI 0 else M 23 j := by rw [eM5, va_up_ne _ _ (by omega), hq39]
    have hq41 : M2 24 = M 24 := fr2 24 (by omega)
    have hq42 : M3 24 = M 24 := by rw [eM3, va_up_ne _ _ (by omega), hq41]
    have hq43 : M4 24 = fun j => if j < a then (-1) else M 24 j := by rw [e24_4, hq42]
    have hq44 : M5 24 = fun j => if j < a then (-1) else M 24 j := by rw [eM5, va_up_ne _ _ (by omega), hq43]
    have hq45 : M2 25 = M 25 := fr2 25 (by omega)
    have hq46 : M3 25 = M 25 := by rw [eM3, va_up_ne _ _ (by omega), hq45]
    have hq47 : M4 25 = fun j => if j < a then nI 0 else M 25 j := by rw [e25_4, hq46]
    have hq48 : M5 25 = fun j => if j < a then nI 0 else M 25 j := by rw [eM5, va_up_ne _ _ (by omega), hq47]
    have hq49 : M2 27 = M 27 := fr2 27 (by omega)
    have hq50 : M3 27 = M 27 := by rw [eM3, va_up_ne _ _ (by omega), hq49]
    have hq51 : M4 27 = M 27 := e27_4.trans hq50
    have hq52 : M5 27 = M 27 := by rw [eM5, va_up_ne _ _ (by omega), hq51]
    have hq53 : M2 28 = M 28 := fr2 28 (by omega)
    have hq54 : M3 28 = M 28 := by rw [eM3, va_up_ne _ _ (by omega), hq53]
    have hq55 : M4 28 = M 28 := e28_4.trans hq54
    have hq56 : M5 28 = M 28 := by rw [eM5, va_up_ne _ _ (by omega), hq55]
    have hq57 : M2 29 = M 29 := fr2 29 (by omega)
    have hq58 : M3 29 = M 29 := by rw [eM3, va_up_ne _ _ (by omega), hq57]
    have hq59 : M4 29 = M 29 := e29_4.trans hq58
    have hq60 : M5 29 = M 29 := by rw [eM5, va_up_ne _ _ (by omega), hq59]
    have hq61 : M2 30 = M 30 := fr2 30 (by omega)
    have hq62 : M3 30 = M 30 := by rw [eM3, va_up_ne _ _ (by omega), hq61]
    have hq63 : M4 30 = fun j => if j < 6 then nI 0 else M 30 j := by rw [e30_4, hq62]
    have hq64 : M5 30 = fun j => if j < 6 then nI 0 else M 30 j := by rw [eM5, va_up_ne _ _ (by omega), hq63]
    have hq65 : M2 31 = M 31 := fr2 31 (by omega)
    have hq66 : M3 31 = M 31 := by rw [eM3, va_up_ne _ _ (by omega), hq65]
    have hq67 : M4 31 = upd (M 31) 0 (nI 0) := by rw [e31_4, hq66]
    have hq68 : M5 31 = upd (M 31) 0 (nI 0) := by rw [eM5, va_up_ne _ _ (by omega), hq67]
    have hq69 : M2 32 = M 32 := fr2 32 (by omega)
    have hq70 : M3 32 = M 32 := by rw [eM3, va_up_ne _ _ (by omega), hq69]
    have hq71 : M4 32 = M 32 := e32_4.trans hq70
    have hq72 : M5 32 = M 32 := by rw [eM5, va_up_ne _ _ (by omega), hq71]
    have hq73 : M3 9 = M2 9 := by rw [eM3, va_up_ne _ _ (by omega), (rfl : M2 9 = M2 9)]
    have hq74 : M4 9 = M2 9 := (fr4 9 (by omega)).trans hq73
    have hq75 : M5 9 = M2 9 := by rw [eM5, va_up_ne _ _ (by omega), hq74]
    have hq76 : M5 20 = M4 20 := by rw [eM5, va_up_ne _ _ (by omega), (rfl : M4 20 = M4 20)]
    exact m_reti S hr hlocks hw dX7_line_42 (Dec1.yes c1 (by rw [ta]; exact ⟨rfl, (fun t ht => (congrFun hq75 t).trans (e9all t ht)), ((congrFun hq76 0).trans ef0_4), ((congrFun hq76 1).trans ef1_4), ((congrFun hq76 2).trans ef2_4), hq9, hq12, hq15, hq18, hq21, hq24, hq28, hq32, hq36, hq40, hq44, hq48, hq52, hq56, hq60, hq64, hq68, hq72, (fun k hk => ((show M5 k = M4 k by rw [eM5]; exact va_up_ne _ _ (by omega)).trans ((fr4 k (by omega)).trans ((show M3 k = M2 k by rw [eM3]; exact va_up_ne _ _ (by omega)).trans (fr2 k (by omega))))))⟩))
  · refine lv_bipush (v := (-2)) S.1 S.2.1 dX7_line_10 (by decide) ?_
    exact m_reti S hr hlocks hw dX7_line_12 (Dec1.no c1 ⟨rfl, rfl⟩)
