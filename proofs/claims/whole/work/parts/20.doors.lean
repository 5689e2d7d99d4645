set_option maxHeartbeats 4000000 in
set_option maxRecDepth 100000 in
/-- OilLine.within -/
theorem c_X7_within (l : Launch) (G : GT) (N K : Nat) (ad : Nat → Nat) (M : Mem) (v lo hi : Int32) : CrI l G N K ad yX7_within cX7_within 3 .boolean 0 0 [.int v, .int lo, .int hi] M (b01 (wi v lo hi)) := by
  refine cm_startI (by decide +kernel) (Nat.le_of_ble_eq_true rfl) ?_
  intro p e s m below meth c ls S hr hlocks hw hl
  have hl : lv_has ls 3 [(0, .int v), (1, .int lo), (2, .int hi)] := hl
  refine lv_iload_n S.1 S.2.1 dX7_within_0 rfl (lv_at hl 1 rfl) ?_
  refine lv_iload_n S.1 S.2.1 dX7_within_1 rfl (lv_at hl 0 rfl) ?_
  refine lv_icmp_gt (tgt := 14) S.1 S.2.1 dX7_within_2 (by decide) (fun c1 => ?_) (fun c1 => ?_)
  · refine lv_iconst (v := nI 0) S.1 S.2.1 dX7_within_14 (by decide) ?_
    exact m_retz S hr hlocks hw dX7_within_15 rfl ⟨wi_f1 c1, rfl⟩
  · refine lv_iload_n S.1 S.2.1 dX7_within_5 rfl (lv_at hl 0 rfl) ?_
    refine lv_iload_n S.1 S.2.1 dX7_within_6 rfl (lv_at hl 2 rfl) ?_
    refine lv_icmp_gt (tgt := 14) S.1 S.2.1 dX7_within_7 (by decide) (fun c2 => ?_) (fun c2 => ?_)
    · refine lv_iconst (v := nI 0) S.1 S.2.1 dX7_within_14 (by decide) ?_
      exact m_retz S hr hlocks hw dX7_within_15 rfl ⟨wi_f2 c2, rfl⟩
    · refine lv_iconst (v := nI 1) S.1 S.2.1 dX7_within_10 (by decide) ?_
      refine lv_goto (tgt := 15) S.1 S.2.1 dX7_within_11 (by decide) ?_
      exact m_retz S hr hlocks hw dX7_within_15 rfl ⟨wi_t c1 c2, rfl⟩

set_option maxHeartbeats 4000000 in
set_option maxRecDepth 100000 in
/-- OilLine.isKind -/
theorem c_X7_isKind (l : Launch) (G : GT) (N K : Nat) (ad : Nat → Nat) (M : Mem) (x : Int32) : CrI l G N K ad yX7_isKind cX7_isKind 1 .boolean 1 22 [.int x] M (b01 (inB x 8)) := by
  refine cm_startI (by decide +kernel) (Nat.le_of_ble_eq_true rfl) ?_
  intro p e s m below meth c ls S hr hlocks hw hl
  have hl : lv_has ls 1 [(0, .int x)] := hl
  refine lv_iload_n S.1 S.2.1 dX7_isKind_0 rfl (lv_at hl 0 rfl) ?_
  refine lv_iconst (v := nI 0) S.1 S.2.1 dX7_isKind_1 (by decide) ?_
  refine lv_bipush (v := nI 7) S.1 S.2.1 dX7_isKind_2 (by decide) ?_
  refine r_SI (As := [.int x, .int (nI 0), .int (nI 7)]) (rest := []) S hw (c_X7_within l G N K ad M x (nI 0) (nI 7)) mf_X7_within wm_X7_63 ⟨by decide, by decide⟩ ⟨Nat.le_refl _, Nat.le_refl _⟩ hl.1 rfl (Nat.le_of_ble_eq_true rfl) dX7_isKind_4 (fun H locs hw => ?_)
  exact m_retz S hr hlocks hw dX7_isKind_7 (b01_n _) ⟨by rw [wi_upto x (by decide)], rfl⟩

set_option maxHeartbeats 4000000 in
set_option maxRecDepth 100000 in
/-- OilLine.tankNumber -/
theorem c_X7_tankNumber (l : Launch) (G : GT) (N K : Nat) (ad : Nat → Nat) (M : Mem) (d k : Nat) : CrI l G N K ad yX7_tankNumber cX7_tankNumber 2 .int 0 0 [.int (nI d), .int (nI k)] M (nI (d * 8 + k)) := by
  refine cm_startI (by decide +kernel) (Nat.le_of_ble_eq_true rfl) ?_
  intro p e s m below meth c ls S hr hlocks hw hl
  have hl : lv_has ls 2 [(0, .int (nI d)), (1, .int (nI k))] := hl
  refine lv_iload_n S.1 S.2.1 dX7_tankNumber_0 rfl (lv_at hl 0 rfl) ?_
  refine lv_bipush (v := nI 8) S.1 S.2.1 dX7_tankNumber_1 (by decide) ?_
  refine lv_imul S.1 S.2.1 dX7_tankNumber_3 ?_
  refine m_top (show (nI d) * (nI 8) = nI (d * 8) from pk_mul _ _) ?_
  refine lv_iload_n S.1 S.2.1 dX7_tankNumber_4 rfl (lv_at hl 1 rfl) ?_
  refine lv_iadd S.1 S.2.1 dX7_tankNumber_5 ?_
  refine m_top (show (nI (d * 8)) + (nI k) = nI ((d * 8) + k) from nI_add _ _) ?_
  exact m_reti S hr hlocks hw dX7_tankNumber_6 ⟨rfl, rfl⟩

set_option maxHeartbeats 4000000 in
set_option maxRecDepth 100000 in
/-- OilLine.exchange -/
theorem c_X7_exchange (l : Launch) (G : GT) (N K : Nat) (ad : Nat → Nat) (M : Mem) (q n : Nat) (hq : q < N) (hs : shp q = (0, n, [])) (hn : n < 2147483648) (j : Nat) (hj : j < n) (v : Int32) : CmI l G N K ad yX7_exchange cX7_exchange 4 .int 0 0 [.ref (ad q), .int (nI j), .int v] M (fun r M1 => r = M q j ∧ M1 = va_up M q (upd (M q) j v)) := by
  refine cm_startI (by decide +kernel) (Nat.le_of_ble_eq_true rfl) ?_
  intro p e s m below meth c ls S hr hlocks hw hl
  have hl : lv_has ls 4 [(0, .ref (ad q)), (1, .int (nI j)), (2, .int v)] := hl
  refine lv_aload_n S.1 S.2.1 dX7_exchange_0 rfl (lv_at hl 0 rfl) ?_
  refine lv_iload_n S.1 S.2.1 dX7_exchange_1 rfl (lv_at hl 1 rfl) ?_
  refine m_ald q j S hw (by omega) hs hn (by omega) rfl dX7_exchange_2 ?_
  refine lv_istore_n (lv' := [(3, .int (M q j)), (0, .ref (ad q)), (1, .int (nI j)), (2, .int v)]) S.1 S.2.1 dX7_exchange_3 rfl hl (by decide) rfl (fun ls hl => ?_)
  refine lv_aload_n S.1 S.2.1 dX7_exchange_4 rfl (lv_at hl 1 rfl) ?_
  refine lv_iload_n S.1 S.2.1 dX7_exchange_5 rfl (lv_at hl 2 rfl) ?_
  refine lv_iload_n S.1 S.2.1 dX7_exchange_6 rfl (lv_at hl 3 rfl) ?_
  refine n_ast q j S hw (by omega) hs hn (by omega) rfl dX7_exchange_7 (fun M1 H locs eM1 hw => ?_)
  refine lv_iload_n S.1 S.2.1 dX7_exchange_8 rfl (lv_at hl 0 rfl) ?_
  exact m_reti S hr hlocks hw dX7_exchange_9 ⟨rfl, eM1⟩

set_option maxHeartbeats 4000000 in
set_option maxRecDepth 100000 in
/-- Doors.has -/
theorem c_X0_has (l : Launch) (G : GT) (N K : Nat) (ad : Nat → Nat) (M : Mem) (h34 : 34 ≤ N) (D : Nat) (hD : M 6 0 = nI D) (hD6 : D ≤ 6) (x : Int32) : CrI l G N K ad yX0_has cX0_has 2 .boolean 1 22 [.ref (ad 6), .int x] M (b01 (inB x D)) := by
  refine cm_startI (by decide +kernel) (Nat.le_of_ble_eq_true rfl) ?_
  intro p e s m below meth c ls S hr hlocks hw hl
  have hl : lv_has ls 2 [(0, .ref (ad 6)), (1, .int x)] := hl
  refine lv_iload_n S.1 S.2.1 dX0_has_0 rfl (lv_at hl 1 rfl) ?_
  refine lv_iconst (v := nI 0) S.1 S.2.1 dX0_has_1 (by decide) ?_
  refine lv_aload_n S.1 S.2.1 dX0_has_2 rfl (lv_at hl 0 rfl) ?_
  refine m_getI 6 0 S hw (by omega) rfl rfl rfl in_X0 (by decide) wf_X0_9 dX0_has_3 ?_
  refine m_top (show M 6 0 = nI D from hD) ?_
  refine lv_iconst (v := nI 1) S.1 S.2.1 dX0_has_6 (by decide) ?_
  refine lv_isub S.1 S.2.1 dX0_has_7 ?_
  refine r_NI (As := [.int x, .int (nI 0), .int ((nI D) - (nI 1))]) (rest := []) S hw (c_X7_within l G N K ad M x (nI 0) ((nI D) - (nI 1))) mf_X7_within (List.mem_of_getElem? (i := 6) rfl) ⟨by decide, by decide⟩ ⟨Nat.le_refl _, Nat.le_refl _⟩ hl.1 rfl (Nat.le_of_ble_eq_true rfl) dX0_has_8 (fun H locs hw => ?_)
  exact m_retz S hr hlocks hw dX0_has_11 (b01_n _) ⟨by rw [wi_pred x (by omega)], rfl⟩

set_option maxHeartbeats 4000000 in
set_option maxRecDepth 100000 in
/-- Doors.isTaken -/
theorem c_X0_isTaken (l : Launch) (G : GT) (N K : Nat) (ad : Nat → Nat) (M : Mem) (h34 : 34 ≤ N) (D : Nat) (hD : M 6 0 = nI D) (hD6 : D ≤ 6) (x : Int32) : CrI l G N K ad yX0_isTaken cX0_isTaken 3 .boolean 0 0 [.ref (ad 6), .int x] M (b01 (anyB (fun d => eqB (M 7 d) x) D)) := by
  refine cm_startI (by decide +kernel) (Nat.le_of_ble_eq_true rfl) ?_
  intro p e s m below meth c ls S hr hlocks hw hl
  have hl : lv_has ls 3 [(0, .ref (ad 6)), (1, .int x)] := hl
  generalize hAv : List.toArray ([.ref (ad 6), .int x] : List Value) = A at S ⊢
  have loop : ∀ (n : Nat) (i : Nat), i + n = D → (∀ k, k < i → eqB (M 7 k) x = false) → ∀ (H : Heap) (locs : List Loc) (ls : Array Slot), Wd G N K ad M s H locs → lv_has ls 3 [(0, .ref (ad 6)), (1, .int x), (2, .int (nI i))] → W p l e { frames := 0, cells := 0, slots := 0, locals := 0 } s m A below meth c H locs 0 0 (QmI G N K ad (fun r M' => r = (b01 (anyB (fun d => eqB (M 7 d) x) D)) ∧ M' = M) below A s) (F0 m 2 ls []) := by
    intro n
    induction n with
    | zero =>
      intro i hi hno H locs ls hw hl
      refine lv_iload_n S.1 S.2.1 dX0_isTaken_2 rfl (lv_at hl 2 rfl) ?_
      refine lv_aload_n S.1 S.2.1 dX0_isTaken_3 rfl (lv_at hl 0 rfl) ?_
      refine m_getI 6 0 S hw (by omega) rfl rfl rfl in_X0 (by decide) wf_X0_9 dX0_isTaken_4 ?_
      refine m_top (show M 6 0 = nI D from hD) ?_
      refine n_ge (tgt := 28) S (by omega) (by omega) dX0_isTaken_7 (by decide) (fun c1 => ?_) (fun c1 => absurd c1 (by omega))
      refine lv_iconst (v := nI 0) S.1 S.2.1 dX0_isTaken_28 (by decide) ?_
      exact m_retz S hr hlocks hw dX0_isTaken_29 rfl ⟨b0_f (anyB_f (fun k hk => hno k (by omega))), rfl⟩
    | succ n ih =>
      intro i hi hno H locs ls hw hl
      refine lv_iload_n S.1 S.2.1 dX0_isTaken_2 rfl (lv_at hl 2 rfl) ?_
      refine lv_aload_n S.1 S.2.1 dX0_isTaken_3 rfl (lv_at hl 0 rfl) ?_
      refine m_getI 6 0 S hw (by omega) rfl rfl rfl in_X0 (by decide) wf_X0_9 dX0_isTaken_4 ?_
      refine m_top (show M 6 0 = nI D from hD) ?_
      refine n_ge (tgt := 28) S (by omega) (by omega) dX0_isTaken_7 (by decide) (fun c1 => absurd c1 (by omega)) (fun c1 => ?_)
      refine lv_aload_n S.1 S.2.1 dX0_isTaken_10 rfl (lv_at hl 0 rfl) ?_
      refine m_getR 6 1 7 S hw (by omega) rfl rfl rfl in_X0 (by decide) wf_X0_15 dX0_isTaken_11 ?_
      refine lv_iload_n S.1 S.2.1 dX0_isTaken_14 rfl (lv_at hl 2 rfl) ?_
      refine m_ald 7 i S hw (by omega) rfl (by decide) (by omega) rfl dX0_isTaken_15 ?_
      refine lv_iload_n S.1 S.2.1 dX0_isTaken_16 rfl (lv_at hl 1 rfl) ?_
      refine lv_icmp_ne (tgt := 22) S.1 S.2.1 dX0_isTaken_17 (by decide) (fun c2 => ?_) (fun c2 => ?_)
      · refine lv_iinc (v := nI (i + 1)) (lv' := [(2, .int (nI (i + 1))), (0, .ref (ad 6)), (1, .int x)]) S.1 S.2.1 dX0_isTaken_22 hl (k := 2) rfl (iinc1 _) (by decide) rfl (fun ls hl => ?_)
        refine lv_goto (tgt := 2) S.1 S.2.1 dX0_isTaken_25 (by decide) ?_
        exact ih (i + 1) (by omega) (lt_s hno (eqB_f c2)) _ _ ls hw (lv_sub hl [1, 2, 0] rfl)
      · refine lv_iconst (v := nI 1) S.1 S.2.1 dX0_isTaken_20 (by decide) ?_
        exact m_retz S hr hlocks hw dX0_isTaken_21 rfl ⟨b1_t (anyB_t (i := i) (eqB_t c2) (by omega)), rfl⟩
  refine lv_iconst (v := nI 0) S.1 S.2.1 dX0_isTaken_0 (by decide) ?_
  refine lv_istore_n (lv' := [(2, .int (nI 0)), (0, .ref (ad 6)), (1, .int x)]) S.1 S.2.1 dX0_isTaken_1 rfl hl (by decide) rfl (fun ls hl => ?_)
  exact loop D 0 (by omega) lt_0 _ _ ls hw (lv_sub hl [1, 2, 0] rfl)

set_option maxHeartbeats 4000000 in
set_option maxRecDepth 100000 in
/-- Doors.open -/
theorem c_X0_open (l : Launch) (G : GT) (N K : Nat) (ad : Nat → Nat) (M : Mem) (h34 : 34 ≤ N) (D : Nat) (hD : M 6 0 = nI D) (hD6 : D < 6) (x : Int32) : CmI l G N K ad yX0_open cX0_open 3 .int 0 0 [.ref (ad 6), .int x] M (fun r M1 => r = nI D ∧ M1 6 = upd (M 6) 0 (nI (D + 1)) ∧ M1 7 = upd (M 7) D x ∧ M1 8 = upd (M 8) D (nI 10) ∧ M1 9 = M 9 ∧ M1 10 = M 10 ∧ M1 11 = M 11 ∧ Fr 6 12 M M1) := by
  refine cm_startI (by decide +kernel) (Nat.le_of_ble_eq_true rfl) ?_
  intro p e s m below meth c ls S hr hlocks hw hl
  have hl : lv_has ls 3 [(0, .ref (ad 6)), (1, .int x)] := hl
  refine lv_aload_n S.1 S.2.1 dX0_open_0 rfl (lv_at hl 0 rfl) ?_
  refine m_getI 6 0 S hw (by omega) rfl rfl rfl in_X0 (by decide) wf_X0_9 dX0_open_1 ?_
  refine m_top (show M 6 0 = nI D from hD) ?_
  refine lv_istore_n (lv' := [(2, .int (nI D)), (0, .ref (ad 6)), (1, .int x)]) S.1 S.2.1 dX0_open_4 rfl hl (by decide) rfl (fun ls hl => ?_)
  refine lv_aload_n S.1 S.2.1 dX0_open_5 rfl (lv_at hl 1 rfl) ?_
  refine m_getR 6 1 7 S hw (by omega) rfl rfl rfl in_X0 (by decide) wf_X0_15 dX0_open_6 ?_
  refine lv_iload_n S.1 S.2.1 dX0_open_9 rfl (lv_at hl 0 rfl) ?_
  refine lv_iload_n S.1 S.2.1 dX0_open_10 rfl (lv_at hl 2 rfl) ?_
  refine n_ast 7 D S hw (by omega) rfl (by decide) (by omega) rfl dX0_open_11 (fun M1 H locs eM1 hw => ?_)
  refine lv_aload_n S.1 S.2.1 dX0_open_12 rfl (lv_at hl 1 rfl) ?_
  refine m_getR 6 2 8 S hw (by omega) rfl rfl rfl in_X0 (by decide) wf_X0_19 dX0_open_13 ?_
  refine lv_iload_n S.1 S.2.1 dX0_open_16 rfl (lv_at hl 0 rfl) ?_
  refine lv_bipush (v := nI 10) S.1 S.2.1 dX0_open_17 (by decide) ?_
  refine n_ast 8 D S hw (by omega) rfl (by decide) (by omega) rfl dX0_open_19 (fun M2 H locs eM2 hw => ?_)
  refine lv_aload_n S.1 S.2.1 dX0_open_20 rfl (lv_at hl 1 rfl) ?_
  refine lv_iload_n S.1 S.2.1 dX0_open_21 rfl (lv_at hl 0 rfl) ?_
  refine lv_iconst (v := nI 1) S.1 S.2.1 dX0_open_22 (by decide) ?_
  refine lv_iadd S.1 S.2.1 dX0_open_23 ?_
  refine m_top (show (nI D) + (nI 1) = nI (D + 1) from nI_add _ _) ?_
  refine n_putI 6 0 S hw (by omega) rfl rfl rfl in_X0 tyX0_ok nmX0 (by decide) rfl rfl wf_X0_9 dX0_open_24 (fun M3 H locs eM3 hw => ?_)
  refine lv_iload_n S.1 S.2.1 dX0_open_27 rfl (lv_at hl 0 rfl) ?_
  have hq4 : M1 6 = M 6 := by rw [eM1, va_up_ne _ _ (by omega)]
  have hq5 : M2 6 = M 6 := by rw [eM2, va_up_ne _ _ (by omega), hq4]
  have hq6 : M3 6 = upd (M 6) 0 (nI (D + 1)) := by rw [eM3, va_up_self, hq5]
  have hq7 : M1 7 = upd (M 7) D x := by rw [eM1, va_up_self]
  have hq8 : M2 7 = upd (M 7) D x := by rw [eM2, va_up_ne _ _ (by omega), hq7]
  have hq9 : M3 7 = upd (M 7) D x := by rw [eM3, va_up_ne _ _ (by omega), hq8]
  have hq10 : M1 8 = M 8 := by rw [eM1, va_up_ne _ _ (by omega)]
  have hq11 : M2 8 = upd (M 8) D (nI 10) := by rw [eM2, va_up_self, hq10]
  have hq12 : M3 8 = upd (M 8) D (nI 10) := by rw [eM3, va_up_ne _ _ (by omega), hq11]
  have hq13 : M1 9 = M 9 := by rw [eM1, va_up_ne _ _ (by omega)]
  have hq14 : M2 9 = M 9 := by rw [eM2, va_up_ne _ _ (by omega), hq13]
  have hq15 : M3 9 = M 9 := by rw [eM3, va_up_ne _ _ (by omega), hq14]
  have hq16 : M1 10 = M 10 := by rw [eM1, va_up_ne _ _ (by omega)]
  have hq17 : M2 10 = M 10 := by rw [eM2, va_up_ne _ _ (by omega), hq16]
  have hq18 : M3 10 = M 10 := by rw [eM3, va_up_ne _ _ (by omega), hq17]
  have hq19 : M1 11 = M 11 := by rw [eM1, va_up_ne _ _ (by omega)]
  have hq20 : M2 11 = M 11 := by rw [eM2, va_up_ne _ _ (by omega), hq19]
  have hq21 : M3 11 = M 11 := by rw [eM3, va_up_ne _ _ (by omega), hq20]
  exact m_reti S hr hlocks hw dX0_open_28 ⟨rfl, hq6, hq9, hq12, hq15, hq18, hq21, (by rw [eM3]; exact Fr.up (by rw [eM2]; exact Fr.up (by rw [eM1]; exact Fr.up Fr.rf (by omega) (by omega)) (by omega) (by omega)) (by omega) (by omega))⟩

set_option maxHeartbeats 4000000 in
set_option maxRecDepth 100000 in
/-- Doors.build -/
theorem c_X0_build (l : Launch) (G : GT) (N K : Nat) (ad : Nat → Nat) (M : Mem) (h34 : 34 ≤ N) (t : Nat) (ht : t < 48) (x y : Int32) : CmV l G N K ad yX0_build cX0_build 4 0 0 [.ref (ad 6), .int (nI t), .int x, .int y] M (fun M1 => M1 6 = M 6 ∧ M1 7 = M 7 ∧ M1 8 = M 8 ∧ M1 9 = upd (M 9) t (nI 1) ∧ M1 10 = upd (M 10) t x ∧ M1 11 = upd (M 11) t y ∧ Fr 6 12 M M1) := by
  refine cm_startV (by decide +kernel) (Nat.le_of_ble_eq_true rfl) ?_
  intro p e s m below meth c ls S hr hlocks hw hl
  have hl : lv_has ls 4 [(0, .ref (ad 6)), (1, .int (nI t)), (2, .int x), (3, .int y)] := hl
  refine lv_aload_n S.1 S.2.1 dX0_build_0 rfl (lv_at hl 0 rfl) ?_
  refine m_getR 6 3 9 S hw (by omega) rfl rfl rfl in_X0 (by decide) wf_X0_22 dX0_build_1 ?_
  refine lv_iload_n S.1 S.2.1 dX0_build_4 rfl (lv_at hl 1 rfl) ?_
  refine lv_iconst (v := nI 1) S.1 S.2.1 dX0_build_5 (by decide) ?_
  refine n_zst 9 t S hw (by omega) rfl (by decide) (by omega) rfl rfl dX0_build_6 (fun M1 H locs eM1 hw => ?_)
  refine lv_aload_n S.1 S.2.1 dX0_build_7 rfl (lv_at hl 0 rfl) ?_
  refine m_getR 6 4 10 S hw (by omega) rfl rfl rfl in_X0 (by decide) wf_X0_26 dX0_build_8 ?_
  refine lv_iload_n S.1 S.2.1 dX0_build_11 rfl (lv_at hl 1 rfl) ?_
  refine lv_iload_n S.1 S.2.1 dX0_build_12 rfl (lv_at hl 2 rfl) ?_
  refine n_ast 10 t S hw (by omega) rfl (by decide) (by omega) rfl dX0_build_13 (fun M2 H locs eM2 hw => ?_)
  refine lv_aload_n S.1 S.2.1 dX0_build_14 rfl (lv_at hl 0 rfl) ?_
  refine m_getR 6 5 11 S hw (by omega) rfl rfl rfl in_X0 (by decide) wf_X0_29 dX0_build_15 ?_
  refine lv_iload_n S.1 S.2.1 dX0_build_18 rfl (lv_at hl 1 rfl) ?_
  refine lv_iload_n S.1 S.2.1 dX0_build_19 rfl (lv_at hl 3 rfl) ?_
  refine n_ast 11 t S hw (by omega) rfl (by decide) (by omega) rfl dX0_build_20 (fun M3 H locs eM3 hw => ?_)
  have hq4 : M1 6 = M 6 := by rw [eM1, va_up_ne _ _ (by omega)]
  have hq5 : M2 6 = M 6 := by rw [eM2, va_up_ne _ _ (by omega), hq4]
  have hq6 : M3 6 = M 6 := by rw [eM3, va_up_ne _ _ (by omega), hq5]
  have hq7 : M1 7 = M 7 := by rw [eM1, va_up_ne _ _ (by omega)]
  have hq8 : M2 7 = M 7 := by rw [eM2, va_up_ne _ _ (by omega), hq7]
  have hq9 : M3 7 = M 7 := by rw [eM3, va_up_ne _ _ (by omega), hq8]
  have hq10 : M1 8 = M 8 := by rw [eM1, va_up_ne _ _ (by omega)]
  have hq11 : M2 8 = M 8 := by rw [eM2, va_up_ne _ _ (by omega), hq10]
  have hq12 : M3 8 = M 8 := by rw [eM3, va_up_ne _ _ (by omega), hq11]
  have hq13 : M1 9 = upd (M 9) t (nI 1) := by rw [eM1, va_up_self]
  have hq14 : M2 9 = upd (M 9) t (nI 1) := by rw [eM2, va_up_ne _ _ (by omega), hq13]
  have hq15 : M3 9 = upd (M 9) t (nI 1) := by rw [eM3, va_up_ne _ _ (by omega), hq14]
  have hq16 : M1 10 = M 10 := by rw [eM1, va_up_ne _ _ (by omega)]
  have hq17 : M2 10 = upd (M 10) t x := by rw [eM2, va_up_self, hq16]
  have hq18 : M3 10 = upd (M 10) t x := by rw [eM3, va_up_ne _ _ (by omega), hq17]
  have hq19 : M1 11 = M 11 := by rw [eM1, va_up_ne _ _ (by omega)]
  have hq20 : M2 11 = M 11 := by rw [eM2, va_up_ne _ _ (by omega), hq19]
  have hq21 : M3 11 = upd (M 11) t y := by rw [eM3, va_up_self, hq20]
  exact m_retv S hr hlocks hw dX0_build_21 ⟨hq6, hq9, hq12, hq15, hq18, hq21, (by rw [eM3]; exact Fr.up (by rw [eM2]; exact Fr.up (by rw [eM1]; exact Fr.up Fr.rf (by omega) (by omega)) (by omega) (by omega)) (by omega) (by omega))⟩

set_option maxHeartbeats 4000000 in
set_option maxRecDepth 100000 in
/-- Doors.clear -/
theorem c_X0_clear (l : Launch) (G : GT) (N K : Nat) (ad : Nat → Nat) (M : Mem) (h34 : 34 ≤ N) : CmV l G N K ad yX0_clear cX0_clear 2 0 0 [.ref (ad 6)] M (fun M1 => M1 6 = upd (M 6) 0 (nI 0) ∧ (∀ t, t < 48 → M1 9 t = 0) ∧ M1 7 = M 7 ∧ M1 8 = M 8 ∧ M1 10 = M 10 ∧ M1 11 = M 11 ∧ Fr 6 12 M M1) := by
  refine cm_startV (by decide +kernel) (Nat.le_of_ble_eq_true rfl) ?_
  intro p e s m below meth c ls S hr hlocks hw hl
  have hl : lv_has ls 2 [(0, .ref (ad 6))] := hl
  generalize hAv : List.toArray ([.ref (ad 6)] : List Value) = A at S ⊢
  have loop : ∀ (n : Nat) (i : Nat), i + n = 48 → ∀ (M2 : Mem) (H : Heap) (locs : List Loc) (ls : Array Slot), (M2 6 = upd (M 6) 0 (nI 0) ∧ (∀ t, t < i → M2 9 t = 0) ∧ M2 7 = M 7 ∧ M2 8 = M 8 ∧ M2 10 = M 10 ∧ M2 11 = M 11 ∧ Fr 6 12 M M2) → Wd G N K ad M2 s H locs → lv_has ls 2 [(0, .ref (ad 6)), (1, .int (nI i))] → W p l e { frames := 0, cells := 0, slots := 0, locals := 0 } s m A below meth c H locs 0 0 (QmV G N K ad (fun M1 => M1 6 = upd (M 6) 0 (nI 0) ∧ (∀ t, t < 48 → M1 9 t = 0) ∧ M1 7 = M 7 ∧ M1 8 = M 8 ∧ M1 10 = M 10 ∧ M1 11 = M 11 ∧ Fr 6 12 M M1) below A s) (F0 m 7 ls []) := by
    intro n
    induction n with
    | zero =>
      intro i hi M2 H locs ls hv hw hl
      refine lv_iload_n S.1 S.2.1 dX0_clear_7 rfl (lv_at hl 1 rfl) ?_
      refine lv_bipush (v := nI 48) S.1 S.2.1 dX0_clear_8 (by decide) ?_
      refine n_ge (tgt := 26) S (by omega) (by omega) dX0_clear_10 (by decide) (fun c1 => ?_) (fun c1 => absurd c1 (by omega))
      exact m_retv S hr hlocks hw dX0_clear_26 ⟨hv.1, fun t ht => hv.2.1 t (by omega), hv.2.2⟩
    | succ n ih =>
      intro i hi M2 H locs ls hv hw hl
      refine lv_iload_n S.1 S.2.1 dX0_clear_7 rfl (lv_at hl 1 rfl) ?_
      refine lv_bipush (v := nI 48) S.1 S.2.1 dX0_clear_8 (by decide) ?_
      refine n_ge (tgt := 26) S (by omega) (by omega) dX0_clear_10 (by decide) (fun c11 => absurd c11 (by omega)) (fun c11 => ?_)
      refine lv_aload_n S.1 S.2.1 dX0_clear_13 rfl (lv_at hl 0 rfl) ?_
      refine m_getR 6 3 9 S hw (by omega) rfl rfl rfl in_X0 (by decide) wf_X0_22 dX0_clear_14 ?_
      refine lv_iload_n S.1 S.2.1 dX0_clear_17 rfl (lv_at hl 1 rfl) ?_
      refine lv_iconst (v := nI 0) S.1 S.2.1 dX0_clear_18 (by decide) ?_
      refine n_zst 9 i S hw (by omega) rfl (by decide) (by omega) rfl rfl dX0_clear_19 (fun M12 H locs eM12 hw => ?_)
      refine lv_iinc (v := nI (i + 1)) (lv' := [(1, .int (nI (i + 1))), (0, .ref (ad 6))]) S.1 S.2.1 dX0_clear_20 hl (k := 1) rfl (iinc1 _) (by decide) rfl (fun ls hl => ?_)
      refine lv_goto (tgt := 7) S.1 S.2.1 dX0_clear_23 (by decide) ?_
      obtain ⟨i6, i9, i7, i8, i10, i11, ifr⟩ := hv
      have hq13 : M12 6 = M2 6 := by rw [eM12, va_up_ne _ _ (by omega)]
      have hq14 : M12 7 = M2 7 := by rw [eM12, va_up_ne _ _ (by omega)]
      have hq15 : M12 8 = M2 8 := by rw [eM12, va_up_ne _ _ (by omega)]
      have hq16 : M12 10 = M2 10 := by rw [eM12, va_up_ne _ _ (by omega)]
      have hq17 : M12 11 = M2 11 := by rw [eM12, va_up_ne _ _ (by omega)]
      refine ih (i + 1) (by omega) _ _ _ ls ⟨hq13.trans i6, ?_, hq14.trans i7, hq15.trans i8, hq16.trans i10, hq17.trans i11, (by rw [eM12]; exact Fr.up ifr (by omega) (by omega))⟩ hw (lv_sub hl [1, 0] rfl)
      rw [eM12, va_up_self]
      exact lt_s (fun a ha => (pk_un (by omega)).trans (i9 a ha)) pk_us
  refine lv_aload_n S.1 S.2.1 dX0_clear_0 rfl (lv_at hl 0 rfl) ?_
  refine lv_iconst (v := nI 0) S.1 S.2.1 dX0_clear_1 (by decide) ?_
  refine n_putI 6 0 S hw (by omega) rfl rfl rfl in_X0 tyX0_ok nmX0 (by decide) rfl rfl wf_X0_9 dX0_clear_2 (fun M1 H locs eM1 hw => ?_)
  refine lv_iconst (v := nI 0) S.1 S.2.1 dX0_clear_5 (by decide) ?_
  refine lv_istore_n (lv' := [(1, .int (nI 0)), (0, .ref (ad 6))]) S.1 S.2.1 dX0_clear_6 rfl hl (by decide) rfl (fun ls hl => ?_)
  have hq2 : M1 6 = upd (M 6) 0 (nI 0) := by rw [eM1, va_up_self]
  have hq3 : M1 7 = M 7 := by rw [eM1, va_up_ne _ _ (by omega)]
  have hq4 : M1 8 = M 8 := by rw [eM1, va_up_ne _ _ (by omega)]
  have hq5 : M1 10 = M 10 := by rw [eM1, va_up_ne _ _ (by omega)]
  have hq6 : M1 11 = M 11 := by rw [eM1, va_up_ne _ _ (by omega)]
  exact loop 48 0 (by omega) _ _ _ ls ⟨hq2, lt_0, hq3, hq4, hq5, hq6, (by rw [eM1]; exact Fr.up Fr.rf (by omega) (by omega))⟩ hw (lv_sub hl [1, 0] rfl)
