set_option maxHeartbeats 4000000 in
set_option maxRecDepth 100000 in
/-- Pipe.isPure -/
theorem c_X2_isPure (l : Launch) (G : GT) (N K : Nat) (ad : Nat → Nat) (M : Mem) (mb : Nat) (hm : IsM N K mb) (j : Nat) (hj : j < 120) : CrI l G N K ad yX2_isPure cX2_isPure 2 .boolean 0 0 [.ref (ad (mb + 1)), .int (nI j)] M (b01 (pureB (M (mb + 4)) j)) := by
  refine cm_startI (by decide +kernel) (Nat.le_of_ble_eq_true rfl) ?_
  intro p e s m below meth c ls S hr hlocks hw hl
  have hl : lv_has ls 2 [(0, .ref (ad (mb + 1))), (1, .int (nI j))] := hl
  have hlt_mb := hm.lt
  refine lv_aload_n S.1 S.2.1 dX2_isPure_0 rfl (lv_at hl 0 rfl) ?_
  refine m_getR (mb + 1) 3 (mb + 4) S hw (by omega) hm.s1 rfl rfl in_X2 (by decide) wf_X2_22 dX2_isPure_1 ?_
  refine lv_iload_n S.1 S.2.1 dX2_isPure_4 rfl (lv_at hl 1 rfl) ?_
  refine m_ald (mb + 4) j S hw (by omega) hm.s4 (by decide) (by omega) rfl dX2_isPure_5 ?_
  refine lv_iconst (v := (-1)) S.1 S.2.1 dX2_isPure_6 (by decide) ?_
  refine lv_icmp_ne (tgt := 14) S.1 S.2.1 dX2_isPure_7 (by decide) (fun c1 => ?_) (fun c1 => ?_)
  · refine lv_iconst (v := nI 0) S.1 S.2.1 dX2_isPure_14 (by decide) ?_
    exact m_retz S hr hlocks hw dX2_isPure_15 rfl ⟨b0_f (eqB_f c1), rfl⟩
  · refine lv_iconst (v := nI 1) S.1 S.2.1 dX2_isPure_10 (by decide) ?_
    refine lv_goto (tgt := 15) S.1 S.2.1 dX2_isPure_11 (by decide) ?_
    exact m_retz S hr hlocks hw dX2_isPure_15 rfl ⟨b1_t (eqB_t c1), rfl⟩

set_option maxHeartbeats 4000000 in
set_option maxRecDepth 100000 in
/-- Pipe.neighbourToBegin -/
theorem c_X2_neighbourToBegin (l : Launch) (G : GT) (N K : Nat) (ad : Nat → Nat) (M : Mem) (mb : Nat) (hm : IsM N K mb) (j : Nat) (hj : j ≤ 120) : CrI l G N K ad yX2_neighbourToBegin cX2_neighbourToBegin 3 .int 1 21 [.ref (ad (mb + 1)), .int (nI j)] M (enc (nbB (M (mb + 4)) j)) := by
  refine cm_startI (by decide +kernel) (Nat.le_of_ble_eq_true rfl) ?_
  intro p e s m below meth c ls S hr hlocks hw hl
  have hl : lv_has ls 3 [(0, .ref (ad (mb + 1))), (1, .int (nI j))] := hl
  have hlt_mb := hm.lt
  generalize hAv : List.toArray ([.ref (ad (mb + 1)), .int (nI j)] : List Value) = A at S ⊢
  have loop : ∀ (n' : Nat), n' ≤ 120 → nbB (M (mb + 4)) j = nbB (M (mb + 4)) n' → ∀ (H : Heap) (locs : List Loc) (ls : Array Slot), Wd G N K ad M s H locs → lv_has ls 3 [(0, .ref (ad (mb + 1))), (1, .int (nI j)), (2, .int (nI n' - nI 1))] → W p l e { frames := 1, cells := 0, slots := 0, locals := 21 } s m A below meth c H locs 0 0 (QmI G N K ad (fun r M' => r = (enc (nbB (M (mb + 4)) j)) ∧ M' = M) below A s) (F0 m 4 ls []) := by
    intro n'
    induction n' with
    | zero =>
      intro hc he H locs ls hw hl
      refine lv_iload_n S.1 S.2.1 dX2_neighbourToBegin_4 rfl (lv_at hl 2 rfl) ?_
      refine lv_if_lt (tgt := 24) S.1 S.2.1 dX2_neighbourToBegin_5 (by decide) (fun c1 => ?_) (fun c1 => absurd c1 (fun z => z nI_m1))
      refine lv_iconst (v := (-1)) S.1 S.2.1 dX2_neighbourToBegin_24 (by decide) ?_
      exact m_reti S hr hlocks hw dX2_neighbourToBegin_25 ⟨by rw [he]; rfl, rfl⟩
    | succ c' ih =>
      intro hc he H locs ls hw hl
      have hl : lv_has ls 3 [(0, .ref (ad (mb + 1))), (1, .int (nI j)), (2, .int (nI (c')))] := by rw [predN] at hl; exact hl
      refine lv_iload_n S.1 S.2.1 dX2_neighbourToBegin_4 rfl (lv_at hl 2 rfl) ?_
      refine lv_if_lt (tgt := 24) S.1 S.2.1 dX2_neighbourToBegin_5 (by decide) (fun c1 => absurd c1 (nI_pos (by omega))) (fun c1 => ?_)
      refine lv_aload_n S.1 S.2.1 dX2_neighbourToBegin_8 rfl (lv_at hl 0 rfl) ?_
      refine lv_iload_n S.1 S.2.1 dX2_neighbourToBegin_9 rfl (lv_at hl 2 rfl) ?_
      refine r_VI (As := [.int (nI (c'))]) (rest := []) (mb + 1) S hw (by omega) hm.s1 rfl (c_X2_isPure l G N K ad M mb hm (c') (by omega)) mf_X2_isPure wm_X2_38 ⟨by decide, by decide⟩ ⟨Nat.le_refl _, Nat.le_refl _⟩ hl.1 rfl (Nat.le_of_ble_eq_true rfl) dX2_neighbourToBegin_10 (fun H locs hw => ?_)
      refine b_eq (tgt := 18) S dX2_neighbourToBegin_13 (by decide) (fun c2 => ?_) (fun c2 => ?_)
      · refine lv_iinc (v := nI c' - nI 1) (lv' := [(2, .int (nI c' - nI 1)), (0, .ref (ad (mb + 1))), (1, .int (nI j))]) S.1 S.2.1 dX2_neighbourToBegin_18 hl (k := 2) rfl (iincM1 _) (by decide) rfl (fun ls hl => ?_)
        refine lv_goto (tgt := 4) S.1 S.2.1 dX2_neighbourToBegin_21 (by decide) ?_
        exact ih (by omega) (he.trans (nbB_f c2)) _ _ ls hw (lv_sub hl [1, 2, 0] rfl)
      · refine lv_iload_n S.1 S.2.1 dX2_neighbourToBegin_16 rfl (lv_at hl 2 rfl) ?_
        exact m_reti S hr hlocks hw dX2_neighbourToBegin_17 ⟨by rw [he, nbB_t c2]; rfl, rfl⟩
  refine lv_iload_n S.1 S.2.1 dX2_neighbourToBegin_0 rfl (lv_at hl 1 rfl) ?_
  refine lv_iconst (v := nI 1) S.1 S.2.1 dX2_neighbourToBegin_1 (by decide) ?_
  refine lv_isub S.1 S.2.1 dX2_neighbourToBegin_2 ?_
  refine lv_istore_n (lv' := [(2, .int ((nI j) - (nI 1))), (0, .ref (ad (mb + 1))), (1, .int (nI j))]) S.1 S.2.1 dX2_neighbourToBegin_3 rfl hl (by decide) rfl (fun ls hl => ?_)
  exact loop j hj rfl _ _ ls hw (lv_sub hl [1, 2, 0] rfl)

set_option maxHeartbeats 4000000 in
set_option maxRecDepth 100000 in
/-- Pipe.neighbourToEnd -/
theorem c_X2_neighbourToEnd (l : Launch) (G : GT) (N K : Nat) (ad : Nat → Nat) (M : Mem) (mb : Nat) (hm : IsM N K mb) (n : Nat) (hn : M (mb + 1) 0 = nI n) (hn1 : n ≤ 120) (j : Nat) (hj : j < n) : CrI l G N K ad yX2_neighbourToEnd cX2_neighbourToEnd 3 .int 1 21 [.ref (ad (mb + 1)), .int (nI j)] M (enc (nbE (M (mb + 4)) n j)) := by
  refine cm_startI (by decide +kernel) (Nat.le_of_ble_eq_true rfl) ?_
  intro p e s m below meth c ls S hr hlocks hw hl
  have hl : lv_has ls 3 [(0, .ref (ad (mb + 1))), (1, .int (nI j))] := hl
  have hlt_mb := hm.lt
  generalize hAv : List.toArray ([.ref (ad (mb + 1)), .int (nI j)] : List Value) = A at S ⊢
  have loop : ∀ (n' : Nat) (i : Nat), i + n' = n → nbE (M (mb + 4)) n j = nbEc (M (mb + 4)) n' i → ∀ (H : Heap) (locs : List Loc) (ls : Array Slot), Wd G N K ad M s H locs → lv_has ls 3 [(0, .ref (ad (mb + 1))), (1, .int (nI j)), (2, .int (nI i))] → W p l e { frames := 1, cells := 0, slots := 0, locals := 21 } s m A below meth c H locs 0 0 (QmI G N K ad (fun r M' => r = (enc (nbE (M (mb + 4)) n j)) ∧ M' = M) below A s) (F0 m 4 ls []) := by
    intro n'
    induction n' with
    | zero =>
      intro i hi he H locs ls hw hl
      refine lv_iload_n S.1 S.2.1 dX2_neighbourToEnd_4 rfl (lv_at hl 2 rfl) ?_
      refine lv_aload_n S.1 S.2.1 dX2_neighbourToEnd_5 rfl (lv_at hl 0 rfl) ?_
      refine m_getI (mb + 1) 0 S hw (by omega) hm.s1 rfl rfl in_X2 (by decide) wf_X2_9 dX2_neighbourToEnd_6 ?_
      refine m_top (show M (mb + 1) 0 = nI n from hn) ?_
      refine n_ge (tgt := 28) S (by omega) (by omega) dX2_neighbourToEnd_9 (by decide) (fun c1 => ?_) (fun c1 => absurd c1 (by omega))
      refine lv_iconst (v := (-1)) S.1 S.2.1 dX2_neighbourToEnd_28 (by decide) ?_
      exact m_reti S hr hlocks hw dX2_neighbourToEnd_29 ⟨by rw [he]; rfl, rfl⟩
    | succ n' ih =>
      intro i hi he H locs ls hw hl
      refine lv_iload_n S.1 S.2.1 dX2_neighbourToEnd_4 rfl (lv_at hl 2 rfl) ?_
      refine lv_aload_n S.1 S.2.1 dX2_neighbourToEnd_5 rfl (lv_at hl 0 rfl) ?_
      refine m_getI (mb + 1) 0 S hw (by omega) hm.s1 rfl rfl in_X2 (by decide) wf_X2_9 dX2_neighbourToEnd_6 ?_
      refine m_top (show M (mb + 1) 0 = nI n from hn) ?_
      refine n_ge (tgt := 28) S (by omega) (by omega) dX2_neighbourToEnd_9 (by decide) (fun c1 => absurd c1 (by omega)) (fun c1 => ?_)
      refine lv_aload_n S.1 S.2.1 dX2_neighbourToEnd_12 rfl (lv_at hl 0 rfl) ?_
      refine lv_iload_n S.1 S.2.1 dX2_neighbourToEnd_13 rfl (lv_at hl 2 rfl) ?_
      refine r_VI (As := [.int (nI i)]) (rest := []) (mb + 1) S hw (by omega) hm.s1 rfl (c_X2_isPure l G N K ad M mb hm i (by omega)) mf_X2_isPure wm_X2_38 ⟨by decide, by decide⟩ ⟨Nat.le_refl _, Nat.le_refl _⟩ hl.1 rfl (Nat.le_of_ble_eq_true rfl) dX2_neighbourToEnd_14 (fun H locs hw => ?_)
      refine b_eq (tgt := 22) S dX2_neighbourToEnd_17 (by decide) (fun c2 => ?_) (fun c2 => ?_)
      · refine lv_iinc (v := nI (i + 1)) (lv' := [(2, .int (nI (i + 1))), (0, .ref (ad (mb + 1))), (1, .int (nI j))]) S.1 S.2.1 dX2_neighbourToEnd_22 hl (k := 2) rfl (iinc1 _) (by decide) rfl (fun ls hl => ?_)
        refine lv_goto (tgt := 4) S.1 S.2.1 dX2_neighbourToEnd_25 (by decide) ?_
        exact ih (i + 1) (by omega) (he.trans (nbEc_f c2)) _ _ ls hw (lv_sub hl [1, 2, 0] rfl)
      · refine lv_iload_n S.1 S.2.1 dX2_neighbourToEnd_20 rfl (lv_at hl 2 rfl) ?_
        exact m_reti S hr hlocks hw dX2_neighbourToEnd_21 ⟨by rw [he, nbEc_t c2]; rfl, rfl⟩
  refine lv_iload_n S.1 S.2.1 dX2_neighbourToEnd_0 rfl (lv_at hl 1 rfl) ?_
  refine lv_iconst (v := nI 1) S.1 S.2.1 dX2_neighbourToEnd_1 (by decide) ?_
  refine lv_iadd S.1 S.2.1 dX2_neighbourToEnd_2 ?_
  refine m_top (show (nI j) + (nI 1) = nI (j + 1) from nI_add _ _) ?_
  refine lv_istore_n (lv' := [(2, .int (nI (j + 1))), (0, .ref (ad (mb + 1))), (1, .int (nI j))]) S.1 S.2.1 dX2_neighbourToEnd_3 rfl hl (by decide) rfl (fun ls hl => ?_)
  exact loop (n - (j + 1)) (j + 1) (by omega) rfl _ _ ls hw (lv_sub hl [1, 2, 0] rfl)

set_option maxHeartbeats 4000000 in
set_option maxRecDepth 100000 in
/-- Pipe.isBorder -/
theorem c_X2_isBorder (l : Launch) (G : GT) (N K : Nat) (ad : Nat → Nat) (M : Mem) (mb : Nat) (hm : IsM N K mb) (j : Nat) (hj : j < 120) : CrI l G N K ad yX2_isBorder cX2_isBorder 3 .boolean 2 43 [.ref (ad (mb + 1)), .int (nI j)] M (b01 (bord (M (mb + 4)) (M (mb + 3)) j).isSome) := by
  refine cm_startI (by decide +kernel) (Nat.le_of_ble_eq_true rfl) ?_
  intro p e s m below meth c ls S hr hlocks hw hl
  have hl : lv_has ls 3 [(0, .ref (ad (mb + 1))), (1, .int (nI j))] := hl
  have hlt_mb := hm.lt
  refine lv_aload_n S.1 S.2.1 dX2_isBorder_0 rfl (lv_at hl 0 rfl) ?_
  refine lv_iload_n S.1 S.2.1 dX2_isBorder_1 rfl (lv_at hl 1 rfl) ?_
  refine r_VI (As := [.int (nI j)]) (rest := []) (mb + 1) S hw (by omega) hm.s1 rfl (c_X2_isPure l G N K ad M mb hm j (by omega)) mf_X2_isPure wm_X2_38 ⟨by decide, by decide⟩ ⟨Nat.le_refl _, Nat.le_refl _⟩ hl.1 rfl (Nat.le_of_ble_eq_true rfl) dX2_isBorder_2 (fun H locs hw => ?_)
  refine b_ne (tgt := 10) S dX2_isBorder_5 (by decide) (fun c1 => ?_) (fun c1 => ?_)
  · refine lv_aload_n S.1 S.2.1 dX2_isBorder_10 rfl (lv_at hl 0 rfl) ?_
    refine lv_iload_n S.1 S.2.1 dX2_isBorder_11 rfl (lv_at hl 1 rfl) ?_
    refine r_VI (As := [.int (nI j)]) (rest := []) (mb + 1) S hw (by omega) hm.s1 rfl (c_X2_neighbourToBegin l G N K ad M mb hm j (by omega)) mf_X2_neighbourToBegin wm_X2_42 ⟨by decide, by decide⟩ ⟨Nat.le_refl _, Nat.le_refl _⟩ hl.1 rfl (Nat.le_of_ble_eq_true rfl) dX2_isBorder_12 (fun H locs hw => ?_)
    rcases opt_cases (nbB (M (mb + 4)) j) with hnb | ⟨x, hnb⟩
    · refine m_top (show enc (nbB (M (mb + 4)) j) = (-1) from enc_n hnb) ?_
      refine lv_istore_n (lv' := [(2, .int (-1)), (0, .ref (ad (mb + 1))), (1, .int (nI j))]) S.1 S.2.1 dX2_isBorder_15 rfl hl (by decide) rfl (fun ls hl => ?_)
      refine lv_iload_n S.1 S.2.1 dX2_isBorder_16 rfl (lv_at hl 0 rfl) ?_
      refine lv_iconst (v := (-1)) S.1 S.2.1 dX2_isBorder_17 (by decide) ?_
      refine lv_icmp_eq (tgt := 40) S.1 S.2.1 dX2_isBorder_18 (by decide) (fun c2 => ?_) (fun c2 => absurd c2 (fun z => z rfl))
      refine lv_iconst (v := nI 0) S.1 S.2.1 dX2_isBorder_40 (by decide) ?_
      exact m_retz S hr hlocks hw dX2_isBorder_41 rfl ⟨b0_f (isS_f (bord_n2 hnb)), rfl⟩
    · have hx := nbB_lt hnb
      refine m_top (show enc (nbB (M (mb + 4)) j) = nI x from enc_s hnb) ?_
      refine lv_istore_n (lv' := [(2, .int (nI x)), (0, .ref (ad (mb + 1))), (1, .int (nI j))]) S.1 S.2.1 dX2_isBorder_15 rfl hl (by decide) rfl (fun ls hl => ?_)
      refine lv_iload_n S.1 S.2.1 dX2_isBorder_16 rfl (lv_at hl 0 rfl) ?_
      refine lv_iconst (v := (-1)) S.1 S.2.1 dX2_isBorder_17 (by decide) ?_
      refine lv_icmp_eq (tgt := 40) S.1 S.2.1 dX2_isBorder_18 (by decide) (fun c3 => absurd c3 (enc_ne (by omega))) (fun c3 => ?_)
      refine lv_aload_n S.1 S.2.1 dX2_isBorder_21 rfl (lv_at hl 1 rfl) ?_
      refine m_getR (mb + 1) 2 (mb + 3) S hw (by omega) hm.s1 rfl rfl in_X2 (by decide) wf_X2_19 dX2_isBorder_22 ?_
      refine lv_iload_n S.1 S.2.1 dX2_isBorder_25 rfl (lv_at hl 0 rfl) ?_
      refine m_ald (mb + 3) x S hw (by omega) hm.s3 (by decide) (by omega) rfl dX2_isBorder_26 ?_
      refine lv_aload_n S.1 S.2.1 dX2_isBorder_27 rfl (lv_at hl 1 rfl) ?_
      refine m_getR (mb + 1) 2 (mb + 3) S hw (by omega) hm.s1 rfl rfl in_X2 (by decide) wf_X2_19 dX2_isBorder_28 ?_
      refine lv_iload_n S.1 S.2.1 dX2_isBorder_31 rfl (lv_at hl 2 rfl) ?_
      refine m_ald (mb + 3) j S hw (by omega) hm.s3 (by decide) (by omega) rfl dX2_isBorder_32 ?_
      refine lv_icmp_eq (tgt := 40) S.1 S.2.1 dX2_isBorder_33 (by decide) (fun c4 => ?_) (fun c4 => ?_)
      · refine lv_iconst (v := nI 0) S.1 S.2.1 dX2_isBorder_40 (by decide) ?_
        exact m_retz S hr hlocks hw dX2_isBorder_41 rfl ⟨b0_f (isS_f (bord_n3 hnb c4)), rfl⟩
      · refine lv_iconst (v := nI 1) S.1 S.2.1 dX2_isBorder_36 (by decide) ?_
        refine lv_goto (tgt := 41) S.1 S.2.1 dX2_isBorder_37 (by decide) ?_
        exact m_retz S hr hlocks hw dX2_isBorder_41 rfl ⟨b1_t (isS_t (bord_s c1 hnb c4)), rfl⟩
  · refine lv_iconst (v := nI 0) S.1 S.2.1 dX2_isBorder_8 (by decide) ?_
    exact m_retz S hr hlocks hw dX2_isBorder_9 rfl ⟨b0_f (isS_f (bord_n1 c1)), rfl⟩

set_option maxHeartbeats 4000000 in
set_option maxRecDepth 100000 in
/-- Pipe.countBorders -/
theorem c_X2_countBorders (l : Launch) (G : GT) (N K : Nat) (ad : Nat → Nat) (M : Mem) (mb : Nat) (hm : IsM N K mb) (n : Nat) (hn : M (mb + 1) 0 = nI n) (hn1 : n ≤ 120) : CrI l G N K ad yX2_countBorders cX2_countBorders 3 .int 3 65 [.ref (ad (mb + 1))] M (nI (cntB (fun j => (bord (M (mb + 4)) (M (mb + 3)) j).isSome) n)) := by
  refine cm_startI (by decide +kernel) (Nat.le_of_ble_eq_true rfl) ?_
  intro p e s m below meth c ls S hr hlocks hw hl
  have hl : lv_has ls 3 [(0, .ref (ad (mb + 1)))] := hl
  have hlt_mb := hm.lt
  generalize hAv : List.toArray ([.ref (ad (mb + 1))] : List Value) = A at S ⊢
  have loop : ∀ (n' : Nat) (i : Nat), i + n' = n → ∀ (H : Heap) (locs : List Loc) (ls : Array Slot), Wd G N K ad M s H locs → lv_has ls 3 [(0, .ref (ad (mb + 1))), (1, .int (nI (cntB (fun j => (bord (M (mb + 4)) (M (mb + 3)) j).isSome) i))), (2, .int (nI i))] → W p l e { frames := 3, cells := 0, slots := 0, locals := 65 } s m A below meth c H locs 0 0 (QmI G N K ad (fun r M' => r = (nI (cntB (fun j => (bord (M (mb + 4)) (M (mb + 3)) j).isSome) n)) ∧ M' = M) below A s) (F0 m 4 ls []) := by
    intro n'
    induction n' with
    | zero =>
      intro i hi H locs ls hw hl
      refine lv_iload_n S.1 S.2.1 dX2_countBorders_4 rfl (lv_at hl 2 rfl) ?_
      refine lv_aload_n S.1 S.2.1 dX2_countBorders_5 rfl (lv_at hl 0 rfl) ?_
      refine m_getI (mb + 1) 0 S hw (by omega) hm.s1 rfl rfl in_X2 (by decide) wf_X2_9 dX2_countBorders_6 ?_
      refine m_top (show M (mb + 1) 0 = nI n from hn) ?_
      refine n_ge (tgt := 29) S (by omega) (by omega) dX2_countBorders_9 (by decide) (fun c1 => ?_) (fun c1 => absurd c1 (by omega))
      refine lv_iload_n S.1 S.2.1 dX2_countBorders_29 rfl (lv_at hl 1 rfl) ?_
      exact m_reti S hr hlocks hw dX2_countBorders_30 ⟨by rw [show i = n by omega], rfl⟩
    | succ n' ih =>
      intro i hi H locs ls hw hl
      refine lv_iload_n S.1 S.2.1 dX2_countBorders_4 rfl (lv_at hl 2 rfl) ?_
      refine lv_aload_n S.1 S.2.1 dX2_countBorders_5 rfl (lv_at hl 0 rfl) ?_
      refine m_getI (mb + 1) 0 S hw (by omega) hm.s1 rfl rfl in_X2 (by decide) wf_X2_9 dX2_countBorders_6 ?_
      refine m_top (show M (mb + 1) 0 = nI n from hn) ?_
      refine n_ge (tgt := 29) S (by omega) (by omega) dX2_countBorders_9 (by decide) (fun c1 => absurd c1 (by omega)) (fun c1 => ?_)
      refine lv_aload_n S.1 S.2.1 dX2_countBorders_12 rfl (lv_at hl 0 rfl) ?_
      refine lv_iload_n S.1 S.2.1 dX2_countBorders_13 rfl (lv_at hl 2 rfl) ?_
      refine r_VI (As := [.int (nI i)]) (rest := []) (mb + 1) S hw (by omega) hm.s1 rfl (c_X2_isBorder l G N K ad M mb hm i (by omega)) mf_X2_isBorder wm_X2_46 ⟨by decide, by decide⟩ ⟨Nat.le_refl _, Nat.le_refl _⟩ hl.1 rfl (Nat.le_of_ble_eq_true rfl) dX2_countBorders_14 (fun H locs hw => ?_)
      refine b_eq (tgt := 23) S dX2_countBorders_17 (by decide) (fun c2 => ?_) (fun c2 => ?_)
      · refine lv_iinc (v := nI (i + 1)) (lv' := [(2, .int (nI (i + 1))), (0, .ref (ad (mb + 1))), (1, .int (nI (cntB (fun j => (bord (M (mb + 4)) (M (mb + 3)) j).isSome) i)))]) S.1 S.2.1 dX2_countBorders_23 hl (k := 2) rfl (iinc1 _) (by decide) rfl (fun ls hl => ?_)
        refine lv_goto (tgt := 4) S.1 S.2.1 dX2_countBorders_26 (by decide) ?_
        have hl : lv_has ls 3 [(2, .int (nI (i + 1))), (0, .ref (ad (mb + 1))), (1, .int (nI (cntB (fun j => (bord (M (mb + 4)) (M (mb + 3)) j).isSome) (i + 1))))] := by rw [cntB_f (p := fun j => (bord (M (mb + 4)) (M (mb + 3)) j).isSome) (c2)]; exact hl
        exact ih (i + 1) (by omega) _ _ ls hw (lv_sub hl [1, 2, 0] rfl)
      · refine lv_iinc (v := nI ((cntB (fun j => (bord (M (mb + 4)) (M (mb + 3)) j).isSome) i) + 1)) (lv' := [(1, .int (nI ((cntB (fun j => (bord (M (mb + 4)) (M (mb + 3)) j).isSome) i) + 1))), (0, .ref (ad (mb + 1))), (2, .int (nI i))]) S.1 S.2.1 dX2_countBorders_20 hl (k := 1) rfl (iinc1 _) (by decide) rfl (fun ls hl => ?_)
        refine lv_iinc (v := nI (i + 1)) (lv' := [(2, .int (nI (i + 1))), (1, .int (nI ((cntB (fun j => (bord (M (mb + 4)) (M (mb + 3)) j).isSome) i) + 1))), (0, .ref (ad (mb + 1)))]) S.1 S.2.1 dX2_countBorders_23 hl (k := 2) rfl (iinc1 _) (by decide) rfl (fun ls hl => ?_)
        refine lv_goto (tgt := 4) S.1 S.2.1 dX2_countBorders_26 (by decide) ?_
        have hl : lv_has ls 3 [(2, .int (nI (i + 1))), (1, .int (nI (cntB (fun j => (bord (M (mb + 4)) (M (mb + 3)) j).isSome) (i + 1)))), (0, .ref (ad (mb + 1)))] := by rw [cntB_t (p := fun j => (bord (M (mb + 4)) (M (mb + 3)) j).isSome) (c2)]; exact hl
        exact ih (i + 1) (by omega) _ _ ls hw (lv_sub hl [2, 1, 0] rfl)
  refine lv_iconst (v := nI 0) S.1 S.2.1 dX2_countBorders_0 (by decide) ?_
  refine lv_istore_n (lv' := [(1, .int (nI 0)), (0, .ref (ad (mb + 1)))]) S.1 S.2.1 dX2_countBorders_1 rfl hl (by decide) rfl (fun ls hl => ?_)
  refine lv_iconst (v := nI 0) S.1 S.2.1 dX2_countBorders_2 (by decide) ?_
  refine lv_istore_n (lv' := [(2, .int (nI 0)), (1, .int (nI 0)), (0, .ref (ad (mb + 1)))]) S.1 S.2.1 dX2_countBorders_3 rfl hl (by decide) rfl (fun ls hl => ?_)
  exact loop n 0 (by omega) _ _ ls hw (lv_sub hl [2, 1, 0] rfl)

set_option maxHeartbeats 4000000 in
set_option maxRecDepth 100000 in
/-- Pipe.countMixed -/
theorem c_X2_countMixed (l : Launch) (G : GT) (N K : Nat) (ad : Nat → Nat) (M : Mem) (mb : Nat) (hm : IsM N K mb) (n : Nat) (hn : M (mb + 1) 0 = nI n) (hn1 : n ≤ 120) : CrI l G N K ad yX2_countMixed cX2_countMixed 3 .int 1 21 [.ref (ad (mb + 1))] M (nI (cntB (fun j => !pureB (M (mb + 4)) j) n)) := by
  refine cm_startI (by decide +kernel) (Nat.le_of_ble_eq_true rfl) ?_
  intro p e s m below meth c ls S hr hlocks hw hl
  have hl : lv_has ls 3 [(0, .ref (ad (mb + 1)))] := hl
  have hlt_mb := hm.lt
  generalize hAv : List.toArray ([.ref (ad (mb + 1))] : List Value) = A at S ⊢
  have loop : ∀ (n' : Nat) (i : Nat), i + n' = n → ∀ (H : Heap) (locs : List Loc) (ls : Array Slot), Wd G N K ad M s H locs → lv_has ls 3 [(0, .ref (ad (mb + 1))), (1, .int (nI (cntB (fun j => !pureB (M (mb + 4)) j) i))), (2, .int (nI i))] → W p l e { frames := 1, cells := 0, slots := 0, locals := 21 } s m A below meth c H locs 0 0 (QmI G N K ad (fun r M' => r = (nI (cntB (fun j => !pureB (M (mb + 4)) j) n)) ∧ M' = M) below A s) (F0 m 4 ls []) := by
    intro n'
    induction n' with
    | zero =>
      intro i hi H locs ls hw hl
      refine lv_iload_n S.1 S.2.1 dX2_countMixed_4 rfl (lv_at hl 2 rfl) ?_
      refine lv_aload_n S.1 S.2.1 dX2_countMixed_5 rfl (lv_at hl 0 rfl) ?_
      refine m_getI (mb + 1) 0 S hw (by omega) hm.s1 rfl rfl in_X2 (by decide) wf_X2_9 dX2_countMixed_6 ?_
      refine m_top (show M (mb + 1) 0 = nI n from hn) ?_
      refine n_ge (tgt := 29) S (by omega) (by omega) dX2_countMixed_9 (by decide) (fun c1 => ?_) (fun c1 => absurd c1 (by omega))
      refine lv_iload_n S.1 S.2.1 dX2_countMixed_29 rfl (lv_at hl 1 rfl) ?_
      exact m_reti S hr hlocks hw dX2_countMixed_30 ⟨by rw [show i = n by omega], rfl⟩
    | succ n' ih =>
      intro i hi H locs ls hw hl
      refine lv_iload_n S.1 S.2.1 dX2_countMixed_4 rfl (lv_at hl 2 rfl) ?_
      refine lv_aload_n S.1 S.2.1 dX2_countMixed_5 rfl (lv_at hl 0 rfl) ?_
      refine m_getI (mb + 1) 0 S hw (by omega) hm.s1 rfl rfl in_X2 (by decide) wf_X2_9 dX2_countMixed_6 ?_
      refine m_top (show M (mb + 1) 0 = nI n from hn) ?_
      refine n_ge (tgt := 29) S (by omega) (by omega) dX2_countMixed_9 (by decide) (fun c1 => absurd c1 (by omega)) (fun c1 => ?_)
      refine lv_aload_n S.1 S.2.1 dX2_countMixed_12 rfl (lv_at hl 0 rfl) ?_
      refine lv_iload_n S.1 S.2.1 dX2_countMixed_13 rfl (lv_at hl 2 rfl) ?_
      refine r_VI (As := [.int (nI i)]) (rest := []) (mb + 1) S hw (by omega) hm.s1 rfl (c_X2_isPure l G N K ad M mb hm i (by omega)) mf_X2_isPure wm_X2_38 ⟨by decide, by decide⟩ ⟨Nat.le_refl _, Nat.le_refl _⟩ hl.1 rfl (Nat.le_of_ble_eq_true rfl) dX2_countMixed_14 (fun H locs hw => ?_)
      refine b_ne (tgt := 23) S dX2_countMixed_17 (by decide) (fun c2 => ?_) (fun c2 => ?_)
      · refine lv_iinc (v := nI (i + 1)) (lv' := [(2, .int (nI (i + 1))), (0, .ref (ad (mb + 1))), (1, .int (nI (cntB (fun j => !pureB (M (mb + 4)) j) i)))]) S.1 S.2.1 dX2_countMixed_23 hl (k := 2) rfl (iinc1 _) (by decide) rfl (fun ls hl => ?_)
        refine lv_goto (tgt := 4) S.1 S.2.1 dX2_countMixed_26 (by decide) ?_
        have hl : lv_has ls 3 [(2, .int (nI (i + 1))), (0, .ref (ad (mb + 1))), (1, .int (nI (cntB (fun j => !pureB (M (mb + 4)) j) (i + 1))))] := by rw [cntB_f (p := fun j => !pureB (M (mb + 4)) j) (by rw [c2]; rfl)]; exact hl
        exact ih (i + 1) (by omega) _ _ ls hw (lv_sub hl [1, 2, 0] rfl)
      · refine lv_iinc (v := nI ((cntB (fun j => !pureB (M (mb + 4)) j) i) + 1)) (lv' := [(1, .int (nI ((cntB (fun j => !pureB (M (mb + 4)) j) i) + 1))), (0, .ref (ad (mb + 1))), (2, .int (nI i))]) S.1 S.2.1 dX2_countMixed_20 hl (k := 1) rfl (iinc1 _) (by decide) rfl (fun ls hl => ?_)
        refine lv_iinc (v := nI (i + 1)) (lv' := [(2, .int (nI (i + 1))), (1, .int (nI ((cntB (fun j => !pureB (M (mb + 4)) j) i) + 1))), (0, .ref (ad (mb + 1)))]) S.1 S.2.1 dX2_countMixed_23 hl (k := 2) rfl (iinc1 _) (by decide) rfl (fun ls hl => ?_)
        refine lv_goto (tgt := 4) S.1 S.2.1 dX2_countMixed_26 (by decide) ?_
        have hl : lv_has ls 3 [(2, .int (nI (i + 1))), (1, .int (nI (cntB (fun j => !pureB (M (mb + 4)) j) (i + 1)))), (0, .ref (ad (mb + 1)))] := by rw [cntB_t (p := fun j => !pureB (M (mb + 4)) j) (by rw [c2]; rfl)]; exact hl
        exact ih (i + 1) (by omega) _ _ ls hw (lv_sub hl [2, 1, 0] rfl)
  refine lv_iconst (v := nI 0) S.1 S.2.1 dX2_countMixed_0 (by decide) ?_
  refine lv_istore_n (lv' := [(1, .int (nI 0)), (0, .ref (ad (mb + 1)))]) S.1 S.2.1 dX2_countMixed_1 rfl hl (by decide) rfl (fun ls hl => ?_)
  refine lv_iconst (v := nI 0) S.1 S.2.1 dX2_countMixed_2 (by decide) ?_
  refine lv_istore_n (lv' := [(2, .int (nI 0)), (1, .int (nI 0)), (0, .ref (ad (mb + 1)))]) S.1 S.2.1 dX2_countMixed_3 rfl hl (by decide) rfl (fun ls hl => ?_)
  exact loop n 0 (by omega) _ _ ls hw (lv_sub hl [2, 1, 0] rfl)

set_option maxHeartbeats 4000000 in
set_option maxRecDepth 100000 in
/-- Pipe.countOf -/
theorem c_X2_countOf (l : Launch) (G : GT) (N K : Nat) (ad : Nat → Nat) (M : Mem) (mb : Nat) (hm : IsM N K mb) (n : Nat) (hn : M (mb + 1) 0 = nI n) (hn1 : n ≤ 120) (b : Int32) : CrI l G N K ad yX2_countOf cX2_countOf 4 .int 0 0 [.ref (ad (mb + 1)), .int b] M (nI (cntB (fun j => eqB (M (mb + 2) j) b) n)) := by
  refine cm_startI (by decide +kernel) (Nat.le_of_ble_eq_true rfl) ?_
  intro p e s m below meth c ls S hr hlocks hw hl
  have hl : lv_has ls 4 [(0, .ref (ad (mb + 1))), (1, .int b)] := hl
  have hlt_mb := hm.lt
  generalize hAv : List.toArray ([.ref (ad (mb + 1)), .int b] : List Value) = A at S ⊢
  have loop : ∀ (n' : Nat) (i : Nat), i + n' = n → ∀ (H : Heap) (locs : List Loc) (ls : Array Slot), Wd G N K ad M s H locs → lv_has ls 4 [(0, .ref (ad (mb + 1))), (1, .int b), (2, .int (nI (cntB (fun j => eqB (M (mb + 2) j) b) i))), (3, .int (nI i))] → W p l e { frames := 0, cells := 0, slots := 0, locals := 0 } s m A below meth c H locs 0 0 (QmI G N K ad (fun r M' => r = (nI (cntB (fun j => eqB (M (mb + 2) j) b) n)) ∧ M' = M) below A s) (F0 m 4 ls []) := by
    intro n'
    induction n' with
    | zero =>
      intro i hi H locs ls hw hl
      refine lv_iload_n S.1 S.2.1 dX2_countOf_4 rfl (lv_at hl 3 rfl) ?_
      refine lv_aload_n S.1 S.2.1 dX2_countOf_5 rfl (lv_at hl 0 rfl) ?_
      refine m_getI (mb + 1) 0 S hw (by omega) hm.s1 rfl rfl in_X2 (by decide) wf_X2_9 dX2_countOf_6 ?_
      refine m_top (show M (mb + 1) 0 = nI n from hn) ?_
      refine n_ge (tgt := 31) S (by omega) (by omega) dX2_countOf_9 (by decide) (fun c1 => ?_) (fun c1 => absurd c1 (by omega))
      refine lv_iload_n S.1 S.2.1 dX2_countOf_31 rfl (lv_at hl 2 rfl) ?_
      exact m_reti S hr hlocks hw dX2_countOf_32 ⟨by rw [show i = n by omega], rfl⟩
    | succ n' ih =>
      intro i hi H locs ls hw hl
      refine lv_iload_n S.1 S.2.1 dX2_countOf_4 rfl (lv_at hl 3 rfl) ?_
      refine lv_aload_n S.1 S.2.1 dX2_countOf_5 rfl (lv_at hl 0 rfl) ?_
      refine m_getI (mb + 1) 0 S hw (by omega) hm.s1 rfl rfl in_X2 (by decide) wf_X2_9 dX2_countOf_6 ?_
      refine m_top (show M (mb + 1) 0 = nI n from hn) ?_
      refine n_ge (tgt := 31) S (by omega) (by omega) dX2_countOf_9 (by decide) (fun c1 => absurd c1 (by omega)) (fun c1 => ?_)
      refine lv_aload_n S.1 S.2.1 dX2_countOf_12 rfl (lv_at hl 0 rfl) ?_
      refine m_getR (mb + 1) 1 (mb + 2) S hw (by omega) hm.s1 rfl rfl in_X2 (by decide) wf_X2_15 dX2_countOf_13 ?_
      refine lv_iload_n S.1 S.2.1 dX2_countOf_16 rfl (lv_at hl 3 rfl) ?_
      refine m_ald (mb + 2) i S hw (by omega) hm.s2 (by decide) (by omega) rfl dX2_countOf_17 ?_
      refine lv_iload_n S.1 S.2.1 dX2_countOf_18 rfl (lv_at hl 1 rfl) ?_
      refine lv_icmp_ne (tgt := 25) S.1 S.2.1 dX2_countOf_19 (by decide) (fun c2 => ?_) (fun c2 => ?_)
      · refine lv_iinc (v := nI (i + 1)) (lv' := [(3, .int (nI (i + 1))), (0, .ref (ad (mb + 1))), (1, .int b), (2, .int (nI (cntB (fun j => eqB (M (mb + 2) j) b) i)))]) S.1 S.2.1 dX2_countOf_25 hl (k := 3) rfl (iinc1 _) (by decide) rfl (fun ls hl => ?_)
        refine lv_goto (tgt := 4) S.1 S.2.1 dX2_countOf_28 (by decide) ?_
        have hl : lv_has ls 4 [(3, .int (nI (i + 1))), (0, .ref (ad (mb + 1))), (1, .int b), (2, .int (nI (cntB (fun j => eqB (M (mb + 2) j) b) (i + 1))))] := by rw [cntB_f (p := fun j => eqB (M (mb + 2) j) b) (eqB_f c2)]; exact hl
        exact ih (i + 1) (by omega) _ _ ls hw (lv_sub hl [1, 2, 3, 0] rfl)
      · refine lv_iinc (v := nI ((cntB (fun j => eqB (M (mb + 2) j) b) i) + 1)) (lv' := [(2, .int (nI ((cntB (fun j => eqB (M (mb + 2) j) b) i) + 1))), (0, .ref (ad (mb + 1))), (1, .int b), (3, .int (nI i))]) S.1 S.2.1 dX2_countOf_22 hl (k := 2) rfl (iinc1 _) (by decide) rfl (fun ls hl => ?_)
        refine lv_iinc (v := nI (i + 1)) (lv' := [(3, .int (nI (i + 1))), (2, .int (nI ((cntB (fun j => eqB (M (mb + 2) j) b) i) + 1))), (0, .ref (ad (mb + 1))), (1, .int b)]) S.1 S.2.1 dX2_countOf_25 hl (k := 3) rfl (iinc1 _) (by decide) rfl (fun ls hl => ?_)
        refine lv_goto (tgt := 4) S.1 S.2.1 dX2_countOf_28 (by decide) ?_
        have hl : lv_has ls 4 [(3, .int (nI (i + 1))), (2, .int (nI (cntB (fun j => eqB (M (mb + 2) j) b) (i + 1)))), (0, .ref (ad (mb + 1))), (1, .int b)] := by rw [cntB_t (p := fun j => eqB (M (mb + 2) j) b) (eqB_t c2)]; exact hl
        exact ih (i + 1) (by omega) _ _ ls hw (lv_sub hl [2, 3, 1, 0] rfl)
  refine lv_iconst (v := nI 0) S.1 S.2.1 dX2_countOf_0 (by decide) ?_
  refine lv_istore_n (lv' := [(2, .int (nI 0)), (0, .ref (ad (mb + 1))), (1, .int b)]) S.1 S.2.1 dX2_countOf_1 rfl hl (by decide) rfl (fun ls hl => ?_)
  refine lv_iconst (v := nI 0) S.1 S.2.1 dX2_countOf_2 (by decide) ?_
  refine lv_istore_n (lv' := [(3, .int (nI 0)), (2, .int (nI 0)), (0, .ref (ad (mb + 1))), (1, .int b)]) S.1 S.2.1 dX2_countOf_3 rfl hl (by decide) rfl (fun ls hl => ?_)
  exact loop n 0 (by omega) _ _ ls hw (lv_sub hl [2, 3, 1, 0] rfl)

set_option maxHeartbeats 4000000 in
set_option maxRecDepth 100000 in
/-- Pipe.leastOf -/
theorem c_X2_leastOf (l : Launch) (G : GT) (N K : Nat) (ad : Nat → Nat) (M : Mem) (mb : Nat) (hm : IsM N K mb) (n : Nat) (hn : M (mb + 1) 0 = nI n) (hn1 : n ≤ 120) (b : Int32) : CrI l G N K ad yX2_leastOf cX2_leastOf 3 .int 0 0 [.ref (ad (mb + 1)), .int b] M (enc (fstE (fun j => eqB (M (mb + 2) j) b) n 0)) := by
  refine cm_startI (by decide +kernel) (Nat.le_of_ble_eq_true rfl) ?_
  intro p e s m below meth c ls S hr hlocks hw hl
  have hl : lv_has ls 3 [(0, .ref (ad (mb + 1))), (1, .int b)] := hl
  have hlt_mb := hm.lt
  generalize hAv : List.toArray ([.ref (ad (mb + 1)), .int b] : List Value) = A at S ⊢
  have loop : ∀ (n' : Nat) (i : Nat), i + n' = n → fstE (fun j => eqB (M (mb + 2) j) b) n 0 = fstE (fun j => eqB (M (mb + 2) j) b) n' i → ∀ (H : Heap) (locs : List Loc) (ls : Array Slot), Wd G N K ad M s H locs → lv_has ls 3 [(0, .ref (ad (mb + 1))), (1, .int b), (2, .int (nI i))] → W p l e { frames := 0, cells := 0, slots := 0, locals := 0 } s m A below meth c H locs 0 0 (QmI G N K ad (fun r M' => r = (enc (fstE (fun j => eqB (M (mb + 2) j) b) n 0)) ∧ M' = M) below A s) (F0 m 2 ls []) := by
    intro n'
    induction n' with
    | zero =>
      intro i hi he H locs ls hw hl
      refine lv_iload_n S.1 S.2.1 dX2_leastOf_2 rfl (lv_at hl 2 rfl) ?_
      refine lv_aload_n S.1 S.2.1 dX2_leastOf_3 rfl (lv_at hl 0 rfl) ?_
      refine m_getI (mb + 1) 0 S hw (by omega) hm.s1 rfl rfl in_X2 (by decide) wf_X2_9 dX2_leastOf_4 ?_
      refine m_top (show M (mb + 1) 0 = nI n from hn) ?_
      refine n_ge (tgt := 28) S (by omega) (by omega) dX2_leastOf_7 (by decide) (fun c1 => ?_) (fun c1 => absurd c1 (by omega))
      refine lv_iconst (v := (-1)) S.1 S.2.1 dX2_leastOf_28 (by decide) ?_
      exact m_reti S hr hlocks hw dX2_leastOf_29 ⟨by rw [he]; rfl, rfl⟩
    | succ n' ih =>
      intro i hi he H locs ls hw hl
      refine lv_iload_n S.1 S.2.1 dX2_leastOf_2 rfl (lv_at hl 2 rfl) ?_
      refine lv_aload_n S.1 S.2.1 dX2_leastOf_3 rfl (lv_at hl 0 rfl) ?_
      refine m_getI (mb + 1) 0 S hw (by omega) hm.s1 rfl rfl in_X2 (by decide) wf_X2_9 dX2_leastOf_4 ?_
      refine m_top (show M (mb + 1) 0 = nI n from hn) ?_
      refine n_ge (tgt := 28) S (by omega) (by omega) dX2_leastOf_7 (by decide) (fun c1 => absurd c1 (by omega)) (fun c1 => ?_)
      refine lv_aload_n S.1 S.2.1 dX2_leastOf_10 rfl (lv_at hl 0 rfl) ?_
      refine m_getR (mb + 1) 1 (mb + 2) S hw (by omega) hm.s1 rfl rfl in_X2 (by decide) wf_X2_15 dX2_leastOf_11 ?_
      refine lv_iload_n S.1 S.2.1 dX2_leastOf_14 rfl (lv_at hl 2 rfl) ?_
      refine m_ald (mb + 2) i S hw (by omega) hm.s2 (by decide) (by omega) rfl dX2_leastOf_15 ?_
      refine lv_iload_n S.1 S.2.1 dX2_leastOf_16 rfl (lv_at hl 1 rfl) ?_
      refine lv_icmp_ne (tgt := 22) S.1 S.2.1 dX2_leastOf_17 (by decide) (fun c2 => ?_) (fun c2 => ?_)
      · refine lv_iinc (v := nI (i + 1)) (lv' := [(2, .int (nI (i + 1))), (0, .ref (ad (mb + 1))), (1, .int b)]) S.1 S.2.1 dX2_leastOf_22 hl (k := 2) rfl (iinc1 _) (by decide) rfl (fun ls hl => ?_)
        refine lv_goto (tgt := 2) S.1 S.2.1 dX2_leastOf_25 (by decide) ?_
        exact ih (i + 1) (by omega) (he.trans (fstE_f (p := (fun j => eqB (M (mb + 2) j) b)) (eqB_f c2))) _ _ ls hw (lv_sub hl [1, 2, 0] rfl)
      · refine lv_iload_n S.1 S.2.1 dX2_leastOf_20 rfl (lv_at hl 2 rfl) ?_
        exact m_reti S hr hlocks hw dX2_leastOf_21 ⟨by rw [he, fstE_t (p := (fun j => eqB (M (mb + 2) j) b)) (eqB_t c2)]; rfl, rfl⟩
  refine lv_iconst (v := nI 0) S.1 S.2.1 dX2_leastOf_0 (by decide) ?_
  refine lv_istore_n (lv' := [(2, .int (nI 0)), (0, .ref (ad (mb + 1))), (1, .int b)]) S.1 S.2.1 dX2_leastOf_1 rfl hl (by decide) rfl (fun ls hl => ?_)
  exact loop n 0 (by omega) rfl _ _ ls hw (lv_sub hl [1, 2, 0] rfl)

set_option maxHeartbeats 4000000 in
set_option maxRecDepth 100000 in
/-- Pipe.greatestOf -/
theorem c_X2_greatestOf (l : Launch) (G : GT) (N K : Nat) (ad : Nat → Nat) (M : Mem) (mb : Nat) (hm : IsM N K mb) (n : Nat) (hn : M (mb + 1) 0 = nI n) (hn1 : n ≤ 120) (b : Int32) : CrI l G N K ad yX2_greatestOf cX2_greatestOf 3 .int 0 0 [.ref (ad (mb + 1)), .int b] M (enc (lstB (fun j => eqB (M (mb + 2) j) b) n)) := by
  refine cm_startI (by decide +kernel) (Nat.le_of_ble_eq_true rfl) ?_
  intro p e s m below meth c ls S hr hlocks hw hl
  have hl : lv_has ls 3 [(0, .ref (ad (mb + 1))), (1, .int b)] := hl
  have hlt_mb := hm.lt
  generalize hAv : List.toArray ([.ref (ad (mb + 1)), .int b] : List Value) = A at S ⊢
  have loop : ∀ (n' : Nat), n' ≤ 120 → lstB (fun j => eqB (M (mb + 2) j) b) n = lstB (fun j => eqB (M (mb + 2) j) b) n' → ∀ (H : Heap) (locs : List Loc) (ls : Array Slot), Wd G N K ad M s H locs → lv_has ls 3 [(0, .ref (ad (mb + 1))), (1, .int b), (2, .int (nI n' - nI 1))] → W p l e { frames := 0, cells := 0, slots := 0, locals := 0 } s m A below meth c H locs 0 0 (QmI G N K ad (fun r M' => r = (enc (lstB (fun j => eqB (M (mb + 2) j) b) n)) ∧ M' = M) below A s) (F0 m 7 ls []) := by
    intro n'
    induction n' with
    | zero =>
      intro hc he H locs ls hw hl
      refine lv_iload_n S.1 S.2.1 dX2_greatestOf_7 rfl (lv_at hl 2 rfl) ?_
      refine lv_if_lt (tgt := 29) S.1 S.2.1 dX2_greatestOf_8 (by decide) (fun c1 => ?_) (fun c1 => absurd c1 (fun z => z nI_m1))
      refine lv_iconst (v := (-1)) S.1 S.2.1 dX2_greatestOf_29 (by decide) ?_
      exact m_reti S hr hlocks hw dX2_greatestOf_30 ⟨by rw [he]; rfl, rfl⟩
    | succ c' ih =>
      intro hc he H locs ls hw hl
      have hl : lv_has ls 3 [(0, .ref (ad (mb + 1))), (1, .int b), (2, .int (nI (c')))] := by rw [predN] at hl; exact hl
      refine lv_iload_n S.1 S.2.1 dX2_greatestOf_7 rfl (lv_at hl 2 rfl) ?_
      refine lv_if_lt (tgt := 29) S.1 S.2.1 dX2_greatestOf_8 (by decide) (fun c1 => absurd c1 (nI_pos (by omega))) (fun c1 => ?_)
      refine lv_aload_n S.1 S.2.1 dX2_greatestOf_11 rfl (lv_at hl 0 rfl) ?_
      refine m_getR (mb + 1) 1 (mb + 2) S hw (by omega) hm.s1 rfl rfl in_X2 (by decide) wf_X2_15 dX2_greatestOf_12 ?_
      refine lv_iload_n S.1 S.2.1 dX2_greatestOf_15 rfl (lv_at hl 2 rfl) ?_
      refine m_ald (mb + 2) (c') S hw (by omega) hm.s2 (by decide) (by omega) rfl dX2_greatestOf_16 ?_
      refine lv_iload_n S.1 S.2.1 dX2_greatestOf_17 rfl (lv_at hl 1 rfl) ?_
      refine lv_icmp_ne (tgt := 23) S.1 S.2.1 dX2_greatestOf_18 (by decide) (fun c2 => ?_) (fun c2 => ?_)
      · refine lv_iinc (v := nI c' - nI 1) (lv' := [(2, .int (nI c' - nI 1)), (0, .ref (ad (mb + 1))), (1, .int b)]) S.1 S.2.1 dX2_greatestOf_23 hl (k := 2) rfl (iincM1 _) (by decide) rfl (fun ls hl => ?_)
        refine lv_goto (tgt := 7) S.1 S.2.1 dX2_greatestOf_26 (by decide) ?_
        exact ih (by omega) (he.trans (lstB_f (p := (fun j => eqB (M (mb + 2) j) b)) (eqB_f c2))) _ _ ls hw (lv_sub hl [1, 2, 0] rfl)
      · refine lv_iload_n S.1 S.2.1 dX2_greatestOf_21 rfl (lv_at hl 2 rfl) ?_
        exact m_reti S hr hlocks hw dX2_greatestOf_22 ⟨by rw [he, lstB_t (p := (fun j => eqB (M (mb + 2) j) b)) (eqB_t c2)]; rfl, rfl⟩
  refine lv_aload_n S.1 S.2.1 dX2_greatestOf_0 rfl (lv_at hl 0 rfl) ?_
  refine m_getI (mb + 1) 0 S hw (by omega) hm.s1 rfl rfl in_X2 (by decide) wf_X2_9 dX2_greatestOf_1 ?_
  refine m_top (show M (mb + 1) 0 = nI n from hn) ?_
  refine lv_iconst (v := nI 1) S.1 S.2.1 dX2_greatestOf_4 (by decide) ?_
  refine lv_isub S.1 S.2.1 dX2_greatestOf_5 ?_
  refine lv_istore_n (lv' := [(2, .int ((nI n) - (nI 1))), (0, .ref (ad (mb + 1))), (1, .int b)]) S.1 S.2.1 dX2_greatestOf_6 rfl hl (by decide) rfl (fun ls hl => ?_)
  exact loop n hn1 rfl _ _ ls hw (lv_sub hl [1, 2, 0] rfl)

set_option maxHeartbeats 4000000 in
set_option maxRecDepth 100000 in
/-- Pipe.put -/
theorem c_X2_put (l : Launch) (G : GT) (N K : Nat) (ad : Nat → Nat) (M : Mem) (mb : Nat) (hm : IsM N K mb) (j : Nat) (hj : j < 120) (x y : Int32) : CmV l G N K ad yX2_put cX2_put 4 0 0 [.ref (ad (mb + 1)), .int (nI j), .int x, .int y] M (fun M1 => M1 (mb + 1) = (M (mb + 1)) ∧ M1 (mb + 2) = (upd (M (mb + 2)) j x) ∧ M1 (mb + 3) = (upd (M (mb + 3)) j y) ∧ M1 (mb + 4) = (upd (M (mb + 4)) j (-1)) ∧ M1 (mb + 5) = (upd (M (mb + 5)) j (nI 0)) ∧ Fr (mb + 1) (mb + 6) M M1) := by
  refine cm_startV (by decide +kernel) (Nat.le_of_ble_eq_true rfl) ?_
  intro p e s m below meth c ls S hr hlocks hw hl
  have hl : lv_has ls 4 [(0, .ref (ad (mb + 1))), (1, .int (nI j)), (2, .int x), (3, .int y)] := hl
  have hlt_mb := hm.lt
  refine lv_aload_n S.1 S.2.1 dX2_put_0 rfl (lv_at hl 0 rfl) ?_
  refine m_getR (mb + 1) 1 (mb + 2) S hw (by omega) hm.s1 rfl rfl in_X2 (by decide) wf_X2_15 dX2_put_1 ?_
  refine lv_iload_n S.1 S.2.1 dX2_put_4 rfl (lv_at hl 1 rfl) ?_
  refine lv_iload_n S.1 S.2.1 dX2_put_5 rfl (lv_at hl 2 rfl) ?_
  refine n_ast (mb + 2) j S hw (by omega) hm.s2 (by decide) (by omega) rfl dX2_put_6 (fun M1 H locs eM1 hw => ?_)
  refine lv_aload_n S.1 S.2.1 dX2_put_7 rfl (lv_at hl 0 rfl) ?_
  refine m_getR (mb + 1) 2 (mb + 3) S hw (by omega) hm.s1 rfl rfl in_X2 (by decide) wf_X2_19 dX2_put_8 ?_
  refine lv_iload_n S.1 S.2.1 dX2_put_11 rfl (lv_at hl 1 rfl) ?_
  refine lv_iload_n S.1 S.2.1 dX2_put_12 rfl (lv_at hl 3 rfl) ?_
  refine n_ast (mb + 3) j S hw (by omega) hm.s3 (by decide) (by omega) rfl dX2_put_13 (fun M2 H locs eM2 hw => ?_)
  refine lv_aload_n S.1 S.2.1 dX2_put_14 rfl (lv_at hl 0 rfl) ?_
  refine m_getR (mb + 1) 3 (mb + 4) S hw (by omega) hm.s1 rfl rfl in_X2 (by decide) wf_X2_22 dX2_put_15 ?_
  refine lv_iload_n S.1 S.2.1 dX2_put_18 rfl (lv_at hl 1 rfl) ?_
  refine lv_iconst (v := (-1)) S.1 S.2.1 dX2_put_19 (by decide) ?_
  refine n_ast (mb + 4) j S hw (by omega) hm.s4 (by decide) (by omega) rfl dX2_put_20 (fun M3 H locs eM3 hw => ?_)
  refine lv_aload_n S.1 S.2.1 dX2_put_21 rfl (lv_at hl 0 rfl) ?_
  refine m_getR (mb + 1) 4 (mb + 5) S hw (by omega) hm.s1 rfl rfl in_X2 (by decide) wf_X2_25 dX2_put_22 ?_
  refine lv_iload_n S.1 S.2.1 dX2_put_25 rfl (lv_at hl 1 rfl) ?_
  refine lv_iconst (v := nI 0) S.1 S.2.1 dX2_put_26 (by decide) ?_
  refine n_ast (mb + 5) j S hw (by omega) hm.s5 (by decide) (by omega) rfl dX2_put_27 (fun M4 H locs eM4 hw => ?_)
  have hq5 : M1 (mb + 1) = M (mb + 1) := by rw [eM1, va_up_ne _ _ (by omega)]
  have hq6 : M2 (mb + 1) = M (mb + 1) := by rw [eM2, va_up_ne _ _ (by omega), hq5]
  have hq7 : M3 (mb + 1) = M (mb + 1) := by rw [eM3, va_up_ne _ _ (by omega), hq6]
  have hq8 : M4 (mb + 1) = M (mb + 1) := by rw [eM4, va_up_ne _ _ (by omega), hq7]
  have hq9 : M1 (mb + 2) = upd (M (mb + 2)) j x := by rw [eM1, va_up_self]
  have hq10 : M2 (mb + 2) = upd (M (mb + 2)) j x := by rw [eM2, va_up_ne _ _ (by omega), hq9]
  have hq11 : M3 (mb + 2) = upd (M (mb + 2)) j x := by rw [eM3, va_up_ne _ _ (by omega), hq10]
  have hq12 : M4 (mb + 2) = upd (M (mb + 2)) j x := by rw [eM4, va_up_ne _ _ (by omega), hq11]
  have hq13 : M1 (mb + 3) = M (mb + 3) := by rw [eM1, va_up_ne _ _ (by omega)]
  have hq14 : M2 (mb + 3) = upd (M (mb + 3)) j y := by rw [eM2, va_up_self, hq13]
  have hq15 : M3 (mb + 3) = upd (M (mb + 3)) j y := by rw [eM3, va_up_ne _ _ (by omega), hq14]
  have hq16 : M4 (mb + 3) = upd (M (mb + 3)) j y := by rw [eM4, va_up_ne _ _ (by omega), hq15]
  have hq17 : M1 (mb + 4) = M (mb + 4) := by rw [eM1, va_up_ne _ _ (by omega)]
  have hq18 : M2 (mb + 4) = M (mb + 4) := by rw [eM2, va_up_ne _ _ (by omega), hq17]
  have hq19 : M3 (mb + 4) = upd (M (mb + 4)) j (-1) := by rw [eM3, va_up_self, hq18]
  have hq20 : M4 (mb + 4) = upd (M (mb + 4)) j (-1) := by rw [eM4, va_up_ne _ _ (by omega), hq19]
  have hq21 : M1 (mb + 5) = M (mb + 5) := by rw [eM1, va_up_ne _ _ (by omega)]
  have hq22 : M2 (mb + 5) = M (mb + 5) := by rw [eM2, va_up_ne _ _ (by omega), hq21]
  have hq23 : M3 (mb + 5) = M (mb + 5) := by rw [eM3, va_up_ne _ _ (by omega), hq22]
  have hq24 : M4 (mb + 5) = upd (M (mb + 5)) j (nI 0) := by rw [eM4, va_up_self, hq23]
  exact m_retv S hr hlocks hw dX2_put_28 ⟨hq8, hq12, hq16, hq20, hq24, (by rw [eM4]; exact Fr.up (by rw [eM3]; exact Fr.up (by rw [eM2]; exact Fr.up (by rw [eM1]; exact Fr.up Fr.rf (by omega) (by omega)) (by omega) (by omega)) (by omega) (by omega)) (by omega) (by omega))⟩

set_option maxHeartbeats 4000000 in
set_option maxRecDepth 100000 in
/-- Pipe.copyFrom -/
theorem c_X2_copyFrom (l : Launch) (G : GT) (N K : Nat) (ad : Nat → Nat) (M : Mem) (mb : Nat) (hm : IsM N K mb) (mo : Nat) (ho : IsM N K mo) (hne : mo + 12 < mb ∨ mb + 12 < mo) (n : Nat) (hn : M (mo + 1) 0 = nI n) (hn1 : n ≤ 120) : CmV l G N K ad yX2_copyFrom cX2_copyFrom 2 1 26 [.ref (ad (mb + 1)), .ref (ad (mo + 1))] M (fun M1 => M1 (mb + 1) = (upd (M (mb + 1)) 0 (nI n)) ∧ M1 (mb + 2) = (va_cpy (M (mo + 2)) (M (mb + 2)) 0 0 n) ∧ M1 (mb + 3) = (va_cpy (M (mo + 3)) (M (mb + 3)) 0 0 n) ∧ M1 (mb + 4) = (va_cpy (M (mo + 4)) (M (mb + 4)) 0 0 n) ∧ M1 (mb + 5) = (va_cpy (M (mo + 5)) (M (mb + 5)) 0 0 n) ∧ Fr (mb + 1) (mb + 6) M M1) := by
  refine cm_startV (by decide +kernel) (Nat.le_of_ble_eq_true rfl) ?_
  intro p e s m below meth c ls S hr hlocks hw hl
  have hl : lv_has ls 2 [(0, .ref (ad (mb + 1))), (1, .ref (ad (mo + 1)))] := hl
  have hlt_mb := hm.lt
  have hlt_mo := ho.lt
  refine lv_aload_n S.1 S.2.1 dX2_copyFrom_0 rfl (lv_at hl 0 rfl) ?_
  refine lv_aload_n S.1 S.2.1 dX2_copyFrom_1 rfl (lv_at hl 1 rfl) ?_
  refine m_getI (mo + 1) 0 S hw (by omega) ho.s1 rfl rfl in_X2 (by decide) wf_X2_9 dX2_copyFrom_2 ?_
  refine m_top (show M (mo + 1) 0 = nI n from hn) ?_
  refine n_putI (mb + 1) 0 S hw (by omega) hm.s1 rfl rfl in_X2 tyX2_ok nmX2 (by decide) rfl rfl wf_X2_9 dX2_copyFrom_5 (fun M1 H locs eM1 hw => ?_)
  refine lv_aload_n S.1 S.2.1 dX2_copyFrom_8 rfl (lv_at hl 1 rfl) ?_
  refine m_getR (mo + 1) 1 (mo + 2) S hw (by omega) ho.s1 rfl rfl in_X2 (by decide) wf_X2_15 dX2_copyFrom_9 ?_
  refine lv_iconst (v := nI 0) S.1 S.2.1 dX2_copyFrom_12 (by decide) ?_
  refine lv_aload_n S.1 S.2.1 dX2_copyFrom_13 rfl (lv_at hl 0 rfl) ?_
  refine m_getR (mb + 1) 1 (mb + 2) S hw (by omega) hm.s1 rfl rfl in_X2 (by decide) wf_X2_15 dX2_copyFrom_14 ?_
  refine lv_iconst (v := nI 0) S.1 S.2.1 dX2_copyFrom_17 (by decide) ?_
  refine lv_aload_n S.1 S.2.1 dX2_copyFrom_18 rfl (lv_at hl 0 rfl) ?_
  refine m_getI (mb + 1) 0 S hw (by omega) hm.s1 rfl rfl in_X2 (by decide) wf_X2_9 dX2_copyFrom_19 ?_
  have hq2 : M1 (mb + 1) = upd (M (mb + 1)) 0 (nI n) := by rw [eM1, va_up_self]
  refine m_top (show M1 (mb + 1) 0 = (upd (M (mb + 1)) 0 (nI n)) 0 from congrFun hq2 0) ?_
  refine m_top (show (upd (M (mb + 1)) 0 (nI n)) 0 = nI n from pk_us) ?_
  refine n_cpy (mo + 2) (mb + 2) 0 0 n S hl.1 wm_X2_32 hw (by omega) (by omega) ho.s2 hm.s2 (by decide) (by decide) rfl rfl rfl (by omega) (by omega) (Nat.le_of_ble_eq_true rfl) (Nat.le_of_ble_eq_true rfl) dX2_copyFrom_22 (fun M3 H locs eM3 hw => ?_)
  refine lv_aload_n S.1 S.2.1 dX2_copyFrom_25 rfl (lv_at hl 1 rfl) ?_
  refine m_getR (mo + 1) 2 (mo + 3) S hw (by omega) ho.s1 rfl rfl in_X2 (by decide) wf_X2_19 dX2_copyFrom_26 ?_
  refine lv_iconst (v := nI 0) S.1 S.2.1 dX2_copyFrom_29 (by decide) ?_
  refine lv_aload_n S.1 S.2.1 dX2_copyFrom_30 rfl (lv_at hl 0 rfl) ?_
  refine m_getR (mb + 1) 2 (mb + 3) S hw (by omega) hm.s1 rfl rfl in_X2 (by decide) wf_X2_19 dX2_copyFrom_31 ?_
  refine lv_iconst (v := nI 0) S.1 S.2.1 dX2_copyFrom_34 (by decide) ?_
  refine lv_aload_n S.1 S.2.1 dX2_copyFrom_35 rfl (lv_at hl 0 rfl) ?_
  refine m_getI (mb + 1) 0 S hw (by omega) hm.s1 rfl rfl in_X2 (by decide) wf_X2_9 dX2_copyFrom_36 ?_
  have hq4 : M3 (mb + 1) = upd (M (mb + 1)) 0 (nI n) := by rw [eM3, va_up_ne _ _ (by omega), hq2]
  refine m_top (show M3 (mb + 1) 0 = (upd (M (mb + 1)) 0 (nI n)) 0 from congrFun hq4 0) ?_
  refine m_top (show (upd (M (mb + 1)) 0 (nI n)) 0 = nI n from pk_us) ?_
  refine n_cpy (mo + 3) (mb + 3) 0 0 n S hl.1 wm_X2_32 hw (by omega) (by omega) ho.s3 hm.s3 (by decide) (by decide) rfl rfl rfl (by omega) (by omega) (Nat.le_of_ble_eq_true rfl) (Nat.le_of_ble_eq_true rfl) dX2_copyFrom_39 (fun M5 H locs eM5 hw => ?_)
  refine lv_aload_n S.1 S.2.1 dX2_copyFrom_42 rfl (lv_at hl 1 rfl) ?_
  refine m_getR (mo + 1) 3 (mo + 4) S hw (by omega) ho.s1 rfl rfl in_X2 (by decide) wf_X2_22 dX2_copyFrom_43 ?_
  refine lv_iconst (v := nI 0) S.1 S.2.1 dX2_copyFrom_46 (by decide) ?_
  refine lv_aload_n S.1 S.2.1 dX2_copyFrom_47 rfl (lv_at hl 0 rfl) ?_
  refine m_getR (mb + 1) 3 (mb + 4) S hw (by omega) hm.s1 rfl rfl in_X2 (by decide) wf_X2_22 dX2_copyFrom_48 ?_
  refine lv_iconst (v := nI 0) S.1 S.2.1 dX2_copyFrom_51 (by decide) ?_
  refine lv_aload_n S.1 S.2.1 dX2_copyFrom_52 rfl (lv_at hl 0 rfl) ?_
  refine m_getI (mb + 1) 0 S hw (by omega) hm.s1 rfl rfl in_X2 (by decide) wf_X2_9 dX2_copyFrom_53 ?_
  have hq6 : M5 (mb + 1) = upd (M (mb + 1)) 0 (nI n) := by rw [eM5, va_up_ne _ _ (by omega), hq4]
  refine m_top (show M5 (mb + 1) 0 = (upd (M (mb + 1)) 0 (nI n)) 0 from congrFun hq6 0) ?_
  refine m_top (show (upd (M (mb + 1)) 0 (nI n)) 0 = nI n from pk_us) ?_
  refine n_cpy (mo + 4) (mb + 4) 0 0 n S hl.1 wm_X2_32 hw (by omega) (by omega) ho.s4 hm.s4 (by decide) (by decide) rfl rfl rfl (by omega) (by omega) (Nat.le_of_ble_eq_true rfl) (Nat.le_of_ble_eq_true rfl) dX2_copyFrom_56 (fun M7 H locs eM7 hw => ?_)
  refine lv_aload_n S.1 S.2.1 dX2_copyFrom_59 rfl (lv_at hl 1 rfl) ?_
  refine m_getR (mo + 1) 4 (mo + 5) S hw (by omega) ho.s1 rfl rfl in_X2 (by decide) wf_X2_25 dX2_copyFrom_60 ?_
  refine lv_iconst (v := nI 0) S.1 S.2.1 dX2_copyFrom_63 (by decide) ?_
  refine lv_aload_n S.1 S.2.1 dX2_copyFrom_64 rfl (lv_at hl 0 rfl) ?_
  refine m_getR (mb + 1) 4 (mb + 5) S hw (by omega) hm.s1 rfl rfl in_X2 (by decide) wf_X2_25 dX2_copyFrom_65 ?_
  refine lv_iconst (v := nI 0) S.1 S.2.1 dX2_copyFrom_68 (by decide) ?_
  refine lv_aload_n S.1 S.2.1 dX2_copyFrom_69 rfl (lv_at hl 0 rfl) ?_
  refine m_getI (mb + 1) 0 S hw (by omega) hm.s1 rfl rfl in_X2 (by decide) wf_X2_9 dX2_copyFrom_70 ?_
  have hq8 : M7 (mb + 1) = upd (M (mb + 1)) 0 (nI n) := by rw [eM7, va_up_ne _ _ (by omega), hq6]
  refine m_top (show M7 (mb + 1) 0 = (upd (M (mb + 1)) 0 (nI n)) 0 from congrFun hq8 0) ?_
  refine m_top (show (upd (M (mb + 1)) 0 (nI n)) 0 = nI n from pk_us) ?_
  refine n_cpy (mo + 5) (mb + 5) 0 0 n S hl.1 wm_X2_32 hw (by omega) (by omega) ho.s5 hm.s5 (by decide) (by decide) rfl rfl rfl (by omega) (by omega) (Nat.le_of_ble_eq_true rfl) (Nat.le_of_ble_eq_true rfl) dX2_copyFrom_73 (fun M9 H locs eM9 hw => ?_)
  have hq10 : M9 (mb + 1) = upd (M (mb + 1)) 0 (nI n) := by rw [eM9, va_up_ne _ _ (by omega), hq8]
  have hq11 : M1 (mb + 2) = M (mb + 2) := by rw [eM1, va_up_ne _ _ (by omega)]
  have hq12 : M1 (mo + 2) = M (mo + 2) := by rw [eM1, va_up_ne _ _ (by omega)]
  have hq13 : M3 (mb + 2) = va_cpy (M (mo + 2)) (M (mb + 2)) 0 0 n := by rw [eM3, va_up_self, hq12, hq11]
  have hq14 : M5 (mb + 2) = va_cpy (M (mo + 2)) (M (mb + 2)) 0 0 n := by rw [eM5, va_up_ne _ _ (by omega), hq13]
  have hq15 : M7 (mb + 2) = va_cpy (M (mo + 2)) (M (mb + 2)) 0 0 n := by rw [eM7, va_up_ne _ _ (by omega), hq14]
  have hq16 : M9 (mb + 2) = va_cpy (M (mo + 2)) (M (mb + 2)) 0 0 n := by rw [eM9, va_up_ne _ _ (by omega), hq15]
  have hq17 : M1 (mb + 3) = M (mb + 3) := by rw [eM1, va_up_ne _ _ (by omega)]
  have hq18 : M3 (mb + 3) = M (mb + 3) := by rw [eM3, va_up_ne _ _ (by omega), hq17]
  have hq19 : M1 (mo + 3) = M (mo + 3) := by rw [eM1, va_up_ne _ _ (by omega)]
  have hq20 : M3 (mo + 3) = M (mo + 3) := by rw [eM3, va_up_ne _ _ (by omega), hq19]
  have hq21 : M5 (mb + 3) = va_cpy (M (mo + 3)) (M (mb + 3)) 0 0 n := by rw [eM5, va_up_self, hq20, hq18]
  have hq22 : M7 (mb + 3) = va_cpy (M (mo + 3)) (M (mb + 3)) 0 0 n := by rw [eM7, va_up_ne _ _ (by omega), hq21]
  have hq23 : M9 (mb + 3) = va_cpy (M (mo + 3)) (M (mb + 3)) 0 0 n := by rw [eM9, va_up_ne _ _ (by omega), hq22]
  have hq24 : M1 (mb + 4) = M (mb + 4) := by rw [eM1, va_up_ne _ _ (by omega)]
  have hq25 : M3 (mb + 4) = M (mb + 4) := by rw [eM3, va_up_ne _ _ (by omega), hq24]
  have hq26 : M5 (mb + 4) = M (mb + 4) := by rw [eM5, va_up_ne _ _ (by omega), hq25]
  have hq27 : M1 (mo + 4) = M (mo + 4) := by rw [eM1, va_up_ne _ _ (by omega)]
  have hq28 : M3 (mo + 4) = M (mo + 4) := by rw [eM3, va_up_ne _ _ (by omega), hq27]
  have hq29 : M5 (mo + 4) = M (mo + 4) := by rw [eM5, va_up_ne _ _ (by omega), hq28]
  have hq30 : M7 (mb + 4) = va_cpy (M (mo + 4)) (M (mb + 4)) 0 0 n := by rw [eM7, va_up_self, hq29, hq26]
  have hq31 : M9 (mb + 4) = va_cpy (M (mo + 4)) (M (mb + 4)) 0 0 n := by rw [eM9, va_up_ne _ _ (by omega), hq30]
  have hq32 : M1 (mb + 5) = M (mb + 5) := by rw [eM1, va_up_ne _ _ (by omega)]
  have hq33 : M3 (mb + 5) = M (mb + 5) := by rw [eM3, va_up_ne _ _ (by omega), hq32]
  have hq34 : M5 (mb + 5) = M (mb + 5) := by rw [eM5, va_up_ne _ _ (by omega), hq33]
  have hq35 : M7 (mb + 5) = M (mb + 5) := by rw [eM7, va_up_ne _ _ (by omega), hq34]
  have hq36 : M1 (mo + 5) = M (mo + 5) := by rw [eM1, va_up_ne _ _ (by omega)]
  have hq37 : M3 (mo + 5) = M (mo + 5) := by rw [eM3, va_up_ne _ _ (by omega), hq36]
  have hq38 : M5 (mo + 5) = M (mo + 5) := by rw [eM5, va_up_ne _ _ (by omega), hq37]
  have hq39 : M7 (mo + 5) = M (mo + 5) := by rw [eM7, va_up_ne _ _ (by omega), hq38]
  have hq40 : M9 (mb + 5) = va_cpy (M (mo + 5)) (M (mb + 5)) 0 0 n := by rw [eM9, va_up_self, hq39, hq35]
  exact m_retv S hr hlocks hw dX2_copyFrom_76 ⟨hq10, hq16, hq23, hq31, hq40, (by rw [eM9]; exact Fr.up (by rw [eM7]; exact Fr.up (by rw [eM5]; exact Fr.up (by rw [eM3]; exact Fr.up (by rw [eM1]; exact Fr.up Fr.rf (by omega) (by omega)) (by omega) (by omega)) (by omega) (by omega)) (by omega) (by omega)) (by omega) (by omega))⟩

set_option maxHeartbeats 4000000 in
set_option maxRecDepth 100000 in
/-- Pipe.moveOn -/
theorem c_X2_moveOn (l : Launch) (G : GT) (N K : Nat) (ad : Nat → Nat) (M : Mem) (mb : Nat) (hm : IsM N K mb) (a b : Nat) (hab : a ≤ b) (hb : b < 120) : CmV l G N K ad yX2_moveOn cX2_moveOn 4 1 26 [.ref (ad (mb + 1)), .int (nI a), .int (nI b)] M (fun M1 => M1 (mb + 1) = (M (mb + 1)) ∧ M1 (mb + 2) = (va_cpy (M (mb + 2)) (M (mb + 2)) a (a + 1) (b - a)) ∧ M1 (mb + 3) = (va_cpy (M (mb + 3)) (M (mb + 3)) a (a + 1) (b - a)) ∧ M1 (mb + 4) = (va_cpy (M (mb + 4)) (M (mb + 4)) a (a + 1) (b - a)) ∧ M1 (mb + 5) = (va_cpy (M (mb + 5)) (M (mb + 5)) a (a + 1) (b - a)) ∧ Fr (mb + 1) (mb + 6) M M1) := by
  refine cm_startV (by decide +kernel) (Nat.le_of_ble_eq_true rfl) ?_
  intro p e s m below meth c ls S hr hlocks hw hl
  have hl : lv_has ls 4 [(0, .ref (ad (mb + 1))), (1, .int (nI a)), (2, .int (nI b))] := hl
  have hlt_mb := hm.lt
  refine lv_iload_n S.1 S.2.1 dX2_moveOn_0 rfl (lv_at hl 2 rfl) ?_
  refine lv_iload_n S.1 S.2.1 dX2_moveOn_1 rfl (lv_at hl 1 rfl) ?_
  refine lv_isub S.1 S.2.1 dX2_moveOn_2 ?_
  refine m_top (show (nI b) - (nI a) = nI (b - a) from pk_sub hab) ?_
  refine lv_istore_n (lv' := [(3, .int (nI (b - a))), (0, .ref (ad (mb + 1))), (1, .int (nI a)), (2, .int (nI b))]) S.1 S.2.1 dX2_moveOn_3 rfl hl (by decide) rfl (fun ls hl => ?_)
  refine lv_aload_n S.1 S.2.1 dX2_moveOn_4 rfl (lv_at hl 1 rfl) ?_
  refine m_getR (mb + 1) 1 (mb + 2) S hw (by omega) hm.s1 rfl rfl in_X2 (by decide) wf_X2_15 dX2_moveOn_5 ?_
  refine lv_iload_n S.1 S.2.1 dX2_moveOn_8 rfl (lv_at hl 2 rfl) ?_
  refine lv_aload_n S.1 S.2.1 dX2_moveOn_9 rfl (lv_at hl 1 rfl) ?_
  refine m_getR (mb + 1) 1 (mb + 2) S hw (by omega) hm.s1 rfl rfl in_X2 (by decide) wf_X2_15 dX2_moveOn_10 ?_
  refine lv_iload_n S.1 S.2.1 dX2_moveOn_13 rfl (lv_at hl 2 rfl) ?_
  refine lv_iconst (v := nI 1) S.1 S.2.1 dX2_moveOn_14 (by decide) ?_
  refine lv_iadd S.1 S.2.1 dX2_moveOn_15 ?_
  refine m_top (show (nI a) + (nI 1) = nI (a + 1) from nI_add _ _) ?_
  refine lv_iload_n S.1 S.2.1 dX2_moveOn_16 rfl (lv_at hl 0 rfl) ?_
  refine n_cpy (mb + 2) (mb + 2) a (a + 1) (b - a) S hl.1 wm_X2_32 hw (by omega) (by omega) hm.s2 hm.s2 (by decide) (by decide) rfl rfl rfl (by omega) (by omega) (Nat.le_of_ble_eq_true rfl) (Nat.le_of_ble_eq_true rfl) dX2_moveOn_17 (fun M1 H locs eM1 hw => ?_)
  refine lv_aload_n S.1 S.2.1 dX2_moveOn_20 rfl (lv_at hl 1 rfl) ?_
  refine m_getR (mb + 1) 2 (mb + 3) S hw (by omega) hm.s1 rfl rfl in_X2 (by decide) wf_X2_19 dX2_moveOn_21 ?_
  refine lv_iload_n S.1 S.2.1 dX2_moveOn_24 rfl (lv_at hl 2 rfl) ?_
  refine lv_aload_n S.1 S.2.1 dX2_moveOn_25 rfl (lv_at hl 1 rfl) ?_
  refine m_getR (mb + 1) 2 (mb + 3) S hw (by omega) hm.s1 rfl rfl in_X2 (by decide) wf_X2_19 dX2_moveOn_26 ?_
  refine lv_iload_n S.1 S.2.1 dX2_moveOn_29 rfl (lv_at hl 2 rfl) ?_
  refine lv_iconst (v := nI 1) S.1 S.2.1 dX2_moveOn_30 (by decide) ?_
  refine lv_iadd S.1 S.2.1 dX2_moveOn_31 ?_
  refine m_top (show (nI a) + (nI 1) = nI (a + 1) from nI_add _ _) ?_
  refine lv_iload_n S.1 S.2.1 dX2_moveOn_32 rfl (lv_at hl 0 rfl) ?_
  refine n_cpy (mb + 3) (mb + 3) a (a + 1) (b - a) S hl.1 wm_X2_32 hw (by omega) (by omega) hm.s3 hm.s3 (by decide) (by decide) rfl rfl rfl (by omega) (by omega) (Nat.le_of_ble_eq_true rfl) (Nat.le_of_ble_eq_true rfl) dX2_moveOn_33 (fun M2 H locs eM2 hw => ?_)
  refine lv_aload_n S.1 S.2.1 dX2_moveOn_36 rfl (lv_at hl 1 rfl) ?_
  refine m_getR (mb + 1) 3 (mb + 4) S hw (by omega) hm.s1 rfl rfl in_X2 (by decide) wf_X2_22 dX2_moveOn_37 ?_
  refine lv_iload_n S.1 S.2.1 dX2_moveOn_40 rfl (lv_at hl 2 rfl) ?_
  refine lv_aload_n S.1 S.2.1 dX2_moveOn_41 rfl (lv_at hl 1 rfl) ?_
  refine m_getR (mb + 1) 3 (mb + 4) S hw (by omega) hm.s1 rfl rfl in_X2 (by decide) wf_X2_22 dX2_moveOn_42 ?_
  refine lv_iload_n S.1 S.2.1 dX2_moveOn_45 rfl (lv_at hl 2 rfl) ?_
  refine lv_iconst (v := nI 1) S.1 S.2.1 dX2_moveOn_46 (by decide) ?_
  refine lv_iadd S.1 S.2.1 dX2_moveOn_47 ?_
  refine m_top (show (nI a) + (nI 1) = nI (a + 1) from nI_add _ _) ?_
  refine lv_iload_n S.1 S.2.1 dX2_moveOn_48 rfl (lv_at hl 0 rfl) ?_
  refine n_cpy (mb + 4) (mb + 4) a (a + 1) (b - a) S hl.1 wm_X2_32 hw (by omega) (by omega) hm.s4 hm.s4 (by decide) (by decide) rfl rfl rfl (by omega) (by omega) (Nat.le_of_ble_eq_true rfl) (Nat.le_of_ble_eq_true rfl) dX2_moveOn_49 (fun M3 H locs eM3 hw => ?_)
  refine lv_aload_n S.1 S.2.1 dX2_moveOn_52 rfl (lv_at hl 1 rfl) ?_
  refine m_getR (mb + 1) 4 (mb + 5) S hw (by omega) hm.s1 rfl rfl in_X2 (by decide) wf_X2_25 dX2_moveOn_53 ?_
  refine lv_iload_n S.1 S.2.1 dX2_moveOn_56 rfl (lv_at hl 2 rfl) ?_
  refine lv_aload_n S.1 S.2.1 dX2_moveOn_57 rfl (lv_at hl 1 rfl) ?_
  refine m_getR (mb + 1) 4 (mb + 5) S hw (by omega) hm.s1 rfl rfl in_X2 (by decide) wf_X2_25 dX2_moveOn_58 ?_
  refine lv_iload_n S.1 S.2.1 dX2_moveOn_61 rfl (lv_at hl 2 rfl) ?_
  refine lv_iconst (v := nI 1) S.1 S.2.1 dX2_moveOn_62 (by decide) ?_
  refine lv_iadd S.1 S.2.1 dX2_moveOn_63 ?_
  refine m_top (show (nI a) + (nI 1) = nI (a + 1) from nI_add _ _) ?_
  refine lv_iload_n S.1 S.2.1 dX2_moveOn_64 rfl (lv_at hl 0 rfl) ?_
  refine n_cpy (mb + 5) (mb + 5) a (a + 1) (b - a) S hl.1 wm_X2_32 hw (by omega) (by omega) hm.s5 hm.s5 (by decide) (by decide) rfl rfl rfl (by omega) (by omega) (Nat.le_of_ble_eq_true rfl) (Nat.le_of_ble_eq_true rfl) dX2_moveOn_65 (fun M4 H locs eM4 hw => ?_)
  have hq5 : M1 (mb + 1) = M (mb + 1) := by rw [eM1, va_up_ne _ _ (by omega)]
  have hq6 : M2 (mb + 1) = M (mb + 1) := by rw [eM2, va_up_ne _ _ (by omega), hq5]
  have hq7 : M3 (mb + 1) = M (mb + 1) := by rw [eM3, va_up_ne _ _ (by omega), hq6]
  have hq8 : M4 (mb + 1) = M (mb + 1) := by rw [eM4, va_up_ne _ _ (by omega), hq7]
  have hq9 : M1 (mb + 2) = va_cpy (M (mb + 2)) (M (mb + 2)) a (a + 1) (b - a) := by rw [eM1, va_up_self]
  have hq10 : M2 (mb + 2) = va_cpy (M (mb + 2)) (M (mb + 2)) a (a + 1) (b - a) := by rw [eM2, va_up_ne _ _ (by omega), hq9]
  have hq11 : M3 (mb + 2) = va_cpy (M (mb + 2)) (M (mb + 2)) a (a + 1) (b - a) := by rw [eM3, va_up_ne _ _ (by omega), hq10]
  have hq12 : M4 (mb + 2) = va_cpy (M (mb + 2)) (M (mb + 2)) a (a + 1) (b - a) := by rw [eM4, va_up_ne _ _ (by omega), hq11]
  have hq13 : M1 (mb + 3) = M (mb + 3) := by rw [eM1, va_up_ne _ _ (by omega)]
  have hq14 : M2 (mb + 3) = va_cpy (M (mb + 3)) (M (mb + 3)) a (a + 1) (b - a) := by rw [eM2, va_up_self, hq13]
  have hq15 : M3 (mb + 3) = va_cpy (M (mb + 3)) (M (mb + 3)) a (a + 1) (b - a) := by rw [eM3, va_up_ne _ _ (by omega), hq14]
  have hq16 : M4 (mb + 3) = va_cpy (M (mb + 3)) (M (mb + 3)) a (a + 1) (b - a) := by rw [eM4, va_up_ne _ _ (by omega), hq15]
  have hq17 : M1 (mb + 4) = M (mb + 4) := by rw [eM1, va_up_ne _ _ (by omega)]
  have hq18 : M2 (mb + 4) = M (mb + 4) := by rw [eM2, va_up_ne _ _ (by omega), hq17]
  have hq19 : M3 (mb + 4) = va_cpy (M (mb + 4)) (M (mb + 4)) a (a + 1) (b - a) := by rw [eM3, va_up_self, hq18]
  have hq20 : M4 (mb + 4) = va_cpy (M (mb + 4)) (M (mb + 4)) a (a + 1) (b - a) := by rw [eM4, va_up_ne _ _ (by omega), hq19]
  have hq21 : M1 (mb + 5) = M (mb + 5) := by rw [eM1, va_up_ne _ _ (by omega)]
  have hq22 : M2 (mb + 5) = M (mb + 5) := by rw [eM2, va_up_ne _ _ (by omega), hq21]
  have hq23 : M3 (mb + 5) = M (mb + 5) := by rw [eM3, va_up_ne _ _ (by omega), hq22]
  have hq24 : M4 (mb + 5) = va_cpy (M (mb + 5)) (M (mb + 5)) a (a + 1) (b - a) := by rw [eM4, va_up_self, hq23]
  exact m_retv S hr hlocks hw dX2_moveOn_68 ⟨hq8, hq12, hq16, hq20, hq24, (by rw [eM4]; exact Fr.up (by rw [eM3]; exact Fr.up (by rw [eM2]; exact Fr.up (by rw [eM1]; exact Fr.up Fr.rf (by omega) (by omega)) (by omega) (by omega)) (by omega) (by omega)) (by omega) (by omega))⟩

theorem fill_0 {f : Nat → Int32} {x : Int32} : f = fun j => if j < 0 then x else f j := by funext j; simp
theorem fill_s {f : Nat → Int32} {x : Int32} {i : Nat} : upd (fun j => if j < i then x else f j) i x = fun j => if j < i + 1 then x else f j := by
  funext j
  by_cases hj : j = i
  · subst hj; simp [upd]
  · simp only [upd, if_neg hj, show (j < i + 1) = (j < i) by simp; omega]

set_option maxHeartbeats 4000000 in
set_option maxRecDepth 100000 in
/-- Pipe.renew -/
theorem c_X2_renew (l : Launch) (G : GT) (N K : Nat) (ad : Nat → Nat) (M : Mem) (mb : Nat) (hm : IsM N K mb) (n : Nat) (hn1 : n ≤ 120) : CmV l G N K ad yX2_renew cX2_renew 3 1 23 [.ref (ad (mb + 1)), .int (nI n)] M (fun M1 => M1 (mb + 1) = (upd (M (mb + 1)) 0 (nI n)) ∧ M1 (mb + 2) = (fun j => if j < n then nI 0 else M (mb + 2) j) ∧ M1 (mb + 3) = (fun j => if j < n then nI 0 else M (mb + 3) j) ∧ M1 (mb + 4) = (fun j => if j < n then (-1) else M (mb + 4) j) ∧ M1 (mb + 5) = (fun j => if j < n then nI 0 else M (mb + 5) j) ∧ Fr (mb + 1) (mb + 6) M M1) := by
  refine cm_startV (by decide +kernel) (Nat.le_of_ble_eq_true rfl) ?_
  intro p e s m below meth c ls S hr hlocks hw hl
  have hl : lv_has ls 3 [(0, .ref (ad (mb + 1))), (1, .int (nI n))] := hl
  have hlt_mb := hm.lt
  generalize hAv : List.toArray ([.ref (ad (mb + 1)), .int (nI n)] : List Value) = A at S ⊢
  have loop : ∀ (n' : Nat) (i : Nat), i + n' = n → ∀ (M2 : Mem) (H : Heap) (locs : List Loc) (ls : Array Slot), (M2 (mb + 1) = (upd (M (mb + 1)) 0 (nI n)) ∧ M2 (mb + 2) = (fun j => if j < i then nI 0 else M (mb + 2) j) ∧ M2 (mb + 3) = (fun j => if j < i then nI 0 else M (mb + 3) j) ∧ M2 (mb + 4) = (fun j => if j < i then (-1) else M (mb + 4) j) ∧ M2 (mb + 5) = (fun j => if j < i then nI 0 else M (mb + 5) j) ∧ Fr (mb + 1) (mb + 6) M M2) → Wd G N K ad M2 s H locs → lv_has ls 3 [(0, .ref (ad (mb + 1))), (1, .int (nI n)), (2, .int (nI i))] → W p l e { frames := 1, cells := 0, slots := 0, locals := 23 } s m A below meth c H locs 0 0 (QmV G N K ad (fun M1 => M1 (mb + 1) = (upd (M (mb + 1)) 0 (nI n)) ∧ M1 (mb + 2) = (fun j => if j < n then nI 0 else M (mb + 2) j) ∧ M1 (mb + 3) = (fun j => if j < n then nI 0 else M (mb + 3) j) ∧ M1 (mb + 4) = (fun j => if j < n then (-1) else M (mb + 4) j) ∧ M1 (mb + 5) = (fun j => if j < n then nI 0 else M (mb + 5) j) ∧ Fr (mb + 1) (mb + 6) M M1) below A s) (F0 m 7 ls []) := by
    intro n'
    induction n' with
    | zero =>
      intro i hi M2 H locs ls hv hw hl
      have hsz : M2 (mb + 1) 0 = nI n := by rw [hv.1]; exact pk_us
      refine lv_iload_n S.1 S.2.1 dX2_renew_7 rfl (lv_at hl 2 rfl) ?_
      refine lv_aload_n S.1 S.2.1 dX2_renew_8 rfl (lv_at hl 0 rfl) ?_
      refine m_getI (mb + 1) 0 S hw (by omega) hm.s1 rfl rfl in_X2 (by decide) wf_X2_9 dX2_renew_9 ?_
      refine m_top (show M2 (mb + 1) 0 = nI n from hsz) ?_
      refine n_ge (tgt := 28) S (by omega) (by omega) dX2_renew_12 (by decide) (fun c1 => ?_) (fun c1 => absurd c1 (by omega))
      exact m_retv S hr hlocks hw dX2_renew_28 (by rw [show i = n by omega] at hv; exact hv)
    | succ n' ih =>
      intro i hi M2 H locs ls hv hw hl
      have hsz : M2 (mb + 1) 0 = nI n := by rw [hv.1]; exact pk_us
      refine lv_iload_n S.1 S.2.1 dX2_renew_7 rfl (lv_at hl 2 rfl) ?_
      refine lv_aload_n S.1 S.2.1 dX2_renew_8 rfl (lv_at hl 0 rfl) ?_
      refine m_getI (mb + 1) 0 S hw (by omega) hm.s1 rfl rfl in_X2 (by decide) wf_X2_9 dX2_renew_9 ?_
      refine m_top (show M2 (mb + 1) 0 = nI n from hsz) ?_
      refine n_ge (tgt := 28) S (by omega) (by omega) dX2_renew_12 (by decide) (fun c11 => absurd c11 (by omega)) (fun c11 => ?_)
      refine lv_aload_n S.1 S.2.1 dX2_renew_15 rfl (lv_at hl 0 rfl) ?_
      refine lv_iload_n S.1 S.2.1 dX2_renew_16 rfl (lv_at hl 2 rfl) ?_
      refine lv_iconst (v := nI 0) S.1 S.2.1 dX2_renew_17 (by decide) ?_
      refine lv_iconst (v := nI 0) S.1 S.2.1 dX2_renew_18 (by decide) ?_
      refine m_VV (As := [.int (nI i), .int (nI 0), .int (nI 0)]) (rest := []) (mb + 1) S hw (by omega) hm.s1 rfl (c_X2_put l G N K ad M2 mb hm i (by omega) (nI 0) (nI 0)) mf_X2_put wm_X2_28 ⟨by decide, by decide⟩ ⟨Nat.le_refl _, Nat.le_refl _⟩ hl.1 rfl (Nat.le_of_ble_eq_true rfl) dX2_renew_19 (fun M12 H locs hp12 hw => ?_)
      have emb_1_12 : M12 (mb + 1) = (M2 (mb + 1)) := hp12.1
      have emb_2_12 : M12 (mb + 2) = (upd (M2 (mb + 2)) i (nI 0)) := hp12.2.1
      have emb_3_12 : M12 (mb + 3) = (upd (M2 (mb + 3)) i (nI 0)) := hp12.2.2.1
      have emb_4_12 : M12 (mb + 4) = (upd (M2 (mb + 4)) i (-1)) := hp12.2.2.2.1
      have emb_5_12 : M12 (mb + 5) = (upd (M2 (mb + 5)) i (nI 0)) := hp12.2.2.2.2.1
      have fr12 : Fr (mb + 1) (mb + 6) M2 M12 := hp12.2.2.2.2.2
      refine lv_iinc (v := nI (i + 1)) (lv' := [(2, .int (nI (i + 1))), (0, .ref (ad (mb + 1))), (1, .int (nI n))]) S.1 S.2.1 dX2_renew_22 hl (k := 2) rfl (iinc1 _) (by decide) rfl (fun ls hl => ?_)
      refine lv_goto (tgt := 7) S.1 S.2.1 dX2_renew_25 (by decide) ?_
      obtain ⟨i1, i2, i3, i4, i5, ifr⟩ := hv
      refine ih (i + 1) (by omega) _ _ _ ls ⟨emb_1_12.trans i1, by rw [emb_2_12, i2]; exact fill_s, by rw [emb_3_12, i3]; exact fill_s, by rw [emb_4_12, i4]; exact fill_s, by rw [emb_5_12, i5]; exact fill_s, Fr.tr ifr fr12 (by omega) (by omega)⟩ hw (lv_sub hl [1, 2, 0] rfl)
  refine lv_aload_n S.1 S.2.1 dX2_renew_0 rfl (lv_at hl 0 rfl) ?_
  refine lv_iload_n S.1 S.2.1 dX2_renew_1 rfl (lv_at hl 1 rfl) ?_
  refine n_putI (mb + 1) 0 S hw (by omega) hm.s1 rfl rfl in_X2 tyX2_ok nmX2 (by decide) rfl rfl wf_X2_9 dX2_renew_2 (fun M1 H locs eM1 hw => ?_)
  refine lv_iconst (v := nI 0) S.1 S.2.1 dX2_renew_5 (by decide) ?_
  refine lv_istore_n (lv' := [(2, .int (nI 0)), (0, .ref (ad (mb + 1))), (1, .int (nI n))]) S.1 S.2.1 dX2_renew_6 rfl hl (by decide) rfl (fun ls hl => ?_)
  have hq2 : M1 (mb + 1) = upd (M (mb + 1)) 0 (nI n) := by rw [eM1, va_up_self]
  have hq3 : M1 (mb + 2) = M (mb + 2) := by rw [eM1, va_up_ne _ _ (by omega)]
  have hq4 : M1 (mb + 3) = M (mb + 3) := by rw [eM1, va_up_ne _ _ (by omega)]
  have hq5 : M1 (mb + 4) = M (mb + 4) := by rw [eM1, va_up_ne _ _ (by omega)]
  have hq6 : M1 (mb + 5) = M (mb + 5) := by rw [eM1, va_up_ne _ _ (by omega)]
  exact loop n 0 (by omega) _ _ _ ls ⟨hq2, by rw [hq3]; exact fill_0, by rw [hq4]; exact fill_0, by rw [hq5]; exact fill_0, by rw [hq6]; exact fill_0, (by rw [eM1]; exact Fr.up Fr.rf (by omega) (by omega))⟩ hw (lv_sub hl [1, 2, 0] rfl)

set_option maxHeartbeats 4000000 in
set_option maxRecDepth 100000 in
/-- Pipe.hindIsNext -/
theorem c_X2_hindIsNext (l : Launch) (G : GT) (N K : Nat) (ad : Nat → Nat) (M : Mem) (mb : Nat) (hm : IsM N K mb) (h f : Nat) (hf : h < f) (hf1 : f < 120) : CrI l G N K ad yX2_hindIsNext cX2_hindIsNext 4 .boolean 0 0 [.ref (ad (mb + 1)), .int (nI h), .int (nI f)] M (b01 (evB h f)) := by
  refine cm_startI (by decide +kernel) (Nat.le_of_ble_eq_true rfl) ?_
  intro p e s m below meth c ls S hr hlocks hw hl
  have hl : lv_has ls 4 [(0, .ref (ad (mb + 1))), (1, .int (nI h)), (2, .int (nI f))] := hl
  have hlt_mb := hm.lt
  refine lv_iload_n S.1 S.2.1 dX2_hindIsNext_0 rfl (lv_at hl 2 rfl) ?_
  refine lv_iload_n S.1 S.2.1 dX2_hindIsNext_1 rfl (lv_at hl 1 rfl) ?_
  refine lv_isub S.1 S.2.1 dX2_hindIsNext_2 ?_
  refine m_top (show (nI f) - (nI h) = nI (f - h) from pk_sub (by omega)) ?_
  refine lv_iconst (v := nI 1) S.1 S.2.1 dX2_hindIsNext_3 (by decide) ?_
  refine lv_isub S.1 S.2.1 dX2_hindIsNext_4 ?_
  refine m_top (show (nI (f - h)) - (nI 1) = nI ((f - h) - 1) from pk_sub (a := f - h) (b := 1) (by omega)) ?_
  refine lv_istore_n (lv' := [(3, .int (nI ((f - h) - 1))), (0, .ref (ad (mb + 1))), (1, .int (nI h)), (2, .int (nI f))]) S.1 S.2.1 dX2_hindIsNext_5 rfl hl (by decide) rfl (fun ls hl => ?_)
  refine lv_iload_n S.1 S.2.1 dX2_hindIsNext_6 rfl (lv_at hl 0 rfl) ?_
  refine lv_iconst (v := nI 2) S.1 S.2.1 dX2_hindIsNext_7 (by decide) ?_
  refine lv_irem S.1 S.2.1 dX2_hindIsNext_8 (by decide) ?_
  refine lv_if_ne (tgt := 16) S.1 S.2.1 dX2_hindIsNext_9 (by decide) (fun c1 => ?_) (fun c1 => ?_)
  · refine lv_iconst (v := nI 0) S.1 S.2.1 dX2_hindIsNext_16 (by decide) ?_
    exact m_retz S hr hlocks hw dX2_hindIsNext_17 rfl ⟨b0_f (evB_f hf (by omega) c1), rfl⟩
  · refine lv_iconst (v := nI 1) S.1 S.2.1 dX2_hindIsNext_12 (by decide) ?_
    refine lv_goto (tgt := 17) S.1 S.2.1 dX2_hindIsNext_13 (by decide) ?_
    exact m_retz S hr hlocks hw dX2_hindIsNext_17 rfl ⟨b1_t (evB_t hf (by omega) c1), rfl⟩

theorem farS_0 {mx kd w : Nat → Int32} {h f : Nat} (c : mx (kx kd h f) = 0) : farS mx kd w h f = (none, w) := by rw [farS, if_pos c]
theorem farS_1 {mx kd w w1 : Nat → Int32} {h f : Nat} (c : ¬ mx (kx kd h f) = 0) (e : (if w f < mx (kx kd h f) then upd w f (w f + nI 1) else w) = w1) (c2 : ¬ mx (kx kd h f) ≤ w1 f) : farS mx kd w h f = (none, w1) := by
  have e' : (if w f < mx (kx kd h f) then upd w f (w f + 1) else w) = w1 := e
  rw [farS, if_neg c, e', if_pos (Int32.not_le.mp c2)]
theorem farS_2 {mx kd w w1 : Nat → Int32} {h f : Nat} (c : ¬ mx (kx kd h f) = 0) (e : (if w f < mx (kx kd h f) then upd w f (w f + nI 1) else w) = w1) (c2 : mx (kx kd h f) ≤ w1 f) : farS mx kd w h f = (if evB h f then (if h = 0 then none else some (h - 1)) else some (f + 1), w1) := by
  have e' : (if w f < mx (kx kd h f) then upd w f (w f + 1) else w) = w1 := e
  rw [farS, if_neg c, e', if_neg (Int32.not_lt.mpr c2)]
theorem farS_lt {mx kd w : Nat → Int32} {h f g : Nat} (hf : (farS mx kd w h f).1 = some g) (hh : h < f) : g ≤ f + 1 := by
  unfold farS at hf
  by_cases c1 : mx (kx kd h f) = 0
  · rw [if_pos c1] at hf; cases hf
  · rw [if_neg c1] at hf
    by_cases c2 : (if w f < mx (kx kd h f) then upd w f (w f + 1) else w) f < mx (kx kd h f)
    · rw [if_pos c2] at hf; cases hf
    · rw [if_neg c2] at hf
      by_cases c3 : evB h f = true
      · simp only [c3, if_true] at hf
        by_cases c4 : h = 0
        · rw [if_pos c4] at hf; cases hf
        · rw [if_neg c4] at hf
          have := Option.some.inj hf
          omega
      · simp only [c3] at hf
        have := Option.some.inj hf
        omega
theorem enc_pred (h : Nat) : nI h - nI 1 = enc (if h = 0 then none else some (h - 1)) := by
  cases h with
  | zero => exact m1_eq
  | succ h => rw [if_neg (by omega)]; exact predN h

set_option maxHeartbeats 4000000 in
set_option maxRecDepth 100000 in
/-- Pipe.farSide -/
theorem c_X2_farSide (l : Launch) (G : GT) (N K : Nat) (ad : Nat → Nat) (M : Mem) (h34 : 34 ≤ N) (mb : Nat) (hm : IsM N K mb) (h f a b : Nat) (hf : h < f) (hf1 : f < 120) (hkx : kx (M (mb + 3)) h f = a * 8 + b) (ha : M (mb + 3) h = nI a) (hb : M (mb + 3) f = nI b) (ha8 : a < 8) (hb8 : b < 8) : CmI l G N K ad yX2_farSide cX2_farSide 5 .int 1 23 [.ref (ad (mb + 1)), .int (nI h), .int (nI f), .ref (ad 1)] M (fun r M1 => r = enc (farS (M 3) (M (mb + 3)) (M (mb + 5)) h f).1 ∧ M1 (mb + 5) = (farS (M 3) (M (mb + 3)) (M (mb + 5)) h f).2 ∧ M1 (mb + 1) = M (mb + 1) ∧ M1 (mb + 2) = M (mb + 2) ∧ M1 (mb + 3) = M (mb + 3) ∧ M1 (mb + 4) = M (mb + 4) ∧ Fr (mb + 1) (mb + 6) M M1) := by
  refine cm_startI (by decide +kernel) (Nat.le_of_ble_eq_true rfl) ?_
  intro p e s m below meth c ls S hr hlocks hw hl
  have hl : lv_has ls 5 [(0, .ref (ad (mb + 1))), (1, .int (nI h)), (2, .int (nI f)), (3, .ref (ad 1))] := hl
  have hlt_mb := hm.lt
  refine lv_aload_n S.1 S.2.1 dX2_farSide_0 rfl (lv_at hl 3 rfl) ?_
  refine lv_aload_n S.1 S.2.1 dX2_farSide_1 rfl (lv_at hl 0 rfl) ?_
  refine m_getR (mb + 1) 2 (mb + 3) S hw (by omega) hm.s1 rfl rfl in_X2 (by decide) wf_X2_19 dX2_farSide_2 ?_
  refine lv_iload_n S.1 S.2.1 dX2_farSide_5 rfl (lv_at hl 1 rfl) ?_
  refine m_ald (mb + 3) h S hw (by omega) hm.s3 (by decide) (by omega) rfl dX2_farSide_6 ?_
  refine m_top (show M (mb + 3) h = nI a from ha) ?_
  refine lv_aload_n S.1 S.2.1 dX2_farSide_7 rfl (lv_at hl 0 rfl) ?_
  refine m_getR (mb + 1) 2 (mb + 3) S hw (by omega) hm.s1 rfl rfl in_X2 (by decide) wf_X2_19 dX2_farSide_8 ?_
  refine lv_iload_n S.1 S.2.1 dX2_farSide_11 rfl (lv_at hl 2 rfl) ?_
  refine m_ald (mb + 3) f S hw (by omega) hm.s3 (by decide) (by omega) rfl dX2_farSide_12 ?_
  refine m_top (show M (mb + 3) f = nI b from hb) ?_
  refine r_VI (As := [.int (nI a), .int (nI b)]) (rest := []) 1 S hw (by omega) rfl rfl (c_X5_mixOf l G N K ad M h34 a b (by omega) (by omega)) mf_X5_mixOf wm_X2_56 ⟨by decide, by decide⟩ ⟨Nat.le_refl _, Nat.le_refl _⟩ hl.1 rfl (Nat.le_of_ble_eq_true rfl) dX2_farSide_13 (fun H locs hw => ?_)
  refine lv_istore (lv' := [(4, .int (M 3 (a * 8 + b))), (0, .ref (ad (mb + 1))), (1, .int (nI h)), (2, .int (nI f)), (3, .ref (ad 1))]) S.1 S.2.1 dX2_farSide_16 hl (by decide) rfl (fun ls hl => ?_)
  refine lv_iload S.1 S.2.1 dX2_farSide_18 (lv_at hl 0 rfl) ?_
  refine lv_if_ne (tgt := 25) S.1 S.2.1 dX2_farSide_20 (by decide) (fun c1 => ?_) (fun c1 => ?_)
  · refine lv_aload_n S.1 S.2.1 dX2_farSide_25 rfl (lv_at hl 1 rfl) ?_
    refine m_getR (mb + 1) 4 (mb + 5) S hw (by omega) hm.s1 rfl rfl in_X2 (by decide) wf_X2_25 dX2_farSide_26 ?_
    refine lv_iload_n S.1 S.2.1 dX2_farSide_29 rfl (lv_at hl 3 rfl) ?_
    refine m_ald (mb + 5) f S hw (by omega) hm.s5 (by decide) (by omega) rfl dX2_farSide_30 ?_
    refine lv_iload S.1 S.2.1 dX2_farSide_31 (lv_at hl 0 rfl) ?_
    refine lv_icmp_ge (tgt := 46) S.1 S.2.1 dX2_farSide_33 (by decide) (fun c2 => ?_) (fun c2 => ?_)
    · refine lv_aload_n S.1 S.2.1 dX2_farSide_46 rfl (lv_at hl 1 rfl) ?_
      refine m_getR (mb + 1) 4 (mb + 5) S hw (by omega) hm.s1 rfl rfl in_X2 (by decide) wf_X2_25 dX2_farSide_47 ?_
      refine lv_iload_n S.1 S.2.1 dX2_farSide_50 rfl (lv_at hl 3 rfl) ?_
      refine m_ald (mb + 5) f S hw (by omega) hm.s5 (by decide) (by omega) rfl dX2_farSide_51 ?_
      refine lv_iload S.1 S.2.1 dX2_farSide_52 (lv_at hl 0 rfl) ?_
      refine lv_icmp_ge (tgt := 59) S.1 S.2.1 dX2_farSide_54 (by decide) (fun c3 => ?_) (fun c3 => ?_)
      · refine lv_aload_n S.1 S.2.1 dX2_farSide_59 rfl (lv_at hl 1 rfl) ?_
        refine lv_iload_n S.1 S.2.1 dX2_farSide_60 rfl (lv_at hl 2 rfl) ?_
        refine lv_iload_n S.1 S.2.1 dX2_farSide_61 rfl (lv_at hl 3 rfl) ?_
        refine r_VI (As := [.int (nI h), .int (nI f)]) (rest := []) (mb + 1) S hw (by omega) hm.s1 rfl (c_X2_hindIsNext l G N K ad M mb hm h f (by omega) (by omega)) mf_X2_hindIsNext wm_X2_62 ⟨by decide, by decide⟩ ⟨Nat.le_refl _, Nat.le_refl _⟩ hl.1 rfl (Nat.le_of_ble_eq_true rfl) dX2_farSide_62 (fun H locs hw => ?_)
        refine b_eq (tgt := 74) S dX2_farSide_65 (by decide) (fun c4 => ?_) (fun c4 => ?_)
        · refine lv_iload_n S.1 S.2.1 dX2_farSide_74 rfl (lv_at hl 3 rfl) ?_
          refine lv_iconst (v := nI 1) S.1 S.2.1 dX2_farSide_75 (by decide) ?_
          refine lv_iadd S.1 S.2.1 dX2_farSide_76 ?_
          refine m_top (show (nI f) + (nI 1) = nI (f + 1) from nI_add _ _) ?_
          have hF : farS (M 3) (M (mb + 3)) (M (mb + 5)) h f = _ := farS_2 (w1 := M (mb + 5)) (by rw [hkx]; exact c1) (by rw [hkx]; exact if_neg (Int32.not_lt.mpr c2)) (by rw [hkx]; exact c3)
          exact m_reti S hr hlocks hw dX2_farSide_77 ⟨by rw [hF, c4]; rfl, by rw [hF]; first | done | exact rfl, rfl, rfl, rfl, rfl, Fr.rf⟩
        · refine lv_iload_n S.1 S.2.1 dX2_farSide_68 rfl (lv_at hl 2 rfl) ?_
          refine lv_iconst (v := nI 1) S.1 S.2.1 dX2_farSide_69 (by decide) ?_
          refine lv_isub S.1 S.2.1 dX2_farSide_70 ?_
          refine lv_goto (tgt := 77) S.1 S.2.1 dX2_farSide_71 (by decide) ?_
          have hF : farS (M 3) (M (mb + 3)) (M (mb + 5)) h f = _ := farS_2 (w1 := M (mb + 5)) (by rw [hkx]; exact c1) (by rw [hkx]; exact if_neg (Int32.not_lt.mpr c2)) (by rw [hkx]; exact c3)
          exact m_reti S hr hlocks hw dX2_farSide_77 ⟨by rw [hF, c4]; exact enc_pred h, by rw [hF]; first | done | exact rfl, rfl, rfl, rfl, rfl, Fr.rf⟩
      · refine lv_iconst (v := (-1)) S.1 S.2.1 dX2_farSide_57 (by decide) ?_
        have hF : farS (M 3) (M (mb + 3)) (M (mb + 5)) h f = _ := farS_1 (w1 := M (mb + 5)) (by rw [hkx]; exact c1) (by rw [hkx]; exact if_neg (Int32.not_lt.mpr c2)) (by rw [hkx]; exact c3)
        exact m_reti S hr hlocks hw dX2_farSide_58 ⟨by rw [hF]; rfl, by rw [hF]; first | done | exact rfl, rfl, rfl, rfl, rfl, Fr.rf⟩
    · refine lv_aload_n S.1 S.2.1 dX2_farSide_36 rfl (lv_at hl 1 rfl) ?_
      refine m_getR (mb + 1) 4 (mb + 5) S hw (by omega) hm.s1 rfl rfl in_X2 (by decide) wf_X2_25 dX2_farSide_37 ?_
      refine lv_iload_n S.1 S.2.1 dX2_farSide_40 rfl (lv_at hl 3 rfl) ?_
      refine lv_dup2_11 S.1 S.2.1 dX2_farSide_41 rfl rfl ?_
      refine m_ald (mb + 5) f S hw (by omega) hm.s5 (by decide) (by omega) rfl dX2_farSide_42 ?_
      refine lv_iconst (v := nI 1) S.1 S.2.1 dX2_farSide_43 (by decide) ?_
      refine lv_iadd S.1 S.2.1 dX2_farSide_44 ?_
      refine n_ast (mb + 5) f S hw (by omega) hm.s5 (by decide) (by omega) rfl dX2_farSide_45 (fun M5 H locs eM5 hw => ?_)
      refine lv_aload_n S.1 S.2.1 dX2_farSide_46 rfl (lv_at hl 1 rfl) ?_
      refine m_getR (mb + 1) 4 (mb + 5) S hw (by omega) hm.s1 rfl rfl in_X2 (by decide) wf_X2_25 dX2_farSide_47 ?_
      refine lv_iload_n S.1 S.2.1 dX2_farSide_50 rfl (lv_at hl 3 rfl) ?_
      refine m_ald (mb + 5) f S hw (by omega) hm.s5 (by decide) (by omega) rfl dX2_farSide_51 ?_
      have hq6 : M5 (mb + 5) = upd (M (mb + 5)) f ((M (mb + 5) f) + (nI 1)) := by rw [eM5, va_up_self]
      refine m_top (show M5 (mb + 5) f = (upd (M (mb + 5)) f ((M (mb + 5) f) + (nI 1))) f from congrFun hq6 f) ?_
      refine m_top (show (upd (M (mb + 5)) f ((M (mb + 5) f) + (nI 1))) f = (M (mb + 5) f) + (nI 1) from pk_us) ?_
      refine lv_iload S.1 S.2.1 dX2_farSide_52 (lv_at hl 0 rfl) ?_
      refine lv_icmp_ge (tgt := 59) S.1 S.2.1 dX2_farSide_54 (by decide) (fun c7 => ?_) (fun c7 => ?_)
      · refine lv_aload_n S.1 S.2.1 dX2_farSide_59 rfl (lv_at hl 1 rfl) ?_
        refine lv_iload_n S.1 S.2.1 dX2_farSide_60 rfl (lv_at hl 2 rfl) ?_
        refine lv_iload_n S.1 S.2.1 dX2_farSide_61 rfl (lv_at hl 3 rfl) ?_
        refine r_VI (As := [.int (nI h), .int (nI f)]) (rest := []) (mb + 1) S hw (by omega) hm.s1 rfl (c_X2_hindIsNext l G N K ad M5 mb hm h f (by omega) (by omega)) mf_X2_hindIsNext wm_X2_62 ⟨by decide, by decide⟩ ⟨Nat.le_refl _, Nat.le_refl _⟩ hl.1 rfl (Nat.le_of_ble_eq_true rfl) dX2_farSide_62 (fun H locs hw => ?_)
        refine b_eq (tgt := 74) S dX2_farSide_65 (by decide) (fun c8 => ?_) (fun c8 => ?_)
        · refine lv_iload_n S.1 S.2.1 dX2_farSide_74 rfl (lv_at hl 3 rfl) ?_
          refine lv_iconst (v := nI 1) S.1 S.2.1 dX2_farSide_75 (by decide) ?_
          refine lv_iadd S.1 S.2.1 dX2_farSide_76 ?_
          refine m_top (show (nI f) + (nI 1) = nI (f + 1) from nI_add _ _) ?_
          have hq9 : M5 (mb + 1) = M (mb + 1) := by rw [eM5, va_up_ne _ _ (by omega)]
          have hq10 : M5 (mb + 2) = M (mb + 2) := by rw [eM5, va_up_ne _ _ (by omega)]
          have hq11 : M5 (mb + 3) = M (mb + 3) := by rw [eM5, va_up_ne _ _ (by omega)]
          have hq12 : M5 (mb + 4) = M (mb + 4) := by rw [eM5, va_up_ne _ _ (by omega)]
          have hF : farS (M 3) (M (mb + 3)) (M (mb + 5)) h f = _ := farS_2 (w1 := upd (M (mb + 5)) f ((M (mb + 5) f) + (nI 1))) (by rw [hkx]; exact c1) (by rw [hkx]; exact if_pos (Int32.not_le.mp c2)) (by rw [hkx]; rw [pk_us]; exact c7)
          exact m_reti S hr hlocks hw dX2_farSide_77 ⟨by rw [hF, c8]; rfl, by rw [hF]; first | done | exact hq6, hq9, hq10, hq11, hq12, (by rw [eM5]; exact Fr.up Fr.rf (by omega) (by omega))⟩
        · refine lv_iload_n S.1 S.2.1 dX2_farSide_68 rfl (lv_at hl 2 rfl) ?_
          refine lv_iconst (v := nI 1) S.1 S.2.1 dX2_farSide_69 (by decide) ?_
          refine lv_isub S.1 S.2.1 dX2_farSide_70 ?_
          refine lv_goto (tgt := 77) S.1 S.2.1 dX2_farSide_71 (by decide) ?_
          have hq13 : M5 (mb + 1) = M (mb + 1) := by rw [eM5, va_up_ne _ _ (by omega)]
          have hq14 : M5 (mb + 2) = M (mb + 2) := by rw [eM5, va_up_ne _ _ (by omega)]
          have hq15 : M5 (mb + 3) = M (mb + 3) := by rw [eM5, va_up_ne _ _ (by omega)]
          have hq16 : M5 (mb + 4) = M (mb + 4) := by rw [eM5, va_up_ne _ _ (by omega)]
          have hF : farS (M 3) (M (mb + 3)) (M (mb + 5)) h f = _ := farS_2 (w1 := upd (M (mb + 5)) f ((M (mb + 5) f) + (nI 1))) (by rw [hkx]; exact c1) (by rw [hkx]; exact if_pos (Int32.not_le.mp c2)) (by rw [hkx]; rw [pk_us]; exact c7)
          exact m_reti S hr hlocks hw dX2_farSide_77 ⟨by rw [hF, c8]; exact enc_pred h, by rw [hF]; first | done | exact hq6, hq13, hq14, hq15, hq16, (by rw [eM5]; exact Fr.up Fr.rf (by omega) (by omega))⟩
      · refine lv_iconst (v := (-1)) S.1 S.2.1 dX2_farSide_57 (by decide) ?_
        have hq17 : M5 (mb + 1) = M (mb + 1) := by rw [eM5, va_up_ne _ _ (by omega)]
        have hq18 : M5 (mb + 2) = M (mb + 2) := by rw [eM5, va_up_ne _ _ (by omega)]
        have hq19 : M5 (mb + 3) = M (mb + 3) := by rw [eM5, va_up_ne _ _ (by omega)]
        have hq20 : M5 (mb + 4) = M (mb + 4) := by rw [eM5, va_up_ne _ _ (by omega)]
        have hF : farS (M 3) (M (mb + 3)) (M (mb + 5)) h f = _ := farS_1 (w1 := upd (M (mb + 5)) f ((M (mb + 5) f) + (nI 1))) (by rw [hkx]; exact c1) (by rw [hkx]; exact if_pos (Int32.not_le.mp c2)) (by rw [hkx]; rw [pk_us]; exact c7)
        exact m_reti S hr hlocks hw dX2_farSide_58 ⟨by rw [hF]; rfl, by rw [hF]; first | done | exact hq6, hq17, hq18, hq19, hq20, (by rw [eM5]; exact Fr.up Fr.rf (by omega) (by omega))⟩
  · refine lv_iconst (v := (-1)) S.1 S.2.1 dX2_farSide_23 (by decide) ?_
    have hF : farS (M 3) (M (mb + 3)) (M (mb + 5)) h f = _ := farS_0 (by rw [hkx]; exact c1)
    exact m_reti S hr hlocks hw dX2_farSide_24 ⟨by rw [hF]; rfl, by rw [hF]; first | done | exact rfl, rfl, rfl, rfl, rfl, Fr.rf⟩

theorem mo_n1 {b kd fo w : Nat → Int32} {h f g : Nat} (hp : pureB fo g = false) : mixOneS b (kd, fo, w) h f g = (kd, fo, w) := by simp [mixOneS, hp]
theorem mo_n2 {b kd fo w : Nat → Int32} {h f g : Nat} (he : evB h f = true) (hb : ¬ b g = b h) : mixOneS b (kd, fo, w) h f g = (kd, fo, w) := by simp [mixOneS, he, eqB_f hb]
theorem mo_n3 {b kd fo w : Nat → Int32} {h f g : Nat} (he : evB h f = false) (hb : ¬ b g = b f) : mixOneS b (kd, fo, w) h f g = (kd, fo, w) := by simp [mixOneS, he, eqB_f hb]
theorem mo_y1 {b kd fo w : Nat → Int32} {h f g : Nat} (he : evB h f = true) (hp : pureB fo g = true) (hb : b g = b h) : mixOneS b (kd, fo, w) h f g = (upd kd h (kd h), upd fo h (kd f), upd w f (nI 0)) := by
  simp only [mixOneS, he, hp, eqB_t hb, if_true, Bool.and_self]
  rfl
theorem mo_y2 {b kd fo w : Nat → Int32} {h f g : Nat} (he : evB h f = false) (hp : pureB fo g = true) (hb : b g = b f) : mixOneS b (kd, fo, w) h f g = (upd kd f (kd h), upd fo f (kd f), upd w g (nI 0)) := by
  simp only [mixOneS, he, hp, eqB_t hb, if_true, Bool.and_self, Bool.false_eq_true, if_false]
  rfl
theorem kin_mo {b kd fo w : Nat → Int32} {h f g n : Nat} (hk : Kin kd n) (hh : h < n) : Kin (mixOneS b (kd, fo, w) h f g).1 n := by
  intro j hj
  unfold mixOneS
  by_cases c : (pureB fo g && eqB (b g) (b (if evB h f then h else f))) = true
  · rw [if_pos c]
    show inB (upd kd (if evB h f then h else f) (kd h) j) 8 = true
    by_cases e : j = (if evB h f then h else f)
    · rw [← e, pk_us]
      exact hk h hh
    · rw [pk_un e]
      exact hk j hj
  · rw [if_neg c]
    exact hk j hj

set_option maxHeartbeats 4000000 in
set_option maxRecDepth 100000 in
/-- Pipe.mixOne -/
theorem c_X2_mixOne (l : Launch) (G : GT) (N K : Nat) (ad : Nat → Nat) (M : Mem) (mb : Nat) (hm : IsM N K mb) (h f g : Nat) (hf : h < f) (hf1 : f < 120) (hg : g < 120) : CmV l G N K ad yX2_mixOne cX2_mixOne 8 1 23 [.ref (ad (mb + 1)), .int (nI h), .int (nI f), .int (nI g)] M (fun M1 => M1 (mb + 3) = ((mixOneS (M (mb + 2)) (M (mb + 3), M (mb + 4), M (mb + 5)) h f g).1) ∧ M1 (mb + 4) = ((mixOneS (M (mb + 2)) (M (mb + 3), M (mb + 4), M (mb + 5)) h f g).2.1) ∧ M1 (mb + 5) = ((mixOneS (M (mb + 2)) (M (mb + 3), M (mb + 4), M (mb + 5)) h f g).2.2) ∧ M1 (mb + 1) = (M (mb + 1)) ∧ M1 (mb + 2) = (M (mb + 2)) ∧ Fr (mb + 1) (mb + 6) M M1) := by
  refine cm_startV (by decide +kernel) (Nat.le_of_ble_eq_true rfl) ?_
  intro p e s m below meth c ls S hr hlocks hw hl
  have hl : lv_has ls 8 [(0, .ref (ad (mb + 1))), (1, .int (nI h)), (2, .int (nI f)), (3, .int (nI g))] := hl
  have hlt_mb := hm.lt
  refine lv_aload_n S.1 S.2.1 dX2_mixOne_0 rfl (lv_at hl 0 rfl) ?_
  refine lv_iload_n S.1 S.2.1 dX2_mixOne_1 rfl (lv_at hl 1 rfl) ?_
  refine lv_iload_n S.1 S.2.1 dX2_mixOne_2 rfl (lv_at hl 2 rfl) ?_
  refine r_VI (As := [.int (nI h), .int (nI f)]) (rest := []) (mb + 1) S hw (by omega) hm.s1 rfl (c_X2_hindIsNext l G N K ad M mb hm h f (by omega) (by omega)) mf_X2_hindIsNext wm_X2_62 ⟨by decide, by decide⟩ ⟨Nat.le_refl _, Nat.le_refl _⟩ hl.1 rfl (Nat.le_of_ble_eq_true rfl) dX2_mixOne_3 (fun H locs hw => ?_)
  refine lv_istore (lv' := [(4, .int (b01 (evB h f))), (0, .ref (ad (mb + 1))), (1, .int (nI h)), (2, .int (nI f)), (3, .int (nI g))]) S.1 S.2.1 dX2_mixOne_6 hl (by decide) rfl (fun ls hl => ?_)
  refine lv_iload S.1 S.2.1 dX2_mixOne_8 (lv_at hl 0 rfl) ?_
  refine b_eq (tgt := 17) S dX2_mixOne_10 (by decide) (fun c1 => ?_) (fun c1 => ?_)
  · refine lv_iload_n S.1 S.2.1 dX2_mixOne_17 rfl (lv_at hl 3 rfl) ?_
    refine lv_istore (lv' := [(5, .int (nI f)), (4, .int (b01 (evB h f))), (0, .ref (ad (mb + 1))), (1, .int (nI h)), (2, .int (nI f)), (3, .int (nI g))]) S.1 S.2.1 dX2_mixOne_18 hl (by decide) rfl (fun ls hl => ?_)
    refine lv_aload_n S.1 S.2.1 dX2_mixOne_20 rfl (lv_at hl 2 rfl) ?_
    refine lv_iload_n S.1 S.2.1 dX2_mixOne_21 rfl (lv_at hl 5 rfl) ?_
    refine r_VI (As := [.int (nI g)]) (rest := []) (mb + 1) S hw (by omega) hm.s1 rfl (c_X2_isPure l G N K ad M mb hm g (by omega)) mf_X2_isPure wm_X2_38 ⟨by decide, by decide⟩ ⟨Nat.le_refl _, Nat.le_refl _⟩ hl.1 rfl (Nat.le_of_ble_eq_true rfl) dX2_mixOne_22 (fun H locs hw => ?_)
    refine b_eq (tgt := 44) S dX2_mixOne_25 (by decide) (fun c2 => ?_) (fun c2 => ?_)
    · have hF : mixOneS (M (mb + 2)) (M (mb + 3), M (mb + 4), M (mb + 5)) h f g = _ := mo_n1 c2
      exact m_retv S hr hlocks hw dX2_mixOne_44 ⟨by rw [hF]; first | done | exact rfl, by rw [hF]; first | done | exact rfl, by rw [hF]; first | done | exact rfl, rfl, rfl, Fr.rf⟩
    · refine lv_aload_n S.1 S.2.1 dX2_mixOne_28 rfl (lv_at hl 2 rfl) ?_
      refine m_getR (mb + 1) 1 (mb + 2) S hw (by omega) hm.s1 rfl rfl in_X2 (by decide) wf_X2_15 dX2_mixOne_29 ?_
      refine lv_iload_n S.1 S.2.1 dX2_mixOne_32 rfl (lv_at hl 5 rfl) ?_
      refine m_ald (mb + 2) g S hw (by omega) hm.s2 (by decide) (by omega) rfl dX2_mixOne_33 ?_
      refine lv_aload_n S.1 S.2.1 dX2_mixOne_34 rfl (lv_at hl 2 rfl) ?_
      refine m_getR (mb + 1) 1 (mb + 2) S hw (by omega) hm.s1 rfl rfl in_X2 (by decide) wf_X2_15 dX2_mixOne_35 ?_
      refine lv_iload S.1 S.2.1 dX2_mixOne_38 (lv_at hl 0 rfl) ?_
      refine m_ald (mb + 2) f S hw (by omega) hm.s2 (by decide) (by omega) rfl dX2_mixOne_40 ?_
      refine lv_icmp_eq (tgt := 45) S.1 S.2.1 dX2_mixOne_41 (by decide) (fun c3 => ?_) (fun c3 => ?_)
      · refine lv_aload_n S.1 S.2.1 dX2_mixOne_45 rfl (lv_at hl 2 rfl) ?_
        refine m_getR (mb + 1) 2 (mb + 3) S hw (by omega) hm.s1 rfl rfl in_X2 (by decide) wf_X2_19 dX2_mixOne_46 ?_
        refine lv_iload_n S.1 S.2.1 dX2_mixOne_49 rfl (lv_at hl 3 rfl) ?_
        refine m_ald (mb + 3) h S hw (by omega) hm.s3 (by decide) (by omega) rfl dX2_mixOne_50 ?_
        refine lv_istore (lv' := [(6, .int (M (mb + 3) h)), (5, .int (nI f)), (4, .int (b01 (evB h f))), (0, .ref (ad (mb + 1))), (1, .int (nI h)), (2, .int (nI f)), (3, .int (nI g))]) S.1 S.2.1 dX2_mixOne_51 hl (by decide) rfl (fun ls hl => ?_)
        refine lv_aload_n S.1 S.2.1 dX2_mixOne_53 rfl (lv_at hl 3 rfl) ?_
        refine m_getR (mb + 1) 2 (mb + 3) S hw (by omega) hm.s1 rfl rfl in_X2 (by decide) wf_X2_19 dX2_mixOne_54 ?_
        refine lv_iload_n S.1 S.2.1 dX2_mixOne_57 rfl (lv_at hl 5 rfl) ?_
        refine m_ald (mb + 3) f S hw (by omega) hm.s3 (by decide) (by omega) rfl dX2_mixOne_58 ?_
        refine lv_istore (lv' := [(7, .int (M (mb + 3) f)), (6, .int (M (mb + 3) h)), (5, .int (nI f)), (4, .int (b01 (evB h f))), (0, .ref (ad (mb + 1))), (1, .int (nI h)), (2, .int (nI f)), (3, .int (nI g))]) S.1 S.2.1 dX2_mixOne_59 hl (by decide) rfl (fun ls hl => ?_)
        refine lv_aload_n S.1 S.2.1 dX2_mixOne_61 rfl (lv_at hl 4 rfl) ?_
        refine m_getR (mb + 1) 2 (mb + 3) S hw (by omega) hm.s1 rfl rfl in_X2 (by decide) wf_X2_19 dX2_mixOne_62 ?_
        refine lv_iload S.1 S.2.1 dX2_mixOne_65 (lv_at hl 2 rfl) ?_
        refine lv_iload S.1 S.2.1 dX2_mixOne_67 (lv_at hl 1 rfl) ?_
        refine n_ast (mb + 3) f S hw (by omega) hm.s3 (by decide) (by omega) rfl dX2_mixOne_69 (fun M4 H locs eM4 hw => ?_)
        refine lv_aload_n S.1 S.2.1 dX2_mixOne_70 rfl (lv_at hl 4 rfl) ?_
        refine m_getR (mb + 1) 3 (mb + 4) S hw (by omega) hm.s1 rfl rfl in_X2 (by decide) wf_X2_22 dX2_mixOne_71 ?_
        refine lv_iload S.1 S.2.1 dX2_mixOne_74 (lv_at hl 2 rfl) ?_
        refine lv_iload S.1 S.2.1 dX2_mixOne_76 (lv_at hl 0 rfl) ?_
        refine n_ast (mb + 4) f S hw (by omega) hm.s4 (by decide) (by omega) rfl dX2_mixOne_78 (fun M5 H locs eM5 hw => ?_)
        refine lv_aload_n S.1 S.2.1 dX2_mixOne_79 rfl (lv_at hl 4 rfl) ?_
        refine m_getR (mb + 1) 4 (mb + 5) S hw (by omega) hm.s1 rfl rfl in_X2 (by decide) wf_X2_25 dX2_mixOne_80 ?_
        refine lv_iload S.1 S.2.1 dX2_mixOne_83 (lv_at hl 3 rfl) ?_
        refine b_eq (tgt := 92) S dX2_mixOne_85 (by decide) (fun c6 => ?_) (fun c6 => absurd c6 (by rw [c1]; decide))
        refine lv_iload_n S.1 S.2.1 dX2_mixOne_92 rfl (lv_at hl 7 rfl) ?_
        refine lv_iconst (v := nI 0) S.1 S.2.1 dX2_mixOne_93 (by decide) ?_
        refine n_ast (mb + 5) g S hw (by omega) hm.s5 (by decide) (by omega) rfl dX2_mixOne_94 (fun M7 H locs eM7 hw => ?_)
        have hq8 : M4 (mb + 3) = upd (M (mb + 3)) f (M (mb + 3) h) := by rw [eM4, va_up_self]
        have hq9 : M5 (mb + 3) = upd (M (mb + 3)) f (M (mb + 3) h) := by rw [eM5, va_up_ne _ _ (by omega), hq8]
        have hq10 : M7 (mb + 3) = upd (M (mb + 3)) f (M (mb + 3) h) := by rw [eM7, va_up_ne _ _ (by omega), hq9]
        have hq11 : M4 (mb + 4) = M (mb + 4) := by rw [eM4, va_up_ne _ _ (by omega)]
        have hq12 : M5 (mb + 4) = upd (M (mb + 4)) f (M (mb + 3) f) := by rw [eM5, va_up_self, hq11]
        have hq13 : M7 (mb + 4) = upd (M (mb + 4)) f (M (mb + 3) f) := by rw [eM7, va_up_ne _ _ (by omega), hq12]
        have hq14 : M4 (mb + 5) = M (mb + 5) := by rw [eM4, va_up_ne _ _ (by omega)]
        have hq15 : M5 (mb + 5) = M (mb + 5) := by rw [eM5, va_up_ne _ _ (by omega), hq14]
        have hq16 : M7 (mb + 5) = upd (M (mb + 5)) g (nI 0) := by rw [eM7, va_up_self, hq15]
        have hq17 : M4 (mb + 1) = M (mb + 1) := by rw [eM4, va_up_ne _ _ (by omega)]
        have hq18 : M5 (mb + 1) = M (mb + 1) := by rw [eM5, va_up_ne _ _ (by omega), hq17]
        have hq19 : M7 (mb + 1) = M (mb + 1) := by rw [eM7, va_up_ne _ _ (by omega), hq18]
        have hq20 : M4 (mb + 2) = M (mb + 2) := by rw [eM4, va_up_ne _ _ (by omega)]
        have hq21 : M5 (mb + 2) = M (mb + 2) := by rw [eM5, va_up_ne _ _ (by omega), hq20]
        have hq22 : M7 (mb + 2) = M (mb + 2) := by rw [eM7, va_up_ne _ _ (by omega), hq21]
        have hF : mixOneS (M (mb + 2)) (M (mb + 3), M (mb + 4), M (mb + 5)) h f g = _ := mo_y2 c1 c2 c3
        exact m_retv S hr hlocks hw dX2_mixOne_95 ⟨by rw [hF]; first | done | exact hq10, by rw [hF]; first | done | exact hq13, by rw [hF]; first | done | exact hq16, hq19, hq22, (by rw [eM7]; exact Fr.up (by rw [eM5]; exact Fr.up (by rw [eM4]; exact Fr.up Fr.rf (by omega) (by omega)) (by omega) (by omega)) (by omega) (by omega))⟩
      · have hF : mixOneS (M (mb + 2)) (M (mb + 3), M (mb + 4), M (mb + 5)) h f g = _ := mo_n3 c1 c3
        exact m_retv S hr hlocks hw dX2_mixOne_44 ⟨by rw [hF]; first | done | exact rfl, by rw [hF]; first | done | exact rfl, by rw [hF]; first | done | exact rfl, rfl, rfl, Fr.rf⟩
  · refine lv_iload_n S.1 S.2.1 dX2_mixOne_13 rfl (lv_at hl 2 rfl) ?_
    refine lv_goto (tgt := 18) S.1 S.2.1 dX2_mixOne_14 (by decide) ?_
    refine lv_istore (lv' := [(5, .int (nI h)), (4, .int (b01 (evB h f))), (0, .ref (ad (mb + 1))), (1, .int (nI h)), (2, .int (nI f)), (3, .int (nI g))]) S.1 S.2.1 dX2_mixOne_18 hl (by decide) rfl (fun ls hl => ?_)
    refine lv_aload_n S.1 S.2.1 dX2_mixOne_20 rfl (lv_at hl 2 rfl) ?_
    refine lv_iload_n S.1 S.2.1 dX2_mixOne_21 rfl (lv_at hl 5 rfl) ?_
    refine r_VI (As := [.int (nI g)]) (rest := []) (mb + 1) S hw (by omega) hm.s1 rfl (c_X2_isPure l G N K ad M mb hm g (by omega)) mf_X2_isPure wm_X2_38 ⟨by decide, by decide⟩ ⟨Nat.le_refl _, Nat.le_refl _⟩ hl.1 rfl (Nat.le_of_ble_eq_true rfl) dX2_mixOne_22 (fun H locs hw => ?_)
    refine b_eq (tgt := 44) S dX2_mixOne_25 (by decide) (fun c23 => ?_) (fun c23 => ?_)
    · have hF : mixOneS (M (mb + 2)) (M (mb + 3), M (mb + 4), M (mb + 5)) h f g = _ := mo_n1 c23
      exact m_retv S hr hlocks hw dX2_mixOne_44 ⟨by rw [hF]; first | done | exact rfl, by rw [hF]; first | done | exact rfl, by rw [hF]; first | done | exact rfl, rfl, rfl, Fr.rf⟩
    · refine lv_aload_n S.1 S.2.1 dX2_mixOne_28 rfl (lv_at hl 2 rfl) ?_
      refine m_getR (mb + 1) 1 (mb + 2) S hw (by omega) hm.s1 rfl rfl in_X2 (by decide) wf_X2_15 dX2_mixOne_29 ?_
      refine lv_iload_n S.1 S.2.1 dX2_mixOne_32 rfl (lv_at hl 5 rfl) ?_
      refine m_ald (mb + 2) g S hw (by omega) hm.s2 (by decide) (by omega) rfl dX2_mixOne_33 ?_
      refine lv_aload_n S.1 S.2.1 dX2_mixOne_34 rfl (lv_at hl 2 rfl) ?_
      refine m_getR (mb + 1) 1 (mb + 2) S hw (by omega) hm.s1 rfl rfl in_X2 (by decide) wf_X2_15 dX2_mixOne_35 ?_
      refine lv_iload S.1 S.2.1 dX2_mixOne_38 (lv_at hl 0 rfl) ?_
      refine m_ald (mb + 2) h S hw (by omega) hm.s2 (by decide) (by omega) rfl dX2_mixOne_40 ?_
      refine lv_icmp_eq (tgt := 45) S.1 S.2.1 dX2_mixOne_41 (by decide) (fun c24 => ?_) (fun c24 => ?_)
      · refine lv_aload_n S.1 S.2.1 dX2_mixOne_45 rfl (lv_at hl 2 rfl) ?_
        refine m_getR (mb + 1) 2 (mb + 3) S hw (by omega) hm.s1 rfl rfl in_X2 (by decide) wf_X2_19 dX2_mixOne_46 ?_
        refine lv_iload_n S.1 S.2.1 dX2_mixOne_49 rfl (lv_at hl 3 rfl) ?_
        refine m_ald (mb + 3) h S hw (by omega) hm.s3 (by decide) (by omega) rfl dX2_mixOne_50 ?_
        refine lv_istore (lv' := [(6, .int (M (mb + 3) h)), (5, .int (nI h)), (4, .int (b01 (evB h f))), (0, .ref (ad (mb + 1))), (1, .int (nI h)), (2, .int (nI f)), (3, .int (nI g))]) S.1 S.2.1 dX2_mixOne_51 hl (by decide) rfl (fun ls hl => ?_)
        refine lv_aload_n S.1 S.2.1 dX2_mixOne_53 rfl (lv_at hl 3 rfl) ?_
        refine m_getR (mb + 1) 2 (mb + 3) S hw (by omega) hm.s1 rfl rfl in_X2 (by decide) wf_X2_19 dX2_mixOne_54 ?_
        refine lv_iload_n S.1 S.2.1 dX2_mixOne_57 rfl (lv_at hl 5 rfl) ?_
        refine m_ald (mb + 3) f S hw (by omega) hm.s3 (by decide) (by omega) rfl dX2_mixOne_58 ?_
        refine lv_istore (lv' := [(7, .int (M (mb + 3) f)), (6, .int (M (mb + 3) h)), (5, .int (nI h)), (4, .int (b01 (evB h f))), (0, .ref (ad (mb + 1))), (1, .int (nI h)), (2, .int (nI f)), (3, .int (nI g))]) S.1 S.2.1 dX2_mixOne_59 hl (by decide) rfl (fun ls hl => ?_)
        refine lv_aload_n S.1 S.2.1 dX2_mixOne_61 rfl (lv_at hl 4 rfl) ?_
        refine m_getR (mb + 1) 2 (mb + 3) S hw (by omega) hm.s1 rfl rfl in_X2 (by decide) wf_X2_19 dX2_mixOne_62 ?_
        refine lv_iload S.1 S.2.1 dX2_mixOne_65 (lv_at hl 2 rfl) ?_
        refine lv_iload S.1 S.2.1 dX2_mixOne_67 (lv_at hl 1 rfl) ?_
        refine n_ast (mb + 3) h S hw (by omega) hm.s3 (by decide) (by omega) rfl dX2_mixOne_69 (fun M25 H locs eM25 hw => ?_)
        refine lv_aload_n S.1 S.2.1 dX2_mixOne_70 rfl (lv_at hl 4 rfl) ?_
        refine m_getR (mb + 1) 3 (mb + 4) S hw (by omega) hm.s1 rfl rfl in_X2 (by decide) wf_X2_22 dX2_mixOne_71 ?_
        refine lv_iload S.1 S.2.1 dX2_mixOne_74 (lv_at hl 2 rfl) ?_
        refine lv_iload S.1 S.2.1 dX2_mixOne_76 (lv_at hl 0 rfl) ?_
        refine n_ast (mb + 4) h S hw (by omega) hm.s4 (by decide) (by omega) rfl dX2_mixOne_78 (fun M26 H locs eM26 hw => ?_)
        refine lv_aload_n S.1 S.2.1 dX2_mixOne_79 rfl (lv_at hl 4 rfl) ?_
        refine m_getR (mb + 1) 4 (mb + 5) S hw (by omega) hm.s1 rfl rfl in_X2 (by decide) wf_X2_25 dX2_mixOne_80 ?_
        refine lv_iload S.1 S.2.1 dX2_mixOne_83 (lv_at hl 3 rfl) ?_
        refine b_eq (tgt := 92) S dX2_mixOne_85 (by decide) (fun c27 => absurd c27 (by rw [c1]; decide)) (fun c27 => ?_)
        refine lv_iload_n S.1 S.2.1 dX2_mixOne_88 rfl (lv_at hl 6 rfl) ?_
        refine lv_goto (tgt := 93) S.1 S.2.1 dX2_mixOne_89 (by decide) ?_
        refine lv_iconst (v := nI 0) S.1 S.2.1 dX2_mixOne_93 (by decide) ?_
        refine n_ast (mb + 5) f S hw (by omega) hm.s5 (by decide) (by omega) rfl dX2_mixOne_94 (fun M28 H locs eM28 hw => ?_)
        have hq29 : M25 (mb + 3) = upd (M (mb + 3)) h (M (mb + 3) h) := by rw [eM25, va_up_self]
        have hq30 : M26 (mb + 3) = upd (M (mb + 3)) h (M (mb + 3) h) := by rw [eM26, va_up_ne _ _ (by omega), hq29]
        have hq31 : M28 (mb + 3) = upd (M (mb + 3)) h (M (mb + 3) h) := by rw [eM28, va_up_ne _ _ (by omega), hq30]
        have hq32 : M25 (mb + 4) = M (mb + 4) := by rw [eM25, va_up_ne _ _ (by omega)]
        have hq33 : M26 (mb + 4) = upd (M (mb + 4)) h (M (mb + 3) f) := by rw [eM26, va_up_self, hq32]
        have hq34 : M28 (mb + 4) = upd (M (mb + 4)) h (M (mb + 3) f) := by rw [eM28, va_up_ne _ _ (by omega), hq33]
        have hq35 : M25 (mb + 5) = M (mb + 5) := by rw [eM25, va_up_ne _ _ (by omega)]
        have hq36 : M26 (mb + 5) = M (mb + 5) := by rw [eM26, va_up_ne _ _ (by omega), hq35]
        have hq37 : M28 (mb + 5) = upd (M (mb + 5)) f (nI 0) := by rw [eM28, va_up_self, hq36]
        have hq38 : M25 (mb + 1) = M (mb + 1) := by rw [eM25, va_up_ne _ _ (by omega)]
        have hq39 : M26 (mb + 1) = M (mb + 1) := by rw [eM26, va_up_ne _ _ (by omega), hq38]
        have hq40 : M28 (mb + 1) = M (mb + 1) := by rw [eM28, va_up_ne _ _ (by omega), hq39]
        have hq41 : M25 (mb + 2) = M (mb + 2) := by rw [eM25, va_up_ne _ _ (by omega)]
        have hq42 : M26 (mb + 2) = M (mb + 2) := by rw [eM26, va_up_ne _ _ (by omega), hq41]
        have hq43 : M28 (mb + 2) = M (mb + 2) := by rw [eM28, va_up_ne _ _ (by omega), hq42]
        have hF : mixOneS (M (mb + 2)) (M (mb + 3), M (mb + 4), M (mb + 5)) h f g = _ := mo_y1 c1 c23 c24
        exact m_retv S hr hlocks hw dX2_mixOne_95 ⟨by rw [hF]; first | done | exact hq31, by rw [hF]; first | done | exact hq34, by rw [hF]; first | done | exact hq37, hq40, hq43, (by rw [eM28]; exact Fr.up (by rw [eM26]; exact Fr.up (by rw [eM25]; exact Fr.up Fr.rf (by omega) (by omega)) (by omega) (by omega)) (by omega) (by omega))⟩
      · have hF : mixOneS (M (mb + 2)) (M (mb + 3), M (mb + 4), M (mb + 5)) h f g = _ := mo_n2 c1 c24
        exact m_retv S hr hlocks hw dX2_mixOne_44 ⟨by rw [hF]; first | done | exact rfl, by rw [hF]; first | done | exact rfl, by rw [hF]; first | done | exact rfl, rfl, rfl, Fr.rf⟩

set_option maxHeartbeats 4000000 in
set_option maxRecDepth 100000 in
/-- Pipe.clash -/
theorem c_X2_clash (l : Launch) (G : GT) (N K : Nat) (ad : Nat → Nat) (M : Mem) (h34 : 34 ≤ N) (mb : Nat) (hm : IsM N K mb) (n : Nat) (hn1 : n ≤ 120) (hki : Kin (M (mb + 3)) n) (hz : Z01 (M 2) 64) (oh og : Option Nat) (hoh : ∀ x, oh = some x → x < n) (hog : ∀ x, og = some x → x < n) : CrI l G N K ad yX2_clash cX2_clash 4 .boolean 1 22 [.ref (ad (mb + 1)), .int (enc oh), .int (enc og), .ref (ad 1)] M (b01 (clB (M 2) (M (mb + 3)) oh og)) := by
  refine cm_startI (by decide +kernel) (Nat.le_of_ble_eq_true rfl) ?_
  intro p e s m below meth c ls S hr hlocks hw hl
  have hl : lv_has ls 4 [(0, .ref (ad (mb + 1))), (1, .int (enc oh)), (2, .int (enc og)), (3, .ref (ad 1))] := hl
  have hlt_mb := hm.lt
  rcases opt_cases oh with rfl | ⟨x, rfl⟩ <;> rcases opt_cases og with rfl | ⟨y, rfl⟩
  · skip
    refine lv_iload_n S.1 S.2.1 dX2_clash_0 rfl (lv_at hl 1 rfl) ?_
    refine m_top (show enc none = (-1) from rfl) ?_
    refine lv_iconst (v := (-1)) S.1 S.2.1 dX2_clash_1 (by decide) ?_
    refine lv_icmp_eq (tgt := 33) S.1 S.2.1 dX2_clash_2 (by decide) (fun c1 => ?_) (fun c1 => absurd c1 (fun z => z rfl))
    refine lv_iconst (v := nI 0) S.1 S.2.1 dX2_clash_33 (by decide) ?_
    exact m_retz S hr hlocks hw dX2_clash_34 rfl ⟨b0_f clB_n1, rfl⟩
  · have hy := hog y rfl
    skip
    refine lv_iload_n S.1 S.2.1 dX2_clash_0 rfl (lv_at hl 1 rfl) ?_
    refine m_top (show enc none = (-1) from rfl) ?_
    refine lv_iconst (v := (-1)) S.1 S.2.1 dX2_clash_1 (by decide) ?_
    refine lv_icmp_eq (tgt := 33) S.1 S.2.1 dX2_clash_2 (by decide) (fun c2 => ?_) (fun c2 => absurd c2 (fun z => z rfl))
    refine lv_iconst (v := nI 0) S.1 S.2.1 dX2_clash_33 (by decide) ?_
    exact m_retz S hr hlocks hw dX2_clash_34 rfl ⟨b0_f clB_n1, rfl⟩
  · have hx := hoh x rfl
    refine lv_iload_n S.1 S.2.1 dX2_clash_0 rfl (lv_at hl 1 rfl) ?_
    refine m_top (show enc (some x) = nI x from rfl) ?_
    refine lv_iconst (v := (-1)) S.1 S.2.1 dX2_clash_1 (by decide) ?_
    refine lv_icmp_eq (tgt := 33) S.1 S.2.1 dX2_clash_2 (by decide) (fun c3 => absurd c3 (enc_ne (by omega))) (fun c3 => ?_)
    refine lv_iload_n S.1 S.2.1 dX2_clash_5 rfl (lv_at hl 2 rfl) ?_
    refine m_top (show enc none = (-1) from rfl) ?_
    refine lv_iconst (v := (-1)) S.1 S.2.1 dX2_clash_6 (by decide) ?_
    refine lv_icmp_eq (tgt := 33) S.1 S.2.1 dX2_clash_7 (by decide) (fun c4 => ?_) (fun c4 => absurd c4 (fun z => z rfl))
    refine lv_iconst (v := nI 0) S.1 S.2.1 dX2_clash_33 (by decide) ?_
    exact m_retz S hr hlocks hw dX2_clash_34 rfl ⟨b0_f clB_n2, rfl⟩
  · have hx := hoh x rfl
    have hy := hog y rfl
    obtain ⟨a, ha8, ha⟩ := inB_of (hki x hx) (by decide)
    obtain ⟨b, hb8, hb⟩ := inB_of (hki y hy) (by decide)
    refine lv_iload_n S.1 S.2.1 dX2_clash_0 rfl (lv_at hl 1 rfl) ?_
    refine m_top (show enc (some x) = nI x from rfl) ?_
    refine lv_iconst (v := (-1)) S.1 S.2.1 dX2_clash_1 (by decide) ?_
    refine lv_icmp_eq (tgt := 33) S.1 S.2.1 dX2_clash_2 (by decide) (fun c5 => absurd c5 (enc_ne (by omega))) (fun c5 => ?_)
    refine lv_iload_n S.1 S.2.1 dX2_clash_5 rfl (lv_at hl 2 rfl) ?_
    refine m_top (show enc (some y) = nI y from rfl) ?_
    refine lv_iconst (v := (-1)) S.1 S.2.1 dX2_clash_6 (by decide) ?_
    refine lv_icmp_eq (tgt := 33) S.1 S.2.1 dX2_clash_7 (by decide) (fun c6 => absurd c6 (enc_ne (by omega))) (fun c6 => ?_)
    refine lv_aload_n S.1 S.2.1 dX2_clash_10 rfl (lv_at hl 3 rfl) ?_
    refine lv_aload_n S.1 S.2.1 dX2_clash_11 rfl (lv_at hl 0 rfl) ?_
    refine m_getR (mb + 1) 2 (mb + 3) S hw (by omega) hm.s1 rfl rfl in_X2 (by decide) wf_X2_19 dX2_clash_12 ?_
    refine lv_iload_n S.1 S.2.1 dX2_clash_15 rfl (lv_at hl 1 rfl) ?_
    refine m_top (show enc (some x) = nI x from rfl) ?_
    refine m_ald (mb + 3) x S hw (by omega) hm.s3 (by decide) (by omega) rfl dX2_clash_16 ?_
    refine m_top (show M (mb + 3) x = nI a from ha) ?_
    refine lv_aload_n S.1 S.2.1 dX2_clash_17 rfl (lv_at hl 0 rfl) ?_
    refine m_getR (mb + 1) 2 (mb + 3) S hw (by omega) hm.s1 rfl rfl in_X2 (by decide) wf_X2_19 dX2_clash_18 ?_
    refine lv_iload_n S.1 S.2.1 dX2_clash_21 rfl (lv_at hl 2 rfl) ?_
    refine m_top (show enc (some y) = nI y from rfl) ?_
    refine m_ald (mb + 3) y S hw (by omega) hm.s3 (by decide) (by omega) rfl dX2_clash_22 ?_
    refine m_top (show M (mb + 3) y = nI b from hb) ?_
    refine r_VI (As := [.int (nI a), .int (nI b)]) (rest := []) 1 S hw (by omega) rfl rfl (c_X5_mayFollow l G N K ad M h34 a b (by omega) (by omega) (!eqB (M 2 (a * 8 + b)) 0) (hz _ (by omega))) mf_X5_mayFollow wm_X2_73 ⟨by decide, by decide⟩ ⟨Nat.le_refl _, Nat.le_refl _⟩ hl.1 rfl (Nat.le_of_ble_eq_true rfl) dX2_clash_23 (fun H locs hw => ?_)
    refine b_ne (tgt := 33) S dX2_clash_26 (by decide) (fun c7 => ?_) (fun c7 => ?_)
    · refine lv_iconst (v := nI 0) S.1 S.2.1 dX2_clash_33 (by decide) ?_
      exact m_retz S hr hlocks hw dX2_clash_34 rfl ⟨b0_f (by rw [clB_s, kx_of ha hb ha8 hb8]; exact not_t c7), rfl⟩
    · refine lv_iconst (v := nI 1) S.1 S.2.1 dX2_clash_29 (by decide) ?_
      refine lv_goto (tgt := 34) S.1 S.2.1 dX2_clash_30 (by decide) ?_
      exact m_retz S hr hlocks hw dX2_clash_34 rfl ⟨b1_t (by rw [clB_s, kx_of ha hb ha8 hb8]; exact not_f c7), rfl⟩

set_option maxHeartbeats 4000000 in
set_option maxRecDepth 100000 in
/-- Pipe.clashesAt -/
theorem c_X2_clashesAt (l : Launch) (G : GT) (N K : Nat) (ad : Nat → Nat) (M : Mem) (h34 : 34 ≤ N) (mb : Nat) (hm : IsM N K mb) (n : Nat) (hn : M (mb + 1) 0 = nI n) (hn1 : n ≤ 120) (hki : Kin (M (mb + 3)) n) (hz : Z01 (M 2) 64) (j : Nat) (hj : j < n) : CrI l G N K ad yX2_clashesAt cX2_clashesAt 5 .boolean 2 45 [.ref (ad (mb + 1)), .int (nI j), .ref (ad 1)] M (b01 (clashB (M 2) (M (mb + 3)) (M (mb + 4)) n j)) := by
  refine cm_startI (by decide +kernel) (Nat.le_of_ble_eq_true rfl) ?_
  intro p e s m below meth c ls S hr hlocks hw hl
  have hl : lv_has ls 5 [(0, .ref (ad (mb + 1))), (1, .int (nI j)), (2, .ref (ad 1))] := hl
  have hlt_mb := hm.lt
  refine lv_aload_n S.1 S.2.1 dX2_clashesAt_0 rfl (lv_at hl 0 rfl) ?_
  refine lv_iload_n S.1 S.2.1 dX2_clashesAt_1 rfl (lv_at hl 1 rfl) ?_
  refine r_VI (As := [.int (nI j)]) (rest := []) (mb + 1) S hw (by omega) hm.s1 rfl (c_X2_neighbourToBegin l G N K ad M mb hm j (by omega)) mf_X2_neighbourToBegin wm_X2_42 ⟨by decide, by decide⟩ ⟨Nat.le_refl _, Nat.le_refl _⟩ hl.1 rfl (Nat.le_of_ble_eq_true rfl) dX2_clashesAt_2 (fun H locs hw => ?_)
  refine lv_istore_n (lv' := [(3, .int (enc (nbB (M (mb + 4)) j))), (0, .ref (ad (mb + 1))), (1, .int (nI j)), (2, .ref (ad 1))]) S.1 S.2.1 dX2_clashesAt_5 rfl hl (by decide) rfl (fun ls hl => ?_)
  refine lv_aload_n S.1 S.2.1 dX2_clashesAt_6 rfl (lv_at hl 1 rfl) ?_
  refine lv_iload_n S.1 S.2.1 dX2_clashesAt_7 rfl (lv_at hl 2 rfl) ?_
  refine r_VI (As := [.int (nI j)]) (rest := []) (mb + 1) S hw (by omega) hm.s1 rfl (c_X2_neighbourToEnd l G N K ad M mb hm n hn hn1 j (by omega)) mf_X2_neighbourToEnd wm_X2_66 ⟨by decide, by decide⟩ ⟨Nat.le_refl _, Nat.le_refl _⟩ hl.1 rfl (Nat.le_of_ble_eq_true rfl) dX2_clashesAt_8 (fun H locs hw => ?_)
  refine lv_istore (lv' := [(4, .int (enc (nbE (M (mb + 4)) n j))), (3, .int (enc (nbB (M (mb + 4)) j))), (0, .ref (ad (mb + 1))), (1, .int (nI j)), (2, .ref (ad 1))]) S.1 S.2.1 dX2_clashesAt_11 hl (by decide) rfl (fun ls hl => ?_)
  refine lv_aload_n S.1 S.2.1 dX2_clashesAt_13 rfl (lv_at hl 2 rfl) ?_
  refine lv_iload_n S.1 S.2.1 dX2_clashesAt_14 rfl (lv_at hl 3 rfl) ?_
  refine r_VI (As := [.int (nI j)]) (rest := []) (mb + 1) S hw (by omega) hm.s1 rfl (c_X2_isPure l G N K ad M mb hm j (by omega)) mf_X2_isPure wm_X2_38 ⟨by decide, by decide⟩ ⟨Nat.le_refl _, Nat.le_refl _⟩ hl.1 rfl (Nat.le_of_ble_eq_true rfl) dX2_clashesAt_15 (fun H locs hw => ?_)
  refine b_ne (tgt := 30) S dX2_clashesAt_18 (by decide) (fun c1 => ?_) (fun c1 => ?_)
  · refine lv_aload_n S.1 S.2.1 dX2_clashesAt_30 rfl (lv_at hl 2 rfl) ?_
    refine lv_iload_n S.1 S.2.1 dX2_clashesAt_31 rfl (lv_at hl 1 rfl) ?_
    refine lv_iload_n S.1 S.2.1 dX2_clashesAt_32 rfl (lv_at hl 3 rfl) ?_
    refine lv_aload_n S.1 S.2.1 dX2_clashesAt_33 rfl (lv_at hl 4 rfl) ?_
    refine r_VI (As := [.int (enc (nbB (M (mb + 4)) j)), .int (nI j), .ref (ad 1)]) (rest := []) (mb + 1) S hw (by omega) hm.s1 rfl (c_X2_clash l G N K ad M h34 mb hm n hn1 hki hz (nbB (M (mb + 4)) j) (some j) (fun x hx => by have := nbB_lt hx; omega) (fun x hx => by cases hx; omega)) mf_X2_clash wm_X2_69 ⟨by decide, by decide⟩ ⟨Nat.le_refl _, Nat.le_refl _⟩ hl.1 rfl (Nat.le_of_ble_eq_true rfl) dX2_clashesAt_34 (fun H locs hw => ?_)
    refine b_ne (tgt := 51) S dX2_clashesAt_37 (by decide) (fun c2 => ?_) (fun c2 => ?_)
    · refine lv_iconst (v := nI 1) S.1 S.2.1 dX2_clashesAt_51 (by decide) ?_
      refine lv_goto (tgt := 56) S.1 S.2.1 dX2_clashesAt_52 (by decide) ?_
      exact m_retz S hr hlocks hw dX2_clashesAt_56 rfl ⟨b1_t (by rw [clashB, if_pos c1, c2]; rfl), rfl⟩
    · refine lv_aload_n S.1 S.2.1 dX2_clashesAt_40 rfl (lv_at hl 2 rfl) ?_
      refine lv_iload_n S.1 S.2.1 dX2_clashesAt_41 rfl (lv_at hl 3 rfl) ?_
      refine lv_iload S.1 S.2.1 dX2_clashesAt_42 (lv_at hl 0 rfl) ?_
      refine lv_aload_n S.1 S.2.1 dX2_clashesAt_44 rfl (lv_at hl 4 rfl) ?_
      refine r_VI (As := [.int (nI j), .int (enc (nbE (M (mb + 4)) n j)), .ref (ad 1)]) (rest := []) (mb + 1) S hw (by omega) hm.s1 rfl (c_X2_clash l G N K ad M h34 mb hm n hn1 hki hz (some j) (nbE (M (mb + 4)) n j) (fun x hx => by cases hx; omega) (fun x hx => by have := nbE_lt hx; omega)) mf_X2_clash wm_X2_69 ⟨by decide, by decide⟩ ⟨Nat.le_refl _, Nat.le_refl _⟩ hl.1 rfl (Nat.le_of_ble_eq_true rfl) dX2_clashesAt_45 (fun H locs hw => ?_)
      refine b_eq (tgt := 55) S dX2_clashesAt_48 (by decide) (fun c3 => ?_) (fun c3 => ?_)
      · refine lv_iconst (v := nI 0) S.1 S.2.1 dX2_clashesAt_55 (by decide) ?_
        exact m_retz S hr hlocks hw dX2_clashesAt_56 rfl ⟨b0_f (by rw [clashB, if_pos c1, c2, c3]; rfl), rfl⟩
      · refine lv_iconst (v := nI 1) S.1 S.2.1 dX2_clashesAt_51 (by decide) ?_
        refine lv_goto (tgt := 56) S.1 S.2.1 dX2_clashesAt_52 (by decide) ?_
        exact m_retz S hr hlocks hw dX2_clashesAt_56 rfl ⟨b1_t (by rw [clashB, if_pos c1, c2, c3]; rfl), rfl⟩
  · refine lv_aload_n S.1 S.2.1 dX2_clashesAt_21 rfl (lv_at hl 2 rfl) ?_
    refine lv_iload_n S.1 S.2.1 dX2_clashesAt_22 rfl (lv_at hl 1 rfl) ?_
    refine lv_iload S.1 S.2.1 dX2_clashesAt_23 (lv_at hl 0 rfl) ?_
    refine lv_aload_n S.1 S.2.1 dX2_clashesAt_25 rfl (lv_at hl 4 rfl) ?_
    refine r_VI (As := [.int (enc (nbB (M (mb + 4)) j)), .int (enc (nbE (M (mb + 4)) n j)), .ref (ad 1)]) (rest := []) (mb + 1) S hw (by omega) hm.s1 rfl (c_X2_clash l G N K ad M h34 mb hm n hn1 hki hz (nbB (M (mb + 4)) j) (nbE (M (mb + 4)) n j) (fun x hx => by have := nbB_lt hx; omega) (fun x hx => by have := nbE_lt hx; omega)) mf_X2_clash wm_X2_69 ⟨by decide, by decide⟩ ⟨Nat.le_refl _, Nat.le_refl _⟩ hl.1 rfl (Nat.le_of_ble_eq_true rfl) dX2_clashesAt_26 (fun H locs hw => ?_)
    exact m_retz S hr hlocks hw dX2_clashesAt_29 (b01_n _) ⟨by rw [clashB, if_neg (by rw [c1]; decide)], rfl⟩

theorem pred_lt {a : Nat} (h : a < 2 ^ 31) : nI a - nI 1 < nI a := by
  cases a with
  | zero => decide
  | succ a => rw [predN]; exact nI_lt (by omega) h
theorem m1_lt {a : Nat} (h : a < 2 ^ 31) : (-1 : Int32) < nI a := by
  rw [Int32.lt_iff_toInt_lt, nI_toInt h]
  have : (-1 : Int32).toInt = -1 := by decide
  omega
theorem ms_f {mx b : Nat → Int32} {lo hi h : Nat} {u : Option Nat × Pst} (hp : pureB u.2.2.1 h = false) : mixStep mx b lo hi h u = u := by simp [mixStep, hp]
theorem ms_n {mx b : Nat → Int32} {lo hi h : Nat} {q : Pst} (hp : pureB q.2.1 h = true) : mixStep mx b lo hi h (none, q) = (some h, q) := by simp [mixStep, hp]
theorem ms_e {mx b : Nat → Int32} {lo hi h f : Nat} {q : Pst} (hp : pureB q.2.1 h = true) (he : q.1 h = q.1 f) : mixStep mx b lo hi h (some f, q) = (some h, q) := by simp [mixStep, hp, eqB_t he]
theorem ms_c {mx b : Nat → Int32} {lo hi h f : Nat} {q : Pst} (hp : pureB q.2.1 h = true) (he : ¬ q.1 h = q.1 f) : mixStep mx b lo hi h (some f, q) = (some h, coreS mx b lo hi q h f) := by simp [mixStep, hp, eqB_f he]
theorem co_n' {mx b : Nat → Int32} {lo hi h f : Nat} {kd fo w : Nat → Int32} (hf : (farS mx kd w h f).1 = none) : coreS mx b lo hi (kd, fo, w) h f = (kd, fo, (farS mx kd w h f).2) := by simp only [coreS]; rw [hf]
theorem co_o {mx b : Nat → Int32} {lo hi h f g : Nat} {kd fo w : Nat → Int32} (hf : (farS mx kd w h f).1 = some g) (hg : ¬ (lo ≤ g ∧ g < hi)) : coreS mx b lo hi (kd, fo, w) h f = (kd, fo, (farS mx kd w h f).2) := by simp only [coreS]; rw [hf]; exact if_neg hg
theorem co_i {mx b : Nat → Int32} {lo hi h f g : Nat} {kd fo w : Nat → Int32} (hf : (farS mx kd w h f).1 = some g) (hg : lo ≤ g ∧ g < hi) : coreS mx b lo hi (kd, fo, w) h f = mixOneS b (kd, fo, (farS mx kd w h f).2) h f g := by simp only [coreS]; rw [hf]; exact if_pos hg

set_option maxHeartbeats 4000000 in
set_option maxRecDepth 100000 in
/-- Pipe.mixBorders -/
theorem c_X2_mixBorders (l : Launch) (G : GT) (N K : Nat) (ad : Nat → Nat) (M : Mem) (h34 : 34 ≤ N) (mb : Nat) (hm : IsM N K mb) (lo hi : Nat) (hlo : lo ≤ hi) (hhi : hi ≤ 120) (hki : Kin (M (mb + 3)) hi) : CmV l G N K ad yX2_mixBorders cX2_mixBorders 7 2 50 [.ref (ad (mb + 1)), .int (nI lo), .int (nI hi), .ref (ad 1)] M (fun M1 => M1 (mb + 3) = ((mixC (M 3) (M (mb + 2)) lo hi (hi - lo) (none, (M (mb + 3), M (mb + 4), M (mb + 5)))).2.1) ∧ M1 (mb + 4) = ((mixC (M 3) (M (mb + 2)) lo hi (hi - lo) (none, (M (mb + 3), M (mb + 4), M (mb + 5)))).2.2.1) ∧ M1 (mb + 5) = ((mixC (M 3) (M (mb + 2)) lo hi (hi - lo) (none, (M (mb + 3), M (mb + 4), M (mb + 5)))).2.2.2) ∧ M1 (mb + 1) = (M (mb + 1)) ∧ M1 (mb + 2) = (M (mb + 2)) ∧ Fr (mb + 1) (mb + 6) M M1) := by
  refine cm_startV (by decide +kernel) (Nat.le_of_ble_eq_true rfl) ?_
  intro p e s m below meth c ls S hr hlocks hw hl
  have hl : lv_has ls 7 [(0, .ref (ad (mb + 1))), (1, .int (nI lo)), (2, .int (nI hi)), (3, .ref (ad 1))] := hl
  have hlt_mb := hm.lt
  generalize hAv : List.toArray ([.ref (ad (mb + 1)), .int (nI lo), .int (nI hi), .ref (ad 1)] : List Value) = A at S ⊢
  have loop : ∀ (n' : Nat) (og : Option Nat), lo + n' ≤ hi → (∀ f, og = some f → lo + n' ≤ f ∧ f < hi) → ∀ (M2 : Mem) (H : Heap) (locs : List Loc) (ls : Array Slot), (mixC (M 3) (M (mb + 2)) lo hi (hi - lo) (none, (M (mb + 3), M (mb + 4), M (mb + 5))) = mixC (M 3) (M (mb + 2)) lo hi n' (og, (M2 (mb + 3), M2 (mb + 4), M2 (mb + 5))) ∧ M2 (mb + 1) = M (mb + 1) ∧ M2 (mb + 2) = M (mb + 2) ∧ Kin (M2 (mb + 3)) hi ∧ Fr (mb + 1) (mb + 6) M M2) → Wd G N K ad M2 s H locs → lv_has ls 7 [(0, .ref (ad (mb + 1))), (1, .int (nI lo)), (2, .int (nI hi)), (3, .ref (ad 1)), (4, .int (enc og)), (5, .int (nI (lo + n') - nI 1))] → W p l e { frames := 2, cells := 0, slots := 0, locals := 50 } s m A below meth c H locs 0 0 (QmV G N K ad (fun M1 => M1 (mb + 3) = ((mixC (M 3) (M (mb + 2)) lo hi (hi - lo) (none, (M (mb + 3), M (mb + 4), M (mb + 5)))).2.1) ∧ M1 (mb + 4) = ((mixC (M 3) (M (mb + 2)) lo hi (hi - lo) (none, (M (mb + 3), M (mb + 4), M (mb + 5)))).2.2.1) ∧ M1 (mb + 5) = ((mixC (M 3) (M (mb + 2)) lo hi (hi - lo) (none, (M (mb + 3), M (mb + 4), M (mb + 5)))).2.2.2) ∧ M1 (mb + 1) = (M (mb + 1)) ∧ M1 (mb + 2) = (M (mb + 2)) ∧ Fr (mb + 1) (mb + 6) M M1) below A s) (F0 m 8 ls []) := by
    intro n'
    induction n' with
    | zero =>
      intro og hc hog M2 H locs ls hv hw hl
      refine lv_iload S.1 S.2.1 dX2_mixBorders_8 (lv_at hl 5 rfl) ?_
      refine lv_iload_n S.1 S.2.1 dX2_mixBorders_10 rfl (lv_at hl 1 rfl) ?_
      refine lv_icmp_lt (tgt := 92) S.1 S.2.1 dX2_mixBorders_11 (by decide) (fun c1 => ?_) (fun c1 => absurd c1 (fun z => z (pred_lt (by omega))))
      exact m_retv S hr hlocks hw dX2_mixBorders_92 ⟨by rw [hv.1]; rfl, by rw [hv.1]; rfl, by rw [hv.1]; rfl, hv.2.1, hv.2.2.1, hv.2.2.2.2⟩
    | succ c' ih =>
      intro og hc hog M2 H locs ls hv hw hl
      have hl : lv_has ls 7 [(0, .ref (ad (mb + 1))), (1, .int (nI lo)), (2, .int (nI hi)), (3, .ref (ad 1)), (4, .int (enc og)), (5, .int (nI (lo + c')))] := by rw [show nI (lo + (c' + 1)) - nI 1 = nI (lo + c') from predN _] at hl; exact hl
      obtain ⟨im, i1, i2, ik, ifr⟩ := hv
      have i3t : M2 3 = M 3 := ifr 3 (by have := hm.2; rcases hm.1 with rfl | ⟨j, _, rfl⟩ <;> omega)
      refine lv_iload S.1 S.2.1 dX2_mixBorders_8 (lv_at hl 5 rfl) ?_
      refine lv_iload_n S.1 S.2.1 dX2_mixBorders_10 rfl (lv_at hl 1 rfl) ?_
      refine n_lt (tgt := 92) S (by omega) (by omega) dX2_mixBorders_11 (by decide) (fun c11 => absurd c11 (by omega)) (fun c11 => ?_)
      refine lv_aload_n S.1 S.2.1 dX2_mixBorders_14 rfl (lv_at hl 0 rfl) ?_
      refine lv_iload S.1 S.2.1 dX2_mixBorders_15 (lv_at hl 5 rfl) ?_
      refine r_VI (As := [.int (nI (lo + c'))]) (rest := []) (mb + 1) S hw (by omega) hm.s1 rfl (c_X2_isPure l G N K ad M2 mb hm (lo + c') (by omega)) mf_X2_isPure wm_X2_38 ⟨by decide, by decide⟩ ⟨Nat.le_refl _, Nat.le_refl _⟩ hl.1 rfl (Nat.le_of_ble_eq_true rfl) dX2_mixBorders_17 (fun H locs hw => ?_)
      refine b_ne (tgt := 26) S dX2_mixBorders_20 (by decide) (fun c12 => ?_) (fun c12 => ?_)
      · rcases opt_cases og with rfl | ⟨f, rfl⟩
        · skip
          refine lv_iload S.1 S.2.1 dX2_mixBorders_26 (lv_at hl 4 rfl) ?_
          refine m_top (show enc none = (-1) from rfl) ?_
          refine lv_iconst (v := (-1)) S.1 S.2.1 dX2_mixBorders_28 (by decide) ?_
          refine lv_icmp_eq (tgt := 82) S.1 S.2.1 dX2_mixBorders_29 (by decide) (fun c13 => ?_) (fun c13 => absurd c13 (fun z => z rfl))
          refine lv_iload S.1 S.2.1 dX2_mixBorders_82 (lv_at hl 5 rfl) ?_
          refine lv_istore (lv' := [(4, .int (nI (lo + c'))), (0, .ref (ad (mb + 1))), (1, .int (nI lo)), (2, .int (nI hi)), (3, .ref (ad 1)), (5, .int (nI (lo + c')))]) S.1 S.2.1 dX2_mixBorders_84 hl (by decide) rfl (fun ls hl => ?_)
          refine lv_iinc (v := nI (lo + c') - nI 1) (lv' := [(5, .int (nI (lo + c') - nI 1)), (4, .int (nI (lo + c'))), (0, .ref (ad (mb + 1))), (1, .int (nI lo)), (2, .int (nI hi)), (3, .ref (ad 1))]) S.1 S.2.1 dX2_mixBorders_86 hl (k := 5) rfl (iincM1 _) (by decide) rfl (fun ls hl => ?_)
          refine lv_goto (tgt := 8) S.1 S.2.1 dX2_mixBorders_89 (by decide) ?_
          refine ih (some (lo + c')) (by omega) (fun f hf => by cases hf; omega) _ _ _ ls ⟨?_, i1, i2, ?_, ifr⟩ hw (lv_sub hl [2, 3, 4, 5, 1, 0] rfl)
          · rw [im, mixC, ms_n (q := (M2 (mb + 3), M2 (mb + 4), M2 (mb + 5))) c12]
          · exact ik
        · have hf := hog f rfl
          refine lv_iload S.1 S.2.1 dX2_mixBorders_26 (lv_at hl 4 rfl) ?_
          refine m_top (show enc (some f) = nI f from rfl) ?_
          refine lv_iconst (v := (-1)) S.1 S.2.1 dX2_mixBorders_28 (by decide) ?_
          refine lv_icmp_eq (tgt := 82) S.1 S.2.1 dX2_mixBorders_29 (by decide) (fun c14 => absurd c14 (enc_ne (by omega))) (fun c14 => ?_)
          obtain ⟨ka, hka8, hka⟩ := inB_of (ik (lo + c') (by omega)) (by decide)
          obtain ⟨kb, hkb8, hkb⟩ := inB_of (ik f (by omega)) (by decide)
          refine lv_aload_n S.1 S.2.1 dX2_mixBorders_32 rfl (lv_at hl 0 rfl) ?_
          refine m_getR (mb + 1) 2 (mb + 3) S hw (by omega) hm.s1 rfl rfl in_X2 (by decide) wf_X2_19 dX2_mixBorders_33 ?_
          refine lv_iload S.1 S.2.1 dX2_mixBorders_36 (lv_at hl 5 rfl) ?_
          refine m_ald (mb + 3) (lo + c') S hw (by omega) hm.s3 (by decide) (by omega) rfl dX2_mixBorders_38 ?_
          refine lv_aload_n S.1 S.2.1 dX2_mixBorders_39 rfl (lv_at hl 0 rfl) ?_
          refine m_getR (mb + 1) 2 (mb + 3) S hw (by omega) hm.s1 rfl rfl in_X2 (by decide) wf_X2_19 dX2_mixBorders_40 ?_
          refine lv_iload S.1 S.2.1 dX2_mixBorders_43 (lv_at hl 4 rfl) ?_
          refine m_top (show enc (some f) = nI f from rfl) ?_
          refine m_ald (mb + 3) f S hw (by omega) hm.s3 (by decide) (by omega) rfl dX2_mixBorders_45 ?_
          refine lv_icmp_eq (tgt := 82) S.1 S.2.1 dX2_mixBorders_46 (by decide) (fun c15 => ?_) (fun c15 => ?_)
          · refine lv_iload S.1 S.2.1 dX2_mixBorders_82 (lv_at hl 5 rfl) ?_
            refine lv_istore (lv' := [(4, .int (nI (lo + c'))), (0, .ref (ad (mb + 1))), (1, .int (nI lo)), (2, .int (nI hi)), (3, .ref (ad 1)), (5, .int (nI (lo + c')))]) S.1 S.2.1 dX2_mixBorders_84 hl (by decide) rfl (fun ls hl => ?_)
            refine lv_iinc (v := nI (lo + c') - nI 1) (lv' := [(5, .int (nI (lo + c') - nI 1)), (4, .int (nI (lo + c'))), (0, .ref (ad (mb + 1))), (1, .int (nI lo)), (2, .int (nI hi)), (3, .ref (ad 1))]) S.1 S.2.1 dX2_mixBorders_86 hl (k := 5) rfl (iincM1 _) (by decide) rfl (fun ls hl => ?_)
            refine lv_goto (tgt := 8) S.1 S.2.1 dX2_mixBorders_89 (by decide) ?_
            refine ih (some (lo + c')) (by omega) (fun f hf => by cases hf; omega) _ _ _ ls ⟨?_, i1, i2, ?_, ifr⟩ hw (lv_sub hl [2, 3, 4, 5, 1, 0] rfl)
            · rw [im, mixC, ms_e (q := (M2 (mb + 3), M2 (mb + 4), M2 (mb + 5))) c12 c15]
            · exact ik
          · refine lv_aload_n S.1 S.2.1 dX2_mixBorders_49 rfl (lv_at hl 0 rfl) ?_
            refine lv_iload S.1 S.2.1 dX2_mixBorders_50 (lv_at hl 5 rfl) ?_
            refine lv_iload S.1 S.2.1 dX2_mixBorders_52 (lv_at hl 4 rfl) ?_
            refine m_top (show enc (some f) = nI f from rfl) ?_
            refine lv_aload_n S.1 S.2.1 dX2_mixBorders_54 rfl (lv_at hl 3 rfl) ?_
            refine m_VI (As := [.int (nI (lo + c')), .int (nI f), .ref (ad 1)]) (rest := []) (mb + 1) S hw (by omega) hm.s1 rfl (c_X2_farSide l G N K ad M2 h34 mb hm (lo + c') f ka kb (by omega) (by omega) (kx_of hka hkb hka8 hkb8) hka hkb hka8 hkb8) mf_X2_farSide wm_X2_49 ⟨by decide, by decide⟩ ⟨Nat.le_refl _, Nat.le_refl _⟩ hl.1 rfl (Nat.le_of_ble_eq_true rfl) dX2_mixBorders_55 (fun r16 M16 H locs hp16 hw => ?_)
            have er16 : r16 = enc (farS (M2 3) (M2 (mb + 3)) (M2 (mb + 5)) (lo + c') f).1 := hp16.1
            have emb_5_16 : M16 (mb + 5) = ((farS (M2 3) (M2 (mb + 3)) (M2 (mb + 5)) (lo + c') f).2) := hp16.2.1
            have emb_1_16 : M16 (mb + 1) = (M2 (mb + 1)) := hp16.2.2.1
            have emb_2_16 : M16 (mb + 2) = (M2 (mb + 2)) := hp16.2.2.2.1
            have emb_3_16 : M16 (mb + 3) = (M2 (mb + 3)) := hp16.2.2.2.2.1
            have emb_4_16 : M16 (mb + 4) = (M2 (mb + 4)) := hp16.2.2.2.2.2.1
            have fr16 : Fr (mb + 1) (mb + 6) M2 M16 := hp16.2.2.2.2.2.2
            refine m_top (show r16 = enc (farS (M2 3) (M2 (mb + 3)) (M2 (mb + 5)) (lo + c') f).1 from er16) ?_
            rcases opt_cases (farS (M2 3) (M2 (mb + 3)) (M2 (mb + 5)) (lo + c') f).1 with hfar | ⟨g, hfar⟩
            · refine m_top (show enc (farS (M2 3) (M2 (mb + 3)) (M2 (mb + 5)) (lo + c') f).1 = (-1) from enc_n hfar) ?_
              refine lv_istore (lv' := [(6, .int (-1)), (0, .ref (ad (mb + 1))), (1, .int (nI lo)), (2, .int (nI hi)), (3, .ref (ad 1)), (4, .int (enc (some f))), (5, .int (nI (lo + c')))]) S.1 S.2.1 dX2_mixBorders_58 hl (by decide) rfl (fun ls hl => ?_)
              refine lv_iload S.1 S.2.1 dX2_mixBorders_60 (lv_at hl 0 rfl) ?_
              refine lv_iload_n S.1 S.2.1 dX2_mixBorders_62 rfl (lv_at hl 2 rfl) ?_
              refine lv_icmp_lt (tgt := 82) S.1 S.2.1 dX2_mixBorders_63 (by decide) (fun c17 => ?_) (fun c17 => absurd c17 (fun z => z (m1_lt (by omega))))
              refine lv_iload S.1 S.2.1 dX2_mixBorders_82 (lv_at hl 6 rfl) ?_
              refine lv_istore (lv' := [(4, .int (nI (lo + c'))), (6, .int (-1)), (0, .ref (ad (mb + 1))), (1, .int (nI lo)), (2, .int (nI hi)), (3, .ref (ad 1)), (5, .int (nI (lo + c')))]) S.1 S.2.1 dX2_mixBorders_84 hl (by decide) rfl (fun ls hl => ?_)
              refine lv_iinc (v := nI (lo + c') - nI 1) (lv' := [(5, .int (nI (lo + c') - nI 1)), (4, .int (nI (lo + c'))), (6, .int (-1)), (0, .ref (ad (mb + 1))), (1, .int (nI lo)), (2, .int (nI hi)), (3, .ref (ad 1))]) S.1 S.2.1 dX2_mixBorders_86 hl (k := 6) rfl (iincM1 _) (by decide) rfl (fun ls hl => ?_)
              refine lv_goto (tgt := 8) S.1 S.2.1 dX2_mixBorders_89 (by decide) ?_
              refine ih (some (lo + c')) (by omega) (fun f hf => by cases hf; omega) _ _ _ ls ⟨?_, emb_1_16.trans i1, emb_2_16.trans i2, ?_, (Fr.tr ifr fr16 (by omega) (by omega))⟩ hw (lv_sub hl [3, 4, 5, 6, 1, 0] rfl)
              · rw [im, mixC, ms_c (q := (M2 (mb + 3), M2 (mb + 4), M2 (mb + 5))) c12 c15]
                rw [co_n' (by rw [← i3t]; exact hfar), ← i3t, emb_3_16, emb_4_16, emb_5_16]
              · rw [emb_3_16]; exact ik
            · have hgb := farS_lt hfar (by omega)
              refine m_top (show enc (farS (M2 3) (M2 (mb + 3)) (M2 (mb + 5)) (lo + c') f).1 = nI g from enc_s hfar) ?_
              refine lv_istore (lv' := [(6, .int (nI g)), (0, .ref (ad (mb + 1))), (1, .int (nI lo)), (2, .int (nI hi)), (3, .ref (ad 1)), (4, .int (enc (some f))), (5, .int (nI (lo + c')))]) S.1 S.2.1 dX2_mixBorders_58 hl (by decide) rfl (fun ls hl => ?_)
              refine lv_iload S.1 S.2.1 dX2_mixBorders_60 (lv_at hl 0 rfl) ?_
              refine lv_iload_n S.1 S.2.1 dX2_mixBorders_62 rfl (lv_at hl 2 rfl) ?_
              refine n_lt (tgt := 82) S (by omega) (by omega) dX2_mixBorders_63 (by decide) (fun c18 => ?_) (fun c18 => ?_)
              · refine lv_iload S.1 S.2.1 dX2_mixBorders_82 (lv_at hl 6 rfl) ?_
                refine lv_istore (lv' := [(4, .int (nI (lo + c'))), (6, .int (nI g)), (0, .ref (ad (mb + 1))), (1, .int (nI lo)), (2, .int (nI hi)), (3, .ref (ad 1)), (5, .int (nI (lo + c')))]) S.1 S.2.1 dX2_mixBorders_84 hl (by decide) rfl (fun ls hl => ?_)
                refine lv_iinc (v := nI (lo + c') - nI 1) (lv' := [(5, .int (nI (lo + c') - nI 1)), (4, .int (nI (lo + c'))), (6, .int (nI g)), (0, .ref (ad (mb + 1))), (1, .int (nI lo)), (2, .int (nI hi)), (3, .ref (ad 1))]) S.1 S.2.1 dX2_mixBorders_86 hl (k := 6) rfl (iincM1 _) (by decide) rfl (fun ls hl => ?_)
                refine lv_goto (tgt := 8) S.1 S.2.1 dX2_mixBorders_89 (by decide) ?_
                refine ih (some (lo + c')) (by omega) (fun f hf => by cases hf; omega) _ _ _ ls ⟨?_, emb_1_16.trans i1, emb_2_16.trans i2, ?_, (Fr.tr ifr fr16 (by omega) (by omega))⟩ hw (lv_sub hl [3, 4, 5, 6, 1, 0] rfl)
                · rw [im, mixC, ms_c (q := (M2 (mb + 3), M2 (mb + 4), M2 (mb + 5))) c12 c15]
                  rw [co_o (by rw [← i3t]; exact hfar) (by omega), ← i3t, emb_3_16, emb_4_16, emb_5_16]
                · rw [emb_3_16]; exact ik
              · refine lv_iload S.1 S.2.1 dX2_mixBorders_66 (lv_at hl 0 rfl) ?_
                refine lv_iload_n S.1 S.2.1 dX2_mixBorders_68 rfl (lv_at hl 3 rfl) ?_
                refine n_ge (tgt := 82) S (by omega) (by omega) dX2_mixBorders_69 (by decide) (fun c19 => ?_) (fun c19 => ?_)
                · refine lv_iload S.1 S.2.1 dX2_mixBorders_82 (lv_at hl 6 rfl) ?_
                  refine lv_istore (lv' := [(4, .int (nI (lo + c'))), (6, .int (nI g)), (0, .ref (ad (mb + 1))), (1, .int (nI lo)), (2, .int (nI hi)), (3, .ref (ad 1)), (5, .int (nI (lo + c')))]) S.1 S.2.1 dX2_mixBorders_84 hl (by decide) rfl (fun ls hl => ?_)
                  refine lv_iinc (v := nI (lo + c') - nI 1) (lv' := [(5, .int (nI (lo + c') - nI 1)), (4, .int (nI (lo + c'))), (6, .int (nI g)), (0, .ref (ad (mb + 1))), (1, .int (nI lo)), (2, .int (nI hi)), (3, .ref (ad 1))]) S.1 S.2.1 dX2_mixBorders_86 hl (k := 6) rfl (iincM1 _) (by decide) rfl (fun ls hl => ?_)
                  refine lv_goto (tgt := 8) S.1 S.2.1 dX2_mixBorders_89 (by decide) ?_
                  refine ih (some (lo + c')) (by omega) (fun f hf => by cases hf; omega) _ _ _ ls ⟨?_, emb_1_16.trans i1, emb_2_16.trans i2, ?_, (Fr.tr ifr fr16 (by omega) (by omega))⟩ hw (lv_sub hl [3, 4, 5, 6, 1, 0] rfl)
                  · rw [im, mixC, ms_c (q := (M2 (mb + 3), M2 (mb + 4), M2 (mb + 5))) c12 c15]
                    rw [co_o (by rw [← i3t]; exact hfar) (by omega), ← i3t, emb_3_16, emb_4_16, emb_5_16]
                  · rw [emb_3_16]; exact ik
                · refine lv_aload_n S.1 S.2.1 dX2_mixBorders_72 rfl (lv_at hl 1 rfl) ?_
                  refine lv_iload S.1 S.2.1 dX2_mixBorders_73 (lv_at hl 6 rfl) ?_
                  refine lv_iload S.1 S.2.1 dX2_mixBorders_75 (lv_at hl 5 rfl) ?_
                  refine m_top (show enc (some f) = nI f from rfl) ?_
                  refine lv_iload S.1 S.2.1 dX2_mixBorders_77 (lv_at hl 0 rfl) ?_
                  refine m_VV (As := [.int (nI (lo + c')), .int (nI f), .int (nI g)]) (rest := []) (mb + 1) S hw (by omega) hm.s1 rfl (c_X2_mixOne l G N K ad M16 mb hm (lo + c') f g (by omega) (by omega) (by omega)) mf_X2_mixOne wm_X2_53 ⟨by decide, by decide⟩ ⟨Nat.le_refl _, Nat.le_refl _⟩ hl.1 rfl (Nat.le_of_ble_eq_true rfl) dX2_mixBorders_79 (fun M20 H locs hp20 hw => ?_)
                  have emb_3_20 : M20 (mb + 3) = ((mixOneS (M16 (mb + 2)) (M16 (mb + 3), M16 (mb + 4), M16 (mb + 5)) (lo + c') f g).1) := hp20.1
                  have emb_4_20 : M20 (mb + 4) = ((mixOneS (M16 (mb + 2)) (M16 (mb + 3), M16 (mb + 4), M16 (mb + 5)) (lo + c') f g).2.1) := hp20.2.1
                  have emb_5_20 : M20 (mb + 5) = ((mixOneS (M16 (mb + 2)) (M16 (mb + 3), M16 (mb + 4), M16 (mb + 5)) (lo + c') f g).2.2) := hp20.2.2.1
                  have emb_1_20 : M20 (mb + 1) = (M16 (mb + 1)) := hp20.2.2.2.1
                  have emb_2_20 : M20 (mb + 2) = (M16 (mb + 2)) := hp20.2.2.2.2.1
                  have fr20 : Fr (mb + 1) (mb + 6) M16 M20 := hp20.2.2.2.2.2
                  refine lv_iload S.1 S.2.1 dX2_mixBorders_82 (lv_at hl 6 rfl) ?_
                  refine lv_istore (lv' := [(4, .int (nI (lo + c'))), (6, .int (nI g)), (0, .ref (ad (mb + 1))), (1, .int (nI lo)), (2, .int (nI hi)), (3, .ref (ad 1)), (5, .int (nI (lo + c')))]) S.1 S.2.1 dX2_mixBorders_84 hl (by decide) rfl (fun ls hl => ?_)
                  refine lv_iinc (v := nI (lo + c') - nI 1) (lv' := [(5, .int (nI (lo + c') - nI 1)), (4, .int (nI (lo + c'))), (6, .int (nI g)), (0, .ref (ad (mb + 1))), (1, .int (nI lo)), (2, .int (nI hi)), (3, .ref (ad 1))]) S.1 S.2.1 dX2_mixBorders_86 hl (k := 6) rfl (iincM1 _) (by decide) rfl (fun ls hl => ?_)
                  refine lv_goto (tgt := 8) S.1 S.2.1 dX2_mixBorders_89 (by decide) ?_
                  have hq21 : M20 (mb + 1) = M2 (mb + 1) := emb_1_20.trans emb_1_16
                  have hq22 : M20 (mb + 2) = M2 (mb + 2) := emb_2_20.trans emb_2_16
                  have hq23 : M20 (mb + 3) = (mixOneS (M2 (mb + 2)) (M2 (mb + 3), M2 (mb + 4), ((farS (M2 3) (M2 (mb + 3)) (M2 (mb + 5)) (lo + c') f).2)) (lo + c') f g).1 := by rw [emb_3_20, emb_2_16, emb_3_16, emb_4_16, emb_5_16]
                  have hq24 : M20 (mb + 4) = (mixOneS (M2 (mb + 2)) (M2 (mb + 3), M2 (mb + 4), ((farS (M2 3) (M2 (mb + 3)) (M2 (mb + 5)) (lo + c') f).2)) (lo + c') f g).2.1 := by rw [emb_4_20, emb_2_16, emb_3_16, emb_4_16, emb_5_16]
                  have hq25 : M20 (mb + 5) = (mixOneS (M2 (mb + 2)) (M2 (mb + 3), M2 (mb + 4), ((farS (M2 3) (M2 (mb + 3)) (M2 (mb + 5)) (lo + c') f).2)) (lo + c') f g).2.2 := by rw [emb_5_20, emb_2_16, emb_3_16, emb_4_16, emb_5_16]
                  refine ih (some (lo + c')) (by omega) (fun f hf => by cases hf; omega) _ _ _ ls ⟨?_, hq21.trans i1, hq22.trans i2, ?_, (Fr.tr (Fr.tr ifr fr16 (by omega) (by omega)) fr20 (by omega) (by omega))⟩ hw (lv_sub hl [3, 4, 5, 6, 1, 0] rfl)
                  · rw [im, mixC, ms_c (q := (M2 (mb + 3), M2 (mb + 4), M2 (mb + 5))) c12 c15]
                    rw [co_i (by rw [← i3t]; exact hfar) (by omega), ← i3t, ← i2, hq23, hq24, hq25]
                  · rw [hq23]; exact kin_mo ik (by omega)
      · refine lv_goto (tgt := 86) S.1 S.2.1 dX2_mixBorders_23 (by decide) ?_
        refine lv_iinc (v := nI (lo + c') - nI 1) (lv' := [(5, .int (nI (lo + c') - nI 1)), (0, .ref (ad (mb + 1))), (1, .int (nI lo)), (2, .int (nI hi)), (3, .ref (ad 1)), (4, .int (enc og))]) S.1 S.2.1 dX2_mixBorders_86 hl (k := 5) rfl (iincM1 _) (by decide) rfl (fun ls hl => ?_)
        refine lv_goto (tgt := 8) S.1 S.2.1 dX2_mixBorders_89 (by decide) ?_
        refine ih og (by omega) (fun f hf => by have := hog f hf; omega) _ _ _ ls ⟨?_, i1, i2, ?_, ifr⟩ hw (lv_sub hl [1, 2, 3, 4, 5, 0] rfl)
        · rw [im, mixC, ms_f (u := (og, (M2 (mb + 3), M2 (mb + 4), M2 (mb + 5)))) c12]
        · exact ik
  refine lv_iconst (v := (-1)) S.1 S.2.1 dX2_mixBorders_0 (by decide) ?_
  refine lv_istore (lv' := [(4, .int (-1)), (0, .ref (ad (mb + 1))), (1, .int (nI lo)), (2, .int (nI hi)), (3, .ref (ad 1))]) S.1 S.2.1 dX2_mixBorders_1 hl (by decide) rfl (fun ls hl => ?_)
  refine lv_iload_n S.1 S.2.1 dX2_mixBorders_3 rfl (lv_at hl 3 rfl) ?_
  refine lv_iconst (v := nI 1) S.1 S.2.1 dX2_mixBorders_4 (by decide) ?_
  refine lv_isub S.1 S.2.1 dX2_mixBorders_5 ?_
  refine lv_istore (lv' := [(5, .int ((nI hi) - (nI 1))), (4, .int (-1)), (0, .ref (ad (mb + 1))), (1, .int (nI lo)), (2, .int (nI hi)), (3, .ref (ad 1))]) S.1 S.2.1 dX2_mixBorders_6 hl (by decide) rfl (fun ls hl => ?_)
  have hl : lv_has ls 7 [(5, .int (nI (lo + (hi - lo)) - nI 1)), (4, .int (enc none)), (0, .ref (ad (mb + 1))), (1, .int (nI lo)), (2, .int (nI hi)), (3, .ref (ad 1))] := by rw [show lo + (hi - lo) = hi by omega]; exact hl
  exact loop (hi - lo) none (by omega) (fun f hf => by cases hf) _ _ _ ls ⟨rfl, rfl, rfl, hki, Fr.rf⟩ hw (lv_sub hl [2, 3, 4, 5, 1, 0] rfl)
