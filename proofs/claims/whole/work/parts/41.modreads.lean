set_option maxHeartbeats 4000000 in
set_option maxRecDepth 100000 in
/-- reference: in -/
theorem c_X8_in (l : Launch) (G : GT) (N K : Nat) (ad : Nat → Nat) (M : Mem) (v lo hi : Int32) : CrI l G N K ad yX8_in cX8_in 3 .boolean 0 0 [.int v, .int lo, .int hi] M (b01 (wi v lo hi)) := by
  refine cm_startI (by decide +kernel) (Nat.le_of_ble_eq_true rfl) ?_
  intro p e s m below meth c ls S hr hlocks hw hl
  have hl : lv_has ls 3 [(0, .int v), (1, .int lo), (2, .int hi)] := hl
  refine lv_iload_n S.1 S.2.1 dX8_in_0 rfl (lv_at hl 0 rfl) ?_
  refine lv_iload_n S.1 S.2.1 dX8_in_1 rfl (lv_at hl 1 rfl) ?_
  refine lv_icmp_lt (tgt := 14) S.1 S.2.1 dX8_in_2 (by decide) (fun c1 => ?_) (fun c1 => ?_)
  · refine lv_iconst (v := nI 0) S.1 S.2.1 dX8_in_14 (by decide) ?_
    exact m_retz S hr hlocks hw dX8_in_15 rfl ⟨wi_f1 c1, rfl⟩
  · refine lv_iload_n S.1 S.2.1 dX8_in_5 rfl (lv_at hl 0 rfl) ?_
    refine lv_iload_n S.1 S.2.1 dX8_in_6 rfl (lv_at hl 2 rfl) ?_
    refine lv_icmp_gt (tgt := 14) S.1 S.2.1 dX8_in_7 (by decide) (fun c2 => ?_) (fun c2 => ?_)
    · refine lv_iconst (v := nI 0) S.1 S.2.1 dX8_in_14 (by decide) ?_
      exact m_retz S hr hlocks hw dX8_in_15 rfl ⟨wi_f2 c2, rfl⟩
    · refine lv_iconst (v := nI 1) S.1 S.2.1 dX8_in_10 (by decide) ?_
      refine lv_goto (tgt := 15) S.1 S.2.1 dX8_in_11 (by decide) ?_
      exact m_retz S hr hlocks hw dX8_in_15 rfl ⟨wi_t c1 c2, rfl⟩

set_option maxHeartbeats 4000000 in
set_option maxRecDepth 100000 in
/-- reference: isKind -/
theorem c_X8_isKind (l : Launch) (G : GT) (N K : Nat) (ad : Nat → Nat) (M : Mem) (x : Int32) : CrI l G N K ad yX8_isKind cX8_isKind 1 .boolean 1 22 [.int x] M (b01 (inB x 8)) := by
  refine cm_startI (by decide +kernel) (Nat.le_of_ble_eq_true rfl) ?_
  intro p e s m below meth c ls S hr hlocks hw hl
  have hl : lv_has ls 1 [(0, .int x)] := hl
  refine lv_iload_n S.1 S.2.1 dX8_isKind_0 rfl (lv_at hl 0 rfl) ?_
  refine lv_iconst (v := nI 0) S.1 S.2.1 dX8_isKind_1 (by decide) ?_
  refine lv_bipush (v := nI 7) S.1 S.2.1 dX8_isKind_2 (by decide) ?_
  refine r_SI (As := [.int x, .int (nI 0), .int (nI 7)]) (rest := []) S hw (c_X8_in l G N K ad M x (nI 0) (nI 7)) mf_X8_in wm_X8_104 ⟨by decide, by decide⟩ ⟨Nat.le_refl _, Nat.le_refl _⟩ hl.1 rfl (Nat.le_of_ble_eq_true rfl) dX8_isKind_4 (fun H locs hw => ?_)
  exact m_retz S hr hlocks hw dX8_isKind_7 (b01_n _) ⟨by rw [wi_upto x (by decide)], rfl⟩

set_option maxHeartbeats 4000000 in
set_option maxRecDepth 100000 in
/-- reference: isDoor -/
theorem c_X8_isDoor (l : Launch) (G : GT) (N K : Nat) (ad : Nat → Nat) (M : Mem) (h61 : 61 ≤ N) (D : Nat) (hD : M 34 10 = nI D) (hD6 : D ≤ 6) (x : Int32) : CrI l G N K ad yX8_isDoor cX8_isDoor 2 .boolean 1 22 [.ref (ad 34), .int x] M (b01 (inB x D)) := by
  refine cm_startI (by decide +kernel) (Nat.le_of_ble_eq_true rfl) ?_
  intro p e s m below meth c ls S hr hlocks hw hl
  have hl : lv_has ls 2 [(0, .ref (ad 34)), (1, .int x)] := hl
  refine lv_iload_n S.1 S.2.1 dX8_isDoor_0 rfl (lv_at hl 1 rfl) ?_
  refine lv_iconst (v := nI 0) S.1 S.2.1 dX8_isDoor_1 (by decide) ?_
  refine lv_aload_n S.1 S.2.1 dX8_isDoor_2 rfl (lv_at hl 0 rfl) ?_
  refine m_getI 34 10 S hw (by omega) rfl rfl rfl in_X8 (by decide) wf_X8_108 dX8_isDoor_3 ?_
  refine m_top (show M 34 10 = nI D from hD) ?_
  refine lv_iconst (v := nI 1) S.1 S.2.1 dX8_isDoor_6 (by decide) ?_
  refine lv_isub S.1 S.2.1 dX8_isDoor_7 ?_
  refine r_SI (As := [.int x, .int (nI 0), .int ((nI D) - (nI 1))]) (rest := []) S hw (c_X8_in l G N K ad M x (nI 0) ((nI D) - (nI 1))) mf_X8_in wm_X8_104 ⟨by decide, by decide⟩ ⟨Nat.le_refl _, Nat.le_refl _⟩ hl.1 rfl (Nat.le_of_ble_eq_true rfl) dX8_isDoor_8 (fun H locs hw => ?_)
  exact m_retz S hr hlocks hw dX8_isDoor_11 (b01_n _) ⟨by rw [wi_pred x (by omega)], rfl⟩

set_option maxHeartbeats 4000000 in
set_option maxRecDepth 100000 in
/-- reference: isTank -/
theorem c_X8_isTank (l : Launch) (G : GT) (N K : Nat) (ad : Nat → Nat) (M : Mem) (h61 : 61 ≤ N) (D : Nat) (hD : M 34 10 = nI D) (hD6 : D ≤ 6) (x y : Int32) : CrI l G N K ad yX8_isTank cX8_isTank 3 .boolean 2 43 [.ref (ad 34), .int x, .int y] M (b01 (inB x D && (inB y 8 && !eqB (M 45 (tn x * 8 + tn y)) 0))) := by
  refine cm_startI (by decide +kernel) (Nat.le_of_ble_eq_true rfl) ?_
  intro p e s m below meth c ls S hr hlocks hw hl
  have hl : lv_has ls 3 [(0, .ref (ad 34)), (1, .int x), (2, .int y)] := hl
  refine lv_aload_n S.1 S.2.1 dX8_isTank_0 rfl (lv_at hl 0 rfl) ?_
  refine lv_iload_n S.1 S.2.1 dX8_isTank_1 rfl (lv_at hl 1 rfl) ?_
  refine r_VI (As := [.int x]) (rest := []) 34 S hw (by omega) rfl rfl (c_X8_isDoor l G N K ad M h61 D hD hD6 x) mf_X8_isDoor wm_X8_123 ⟨by decide, by decide⟩ ⟨Nat.le_refl _, Nat.le_refl _⟩ hl.1 rfl (Nat.le_of_ble_eq_true rfl) dX8_isTank_2 (fun H locs hw => ?_)
  refine b_eq (tgt := 33) S dX8_isTank_5 (by decide) (fun c1 => ?_) (fun c1 => ?_)
  · refine lv_iconst (v := nI 0) S.1 S.2.1 dX8_isTank_33 (by decide) ?_
    exact m_retz S hr hlocks hw dX8_isTank_34 rfl ⟨b0_f (and_f1 c1), rfl⟩
  · obtain ⟨a, ha, ea⟩ := inB_of c1 (by omega)
    have ta : tn x = a := tn_of ea (by omega)
    refine lv_iload_n S.1 S.2.1 dX8_isTank_8 rfl (lv_at hl 2 rfl) ?_
    refine r_SI (As := [.int y]) (rest := []) S hw (c_X8_isKind l G N K ad M y) mf_X8_isKind wm_X8_127 ⟨by decide, by decide⟩ ⟨Nat.le_refl _, Nat.le_refl _⟩ hl.1 rfl (Nat.le_of_ble_eq_true rfl) dX8_isTank_9 (fun H locs hw => ?_)
    refine b_eq (tgt := 33) S dX8_isTank_12 (by decide) (fun c2 => ?_) (fun c2 => ?_)
    · refine lv_iconst (v := nI 0) S.1 S.2.1 dX8_isTank_33 (by decide) ?_
      exact m_retz S hr hlocks hw dX8_isTank_34 rfl ⟨b0_f (and_f2 (and_f1 c2)), rfl⟩
    · obtain ⟨b, hb, eb⟩ := inB_of c2 (by omega)
      have tb : tn y = b := tn_of eb (by omega)
      refine lv_aload_n S.1 S.2.1 dX8_isTank_15 rfl (lv_at hl 0 rfl) ?_
      refine m_getR 34 14 45 S hw (by omega) rfl rfl rfl in_X8 (by decide) wf_X8_50 dX8_isTank_16 ?_
      refine lv_bipush (v := nI 8) S.1 S.2.1 dX8_isTank_19 (by decide) ?_
      refine lv_iload_n S.1 S.2.1 dX8_isTank_21 rfl (lv_at hl 1 rfl) ?_
      refine m_top (show x = nI a from ea) ?_
      refine lv_imul S.1 S.2.1 dX8_isTank_22 ?_
      refine m_top (show (nI 8) * (nI a) = nI (a * 8) from by rw [pk_mul, Nat.mul_comm]) ?_
      refine lv_iload_n S.1 S.2.1 dX8_isTank_23 rfl (lv_at hl 2 rfl) ?_
      refine m_top (show y = nI b from eb) ?_
      refine lv_iadd S.1 S.2.1 dX8_isTank_24 ?_
      refine m_top (show (nI (a * 8)) + (nI b) = nI ((a * 8) + b) from nI_add _ _) ?_
      refine m_zld 45 ((a * 8) + b) S hw (by omega) rfl (by decide) (by omega) rfl dX8_isTank_25 ?_
      refine lv_if_eq (tgt := 33) S.1 S.2.1 dX8_isTank_26 (by decide) (fun c3 => ?_) (fun c3 => ?_)
      · refine lv_iconst (v := nI 0) S.1 S.2.1 dX8_isTank_33 (by decide) ?_
        exact m_retz S hr hlocks hw dX8_isTank_34 rfl ⟨b0_f (and_f2 (and_f2 (by rw [ta, tb, eqB_t c3]; rfl))), rfl⟩
      · refine lv_iconst (v := nI 1) S.1 S.2.1 dX8_isTank_29 (by decide) ?_
        refine lv_goto (tgt := 34) S.1 S.2.1 dX8_isTank_30 (by decide) ?_
        exact m_retz S hr hlocks hw dX8_isTank_34 rfl ⟨b1_t (and_t c1 (and_t c2 (by rw [ta, tb, eqB_f c3]; rfl))), rfl⟩

set_option maxHeartbeats 4000000 in
set_option maxRecDepth 100000 in
/-- reference: isPure -/
theorem c_X8_isPure (l : Launch) (G : GT) (N K : Nat) (ad : Nat → Nat) (M : Mem) (h61 : 61 ≤ N) (j : Nat) (hj : j < 120) : CrI l G N K ad yX8_isPure cX8_isPure 2 .boolean 0 0 [.ref (ad 34), .int (nI j)] M (b01 (pureB (M 37) j)) := by
  refine cm_startI (by decide +kernel) (Nat.le_of_ble_eq_true rfl) ?_
  intro p e s m below meth c ls S hr hlocks hw hl
  have hl : lv_has ls 2 [(0, .ref (ad 34)), (1, .int (nI j))] := hl
  refine lv_aload_n S.1 S.2.1 dX8_isPure_0 rfl (lv_at hl 0 rfl) ?_
  refine m_getR 34 4 37 S hw (by omega) rfl rfl rfl in_X8 (by decide) wf_X8_23 dX8_isPure_1 ?_
  refine lv_iload_n S.1 S.2.1 dX8_isPure_4 rfl (lv_at hl 1 rfl) ?_
  refine m_ald 37 j S hw (by omega) rfl (by decide) (by omega) rfl dX8_isPure_5 ?_
  refine lv_iconst (v := (-1)) S.1 S.2.1 dX8_isPure_6 (by decide) ?_
  refine lv_icmp_ne (tgt := 14) S.1 S.2.1 dX8_isPure_7 (by decide) (fun c1 => ?_) (fun c1 => ?_)
  · refine lv_iconst (v := nI 0) S.1 S.2.1 dX8_isPure_14 (by decide) ?_
    exact m_retz S hr hlocks hw dX8_isPure_15 rfl ⟨b0_f (eqB_f c1), rfl⟩
  · refine lv_iconst (v := nI 1) S.1 S.2.1 dX8_isPure_10 (by decide) ?_
    refine lv_goto (tgt := 15) S.1 S.2.1 dX8_isPure_11 (by decide) ?_
    exact m_retz S hr hlocks hw dX8_isPure_15 rfl ⟨b1_t (eqB_t c1), rfl⟩

set_option maxHeartbeats 4000000 in
set_option maxRecDepth 100000 in
/-- reference: neighbour towards the begin -/
theorem c_X8_neighbourB (l : Launch) (G : GT) (N K : Nat) (ad : Nat → Nat) (M : Mem) (h61 : 61 ≤ N) (n : Nat) (hn : M 34 1 = nI n) (hn1 : n ≤ 120) (j : Nat) (hj : j ≤ n) : CrI l G N K ad yX8_neighbour cX8_neighbour 4 .int 1 21 [.ref (ad 34), .int (nI j), .int (-1)] M (enc (nbB (M 37) j)) := by
  refine cm_startI (by decide +kernel) (Nat.le_of_ble_eq_true rfl) ?_
  intro p e s m below meth c ls S hr hlocks hw hl
  have hl : lv_has ls 4 [(0, .ref (ad 34)), (1, .int (nI j)), (2, .int (-1))] := hl
  generalize hAv : List.toArray ([.ref (ad 34), .int (nI j), .int (-1)] : List Value) = A at S ⊢
  have loop : ∀ (n' : Nat), n' ≤ n → nbB (M 37) j = nbB (M 37) n' → ∀ (H : Heap) (locs : List Loc) (ls : Array Slot), Wd G N K ad M s H locs → lv_has ls 4 [(0, .ref (ad 34)), (1, .int (nI j)), (2, .int (-1)), (3, .int (nI n' - nI 1))] → W p l e { frames := 1, cells := 0, slots := 0, locals := 21 } s m A below meth c H locs 0 0 (QmI G N K ad (fun r M' => r = (enc (nbB (M 37) j)) ∧ M' = M) below A s) (F0 m 4 ls []) := by
    intro n'
    induction n' with
    | zero =>
      intro hc he H locs ls hw hl
      refine lv_iload_n S.1 S.2.1 dX8_neighbour_4 rfl (lv_at hl 3 rfl) ?_
      refine lv_if_lt (tgt := 31) S.1 S.2.1 dX8_neighbour_5 (by decide) (fun c1 => ?_) (fun c1 => absurd c1 (fun z => z nI_m1))
      refine lv_iload_n S.1 S.2.1 dX8_neighbour_31 rfl (lv_at hl 3 rfl) ?_
      refine lv_if_lt (tgt := 43) S.1 S.2.1 dX8_neighbour_32 (by decide) (fun c2 => ?_) (fun c2 => absurd c2 (fun z => z nI_m1))
      refine lv_iconst (v := (-1)) S.1 S.2.1 dX8_neighbour_43 (by decide) ?_
      refine lv_goto (tgt := 48) S.1 S.2.1 dX8_neighbour_44 (by decide) ?_
      exact m_reti S hr hlocks hw dX8_neighbour_48 ⟨by rw [he]; rfl, rfl⟩
    | succ c' ih =>
      intro hc he H locs ls hw hl
      have hl : lv_has ls 4 [(0, .ref (ad 34)), (1, .int (nI j)), (2, .int (-1)), (3, .int (nI (c')))] := by rw [predN] at hl; exact hl
      refine lv_iload_n S.1 S.2.1 dX8_neighbour_4 rfl (lv_at hl 3 rfl) ?_
      refine lv_if_lt (tgt := 31) S.1 S.2.1 dX8_neighbour_5 (by decide) (fun c1 => absurd c1 (nI_pos (by omega))) (fun c1 => ?_)
      refine lv_iload_n S.1 S.2.1 dX8_neighbour_8 rfl (lv_at hl 3 rfl) ?_
      refine lv_aload_n S.1 S.2.1 dX8_neighbour_9 rfl (lv_at hl 0 rfl) ?_
      refine m_getI 34 1 S hw (by omega) rfl rfl rfl in_X8 (by decide) wf_X8_13 dX8_neighbour_10 ?_
      refine m_top (show M 34 1 = nI n from hn) ?_
      refine n_ge (tgt := 31) S (by omega) (by omega) dX8_neighbour_13 (by decide) (fun c2 => absurd c2 (by omega)) (fun c2 => ?_)
      refine lv_aload_n S.1 S.2.1 dX8_neighbour_16 rfl (lv_at hl 0 rfl) ?_
      refine lv_iload_n S.1 S.2.1 dX8_neighbour_17 rfl (lv_at hl 3 rfl) ?_
      refine r_VI (As := [.int (nI (c'))]) (rest := []) 34 S hw (by omega) rfl rfl (c_X8_isPure l G N K ad M h61 (c') (by omega)) mf_X8_isPure wm_X8_146 ⟨by decide, by decide⟩ ⟨Nat.le_refl _, Nat.le_refl _⟩ hl.1 rfl (Nat.le_of_ble_eq_true rfl) dX8_neighbour_18 (fun H locs hw => ?_)
      refine b_ne (tgt := 31) S dX8_neighbour_21 (by decide) (fun c3 => ?_) (fun c3 => ?_)
      · refine lv_iload_n S.1 S.2.1 dX8_neighbour_31 rfl (lv_at hl 3 rfl) ?_
        refine lv_if_lt (tgt := 43) S.1 S.2.1 dX8_neighbour_32 (by decide) (fun c4 => absurd c4 (nI_pos (by omega))) (fun c4 => ?_)
        refine lv_iload_n S.1 S.2.1 dX8_neighbour_35 rfl (lv_at hl 3 rfl) ?_
        refine lv_aload_n S.1 S.2.1 dX8_neighbour_36 rfl (lv_at hl 0 rfl) ?_
        refine m_getI 34 1 S hw (by omega) rfl rfl rfl in_X8 (by decide) wf_X8_13 dX8_neighbour_37 ?_
        refine m_top (show M 34 1 = nI n from hn) ?_
        refine n_lt (tgt := 47) S (by omega) (by omega) dX8_neighbour_40 (by decide) (fun c5 => ?_) (fun c5 => absurd c5 (by omega))
        refine lv_iload_n S.1 S.2.1 dX8_neighbour_47 rfl (lv_at hl 3 rfl) ?_
        exact m_reti S hr hlocks hw dX8_neighbour_48 ⟨by rw [he, nbB_t c3]; rfl, rfl⟩
      · refine lv_iload_n S.1 S.2.1 dX8_neighbour_24 rfl (lv_at hl 3 rfl) ?_
        refine lv_iload_n S.1 S.2.1 dX8_neighbour_25 rfl (lv_at hl 2 rfl) ?_
        refine lv_iadd S.1 S.2.1 dX8_neighbour_26 ?_
        refine m_top (show (nI (c')) + (-1) = nI c' - nI 1 from add_m1 _) ?_
        refine lv_istore_n (lv' := [(3, .int (nI c' - nI 1)), (0, .ref (ad 34)), (1, .int (nI j)), (2, .int (-1))]) S.1 S.2.1 dX8_neighbour_27 rfl hl (by decide) rfl (fun ls hl => ?_)
        refine lv_goto (tgt := 4) S.1 S.2.1 dX8_neighbour_28 (by decide) ?_
        exact ih (by omega) (he.trans (nbB_f c3)) _ _ ls hw (lv_sub hl [1, 2, 3, 0] rfl)
  refine lv_iload_n S.1 S.2.1 dX8_neighbour_0 rfl (lv_at hl 1 rfl) ?_
  refine lv_iload_n S.1 S.2.1 dX8_neighbour_1 rfl (lv_at hl 2 rfl) ?_
  refine lv_iadd S.1 S.2.1 dX8_neighbour_2 ?_
  refine m_top (show (nI j) + (-1) = nI j - nI 1 from add_m1 _) ?_
  refine lv_istore_n (lv' := [(3, .int (nI j - nI 1)), (0, .ref (ad 34)), (1, .int (nI j)), (2, .int (-1))]) S.1 S.2.1 dX8_neighbour_3 rfl hl (by decide) rfl (fun ls hl => ?_)
  exact loop j (by omega) rfl _ _ ls hw (lv_sub hl [1, 2, 3, 0] rfl)

set_option maxHeartbeats 4000000 in
set_option maxRecDepth 100000 in
/-- reference: neighbour towards the end -/
theorem c_X8_neighbourE (l : Launch) (G : GT) (N K : Nat) (ad : Nat → Nat) (M : Mem) (h61 : 61 ≤ N) (n : Nat) (hn : M 34 1 = nI n) (hn1 : n ≤ 120) (j : Nat) (hj : j < n) : CrI l G N K ad yX8_neighbour cX8_neighbour 4 .int 1 21 [.ref (ad 34), .int (nI j), .int (nI 1)] M (enc (nbE (M 37) n j)) := by
  refine cm_startI (by decide +kernel) (Nat.le_of_ble_eq_true rfl) ?_
  intro p e s m below meth c ls S hr hlocks hw hl
  have hl : lv_has ls 4 [(0, .ref (ad 34)), (1, .int (nI j)), (2, .int (nI 1))] := hl
  generalize hAv : List.toArray ([.ref (ad 34), .int (nI j), .int (nI 1)] : List Value) = A at S ⊢
  have loop : ∀ (n' : Nat) (i : Nat), i + n' = n → nbE (M 37) n j = nbEc (M 37) n' i → ∀ (H : Heap) (locs : List Loc) (ls : Array Slot), Wd G N K ad M s H locs → lv_has ls 4 [(0, .ref (ad 34)), (1, .int (nI j)), (2, .int (nI 1)), (3, .int (nI i))] → W p l e { frames := 1, cells := 0, slots := 0, locals := 21 } s m A below meth c H locs 0 0 (QmI G N K ad (fun r M' => r = (enc (nbE (M 37) n j)) ∧ M' = M) below A s) (F0 m 4 ls []) := by
    intro n'
    induction n' with
    | zero =>
      intro i hi he H locs ls hw hl
      refine lv_iload_n S.1 S.2.1 dX8_neighbour_4 rfl (lv_at hl 3 rfl) ?_
      refine lv_if_lt (tgt := 31) S.1 S.2.1 dX8_neighbour_5 (by decide) (fun c1 => absurd c1 (nI_pos (by omega))) (fun c1 => ?_)
      refine lv_iload_n S.1 S.2.1 dX8_neighbour_8 rfl (lv_at hl 3 rfl) ?_
      refine lv_aload_n S.1 S.2.1 dX8_neighbour_9 rfl (lv_at hl 0 rfl) ?_
      refine m_getI 34 1 S hw (by omega) rfl rfl rfl in_X8 (by decide) wf_X8_13 dX8_neighbour_10 ?_
      refine m_top (show M 34 1 = nI n from hn) ?_
      refine n_ge (tgt := 31) S (by omega) (by omega) dX8_neighbour_13 (by decide) (fun c2 => ?_) (fun c2 => absurd c2 (by omega))
      refine lv_iload_n S.1 S.2.1 dX8_neighbour_31 rfl (lv_at hl 3 rfl) ?_
      refine lv_if_lt (tgt := 43) S.1 S.2.1 dX8_neighbour_32 (by decide) (fun c3 => absurd c3 (nI_pos (by omega))) (fun c3 => ?_)
      refine lv_iload_n S.1 S.2.1 dX8_neighbour_35 rfl (lv_at hl 3 rfl) ?_
      refine lv_aload_n S.1 S.2.1 dX8_neighbour_36 rfl (lv_at hl 0 rfl) ?_
      refine m_getI 34 1 S hw (by omega) rfl rfl rfl in_X8 (by decide) wf_X8_13 dX8_neighbour_37 ?_
      refine m_top (show M 34 1 = nI n from hn) ?_
      refine n_lt (tgt := 47) S (by omega) (by omega) dX8_neighbour_40 (by decide) (fun c4 => absurd c4 (by omega)) (fun c4 => ?_)
      refine lv_iconst (v := (-1)) S.1 S.2.1 dX8_neighbour_43 (by decide) ?_
      refine lv_goto (tgt := 48) S.1 S.2.1 dX8_neighbour_44 (by decide) ?_
      exact m_reti S hr hlocks hw dX8_neighbour_48 ⟨by rw [he]; rfl, rfl⟩
    | succ n' ih =>
      intro i hi he H locs ls hw hl
      refine lv_iload_n S.1 S.2.1 dX8_neighbour_4 rfl (lv_at hl 3 rfl) ?_
      refine lv_if_lt (tgt := 31) S.1 S.2.1 dX8_neighbour_5 (by decide) (fun c1 => absurd c1 (nI_pos (by omega))) (fun c1 => ?_)
      refine lv_iload_n S.1 S.2.1 dX8_neighbour_8 rfl (lv_at hl 3 rfl) ?_
      refine lv_aload_n S.1 S.2.1 dX8_neighbour_9 rfl (lv_at hl 0 rfl) ?_
      refine m_getI 34 1 S hw (by omega) rfl rfl rfl in_X8 (by decide) wf_X8_13 dX8_neighbour_10 ?_
      refine m_top (show M 34 1 = nI n from hn) ?_
      refine n_ge (tgt := 31) S (by omega) (by omega) dX8_neighbour_13 (by decide) (fun c2 => absurd c2 (by omega)) (fun c2 => ?_)
      refine lv_aload_n S.1 S.2.1 dX8_neighbour_16 rfl (lv_at hl 0 rfl) ?_
      refine lv_iload_n S.1 S.2.1 dX8_neighbour_17 rfl (lv_at hl 3 rfl) ?_
      refine r_VI (As := [.int (nI i)]) (rest := []) 34 S hw (by omega) rfl rfl (c_X8_isPure l G N K ad M h61 i (by omega)) mf_X8_isPure wm_X8_146 ⟨by decide, by decide⟩ ⟨Nat.le_refl _, Nat.le_refl _⟩ hl.1 rfl (Nat.le_of_ble_eq_true rfl) dX8_neighbour_18 (fun H locs hw => ?_)
      refine b_ne (tgt := 31) S dX8_neighbour_21 (by decide) (fun c3 => ?_) (fun c3 => ?_)
      · refine lv_iload_n S.1 S.2.1 dX8_neighbour_31 rfl (lv_at hl 3 rfl) ?_
        refine lv_if_lt (tgt := 43) S.1 S.2.1 dX8_neighbour_32 (by decide) (fun c4 => absurd c4 (nI_pos (by omega))) (fun c4 => ?_)
        refine lv_iload_n S.1 S.2.1 dX8_neighbour_35 rfl (lv_at hl 3 rfl) ?_
        refine lv_aload_n S.1 S.2.1 dX8_neighbour_36 rfl (lv_at hl 0 rfl) ?_
        refine m_getI 34 1 S hw (by omega) rfl rfl rfl in_X8 (by decide) wf_X8_13 dX8_neighbour_37 ?_
        refine m_top (show M 34 1 = nI n from hn) ?_
        refine n_lt (tgt := 47) S (by omega) (by omega) dX8_neighbour_40 (by decide) (fun c5 => ?_) (fun c5 => absurd c5 (by omega))
        refine lv_iload_n S.1 S.2.1 dX8_neighbour_47 rfl (lv_at hl 3 rfl) ?_
        exact m_reti S hr hlocks hw dX8_neighbour_48 ⟨by rw [he, nbEc_t c3]; rfl, rfl⟩
      · refine lv_iload_n S.1 S.2.1 dX8_neighbour_24 rfl (lv_at hl 3 rfl) ?_
        refine lv_iload_n S.1 S.2.1 dX8_neighbour_25 rfl (lv_at hl 2 rfl) ?_
        refine lv_iadd S.1 S.2.1 dX8_neighbour_26 ?_
        refine m_top (show (nI i) + (nI 1) = nI (i + 1) from nI_add _ _) ?_
        refine lv_istore_n (lv' := [(3, .int (nI (i + 1))), (0, .ref (ad 34)), (1, .int (nI j)), (2, .int (nI 1))]) S.1 S.2.1 dX8_neighbour_27 rfl hl (by decide) rfl (fun ls hl => ?_)
        refine lv_goto (tgt := 4) S.1 S.2.1 dX8_neighbour_28 (by decide) ?_
        exact ih (i + 1) (by omega) (he.trans (nbEc_f c3)) _ _ ls hw (lv_sub hl [1, 2, 3, 0] rfl)
  refine lv_iload_n S.1 S.2.1 dX8_neighbour_0 rfl (lv_at hl 1 rfl) ?_
  refine lv_iload_n S.1 S.2.1 dX8_neighbour_1 rfl (lv_at hl 2 rfl) ?_
  refine lv_iadd S.1 S.2.1 dX8_neighbour_2 ?_
  refine m_top (show (nI j) + (nI 1) = nI (j + 1) from nI_add _ _) ?_
  refine lv_istore_n (lv' := [(3, .int (nI (j + 1))), (0, .ref (ad 34)), (1, .int (nI j)), (2, .int (nI 1))]) S.1 S.2.1 dX8_neighbour_3 rfl hl (by decide) rfl (fun ls hl => ?_)
  exact loop (n - (j + 1)) (j + 1) (by omega) rfl _ _ ls hw (lv_sub hl [1, 2, 3, 0] rfl)

set_option maxHeartbeats 4000000 in
set_option maxRecDepth 100000 in
/-- reference: border -/
theorem c_X8_border (l : Launch) (G : GT) (N K : Nat) (ad : Nat → Nat) (M : Mem) (h61 : 61 ≤ N) (n : Nat) (hn : M 34 1 = nI n) (hn1 : n ≤ 120) (j : Nat) (hj : j < n) : CrI l G N K ad yX8_border cX8_border 3 .int 2 44 [.ref (ad 34), .int (nI j)] M (enc (bord (M 37) (M 36) j)) := by
  refine cm_startI (by decide +kernel) (Nat.le_of_ble_eq_true rfl) ?_
  intro p e s m below meth c ls S hr hlocks hw hl
  have hl : lv_has ls 3 [(0, .ref (ad 34)), (1, .int (nI j))] := hl
  refine lv_aload_n S.1 S.2.1 dX8_border_0 rfl (lv_at hl 0 rfl) ?_
  refine lv_iload_n S.1 S.2.1 dX8_border_1 rfl (lv_at hl 1 rfl) ?_
  refine r_VI (As := [.int (nI j)]) (rest := []) 34 S hw (by omega) rfl rfl (c_X8_isPure l G N K ad M h61 j (by omega)) mf_X8_isPure wm_X8_146 ⟨by decide, by decide⟩ ⟨Nat.le_refl _, Nat.le_refl _⟩ hl.1 rfl (Nat.le_of_ble_eq_true rfl) dX8_border_2 (fun H locs hw => ?_)
  refine b_ne (tgt := 10) S dX8_border_5 (by decide) (fun c1 => ?_) (fun c1 => ?_)
  · refine lv_aload_n S.1 S.2.1 dX8_border_10 rfl (lv_at hl 0 rfl) ?_
    refine lv_iload_n S.1 S.2.1 dX8_border_11 rfl (lv_at hl 1 rfl) ?_
    refine lv_iconst (v := (-1)) S.1 S.2.1 dX8_border_12 (by decide) ?_
    refine r_VI (As := [.int (nI j), .int (-1)]) (rest := []) 34 S hw (by omega) rfl rfl (c_X8_neighbourB l G N K ad M h61 n hn hn1 j (by omega)) mf_X8_neighbour wm_X8_149 ⟨by decide, by decide⟩ ⟨Nat.le_refl _, Nat.le_refl _⟩ hl.1 rfl (Nat.le_of_ble_eq_true rfl) dX8_border_13 (fun H locs hw => ?_)
    rcases opt_cases (nbB (M 37) j) with hnb | ⟨x, hnb⟩
    · refine m_top (show enc (nbB (M 37) j) = (-1) from enc_n hnb) ?_
      refine lv_istore_n (lv' := [(2, .int (-1)), (0, .ref (ad 34)), (1, .int (nI j))]) S.1 S.2.1 dX8_border_16 rfl hl (by decide) rfl (fun ls hl => ?_)
      refine lv_iload_n S.1 S.2.1 dX8_border_17 rfl (lv_at hl 0 rfl) ?_
      refine lv_iconst (v := (-1)) S.1 S.2.1 dX8_border_18 (by decide) ?_
      refine lv_icmp_eq (tgt := 37) S.1 S.2.1 dX8_border_19 (by decide) (fun c2 => ?_) (fun c2 => absurd c2 (fun z => z rfl))
      refine lv_iconst (v := (-1)) S.1 S.2.1 dX8_border_37 (by decide) ?_
      refine lv_goto (tgt := 42) S.1 S.2.1 dX8_border_38 (by decide) ?_
      exact m_reti S hr hlocks hw dX8_border_42 ⟨by rw [bord_n2 hnb]; rfl, rfl⟩
    · have hx := nbB_lt hnb
      refine m_top (show enc (nbB (M 37) j) = nI x from enc_s hnb) ?_
      refine lv_istore_n (lv' := [(2, .int (nI x)), (0, .ref (ad 34)), (1, .int (nI j))]) S.1 S.2.1 dX8_border_16 rfl hl (by decide) rfl (fun ls hl => ?_)
      refine lv_iload_n S.1 S.2.1 dX8_border_17 rfl (lv_at hl 0 rfl) ?_
      refine lv_iconst (v := (-1)) S.1 S.2.1 dX8_border_18 (by decide) ?_
      refine lv_icmp_eq (tgt := 37) S.1 S.2.1 dX8_border_19 (by decide) (fun c3 => absurd c3 (enc_ne (by omega))) (fun c3 => ?_)
      refine lv_aload_n S.1 S.2.1 dX8_border_22 rfl (lv_at hl 1 rfl) ?_
      refine m_getR 34 3 36 S hw (by omega) rfl rfl rfl in_X8 (by decide) wf_X8_20 dX8_border_23 ?_
      refine lv_iload_n S.1 S.2.1 dX8_border_26 rfl (lv_at hl 0 rfl) ?_
      refine m_ald 36 x S hw (by omega) rfl (by decide) (by omega) rfl dX8_border_27 ?_
      refine lv_aload_n S.1 S.2.1 dX8_border_28 rfl (lv_at hl 1 rfl) ?_
      refine m_getR 34 3 36 S hw (by omega) rfl rfl rfl in_X8 (by decide) wf_X8_20 dX8_border_29 ?_
      refine lv_iload_n S.1 S.2.1 dX8_border_32 rfl (lv_at hl 2 rfl) ?_
      refine m_ald 36 j S hw (by omega) rfl (by decide) (by omega) rfl dX8_border_33 ?_
      refine lv_icmp_ne (tgt := 41) S.1 S.2.1 dX8_border_34 (by decide) (fun c4 => ?_) (fun c4 => ?_)
      · refine lv_iload_n S.1 S.2.1 dX8_border_41 rfl (lv_at hl 0 rfl) ?_
        exact m_reti S hr hlocks hw dX8_border_42 ⟨by rw [bord_s c1 hnb c4]; rfl, rfl⟩
      · refine lv_iconst (v := (-1)) S.1 S.2.1 dX8_border_37 (by decide) ?_
        refine lv_goto (tgt := 42) S.1 S.2.1 dX8_border_38 (by decide) ?_
        exact m_reti S hr hlocks hw dX8_border_42 ⟨by rw [bord_n3 hnb c4]; rfl, rfl⟩
  · refine lv_iconst (v := (-1)) S.1 S.2.1 dX8_border_8 (by decide) ?_
    exact m_reti S hr hlocks hw dX8_border_9 ⟨by rw [bord_n1 c1]; rfl, rfl⟩

set_option maxHeartbeats 4000000 in
set_option maxRecDepth 100000 in
/-- reference: mayNot -/
theorem c_X8_mayNot (l : Launch) (G : GT) (N K : Nat) (ad : Nat → Nat) (M : Mem) (h61 : 61 ≤ N) (n : Nat) (hn1 : n ≤ 120) (hki : Kin (M 36) n) (oa ob : Option Nat) (ha : ∀ h, oa = some h → h < n) (hb : ∀ f, ob = some f → f < n) : CrI l G N K ad yX8_mayNot cX8_mayNot 3 .boolean 0 0 [.ref (ad 34), .int (enc oa), .int (enc ob)] M (b01 (clB (fun i => b01 (eqB (M 51 i) 0)) (M 36) oa ob)) := by
  refine cm_startI (by decide +kernel) (Nat.le_of_ble_eq_true rfl) ?_
  intro p e s m below meth c ls S hr hlocks hw hl
  have hl : lv_has ls 3 [(0, .ref (ad 34)), (1, .int (enc oa)), (2, .int (enc ob))] := hl
  rcases opt_cases oa with rfl | ⟨h, rfl⟩
  · skip
    refine lv_iload_n S.1 S.2.1 dX8_mayNot_0 rfl (lv_at hl 1 rfl) ?_
    refine m_top (show enc none = (-1) from rfl) ?_
    refine lv_iconst (v := (-1)) S.1 S.2.1 dX8_mayNot_1 (by decide) ?_
    refine lv_icmp_eq (tgt := 38) S.1 S.2.1 dX8_mayNot_2 (by decide) (fun c1 => ?_) (fun c1 => absurd c1 (fun z => z rfl))
    refine lv_iconst (v := nI 0) S.1 S.2.1 dX8_mayNot_38 (by decide) ?_
    exact m_retz S hr hlocks hw dX8_mayNot_39 rfl ⟨b0_f clB_n1, rfl⟩
  · have hh := ha h rfl
    obtain ⟨kh, hkh8, hkh⟩ := inB_of (hki h hh) (by decide)
    refine lv_iload_n S.1 S.2.1 dX8_mayNot_0 rfl (lv_at hl 1 rfl) ?_
    refine m_top (show enc (some h) = nI h from rfl) ?_
    refine lv_iconst (v := (-1)) S.1 S.2.1 dX8_mayNot_1 (by decide) ?_
    refine lv_icmp_eq (tgt := 38) S.1 S.2.1 dX8_mayNot_2 (by decide) (fun c2 => absurd c2 (enc_ne (by omega))) (fun c2 => ?_)
    rcases opt_cases ob with rfl | ⟨f, rfl⟩
    · skip
      refine lv_iload_n S.1 S.2.1 dX8_mayNot_5 rfl (lv_at hl 2 rfl) ?_
      refine m_top (show enc none = (-1) from rfl) ?_
      refine lv_iconst (v := (-1)) S.1 S.2.1 dX8_mayNot_6 (by decide) ?_
      refine lv_icmp_eq (tgt := 38) S.1 S.2.1 dX8_mayNot_7 (by decide) (fun c3 => ?_) (fun c3 => absurd c3 (fun z => z rfl))
      refine lv_iconst (v := nI 0) S.1 S.2.1 dX8_mayNot_38 (by decide) ?_
      exact m_retz S hr hlocks hw dX8_mayNot_39 rfl ⟨b0_f clB_n2, rfl⟩
    · have hf := hb f rfl
      obtain ⟨kf, hkf8, hkf⟩ := inB_of (hki f hf) (by decide)
      have hkx : kx (M 36) h f = kh * 8 + kf := kx_of hkh hkf hkh8 hkf8
      refine lv_iload_n S.1 S.2.1 dX8_mayNot_5 rfl (lv_at hl 2 rfl) ?_
      refine m_top (show enc (some f) = nI f from rfl) ?_
      refine lv_iconst (v := (-1)) S.1 S.2.1 dX8_mayNot_6 (by decide) ?_
      refine lv_icmp_eq (tgt := 38) S.1 S.2.1 dX8_mayNot_7 (by decide) (fun c4 => absurd c4 (enc_ne (by omega))) (fun c4 => ?_)
      refine lv_aload_n S.1 S.2.1 dX8_mayNot_10 rfl (lv_at hl 0 rfl) ?_
      refine m_getR 34 20 51 S hw (by omega) rfl rfl rfl in_X8 (by decide) wf_X8_69 dX8_mayNot_11 ?_
      refine lv_bipush (v := nI 8) S.1 S.2.1 dX8_mayNot_14 (by decide) ?_
      refine lv_aload_n S.1 S.2.1 dX8_mayNot_16 rfl (lv_at hl 0 rfl) ?_
      refine m_getR 34 3 36 S hw (by omega) rfl rfl rfl in_X8 (by decide) wf_X8_20 dX8_mayNot_17 ?_
      refine lv_iload_n S.1 S.2.1 dX8_mayNot_20 rfl (lv_at hl 1 rfl) ?_
      refine m_top (show enc (some h) = nI h from rfl) ?_
      refine m_ald 36 h S hw (by omega) rfl (by decide) (by omega) rfl dX8_mayNot_21 ?_
      refine m_top (show M 36 h = nI kh from hkh) ?_
      refine lv_imul S.1 S.2.1 dX8_mayNot_22 ?_
      refine m_top (show (nI 8) * (nI kh) = nI (kh * 8) from by rw [pk_mul, Nat.mul_comm]) ?_
      refine lv_aload_n S.1 S.2.1 dX8_mayNot_23 rfl (lv_at hl 0 rfl) ?_
      refine m_getR 34 3 36 S hw (by omega) rfl rfl rfl in_X8 (by decide) wf_X8_20 dX8_mayNot_24 ?_
      refine lv_iload_n S.1 S.2.1 dX8_mayNot_27 rfl (lv_at hl 2 rfl) ?_
      refine m_top (show enc (some f) = nI f from rfl) ?_
      refine m_ald 36 f S hw (by omega) rfl (by decide) (by omega) rfl dX8_mayNot_28 ?_
      refine m_top (show M 36 f = nI kf from hkf) ?_
      refine lv_iadd S.1 S.2.1 dX8_mayNot_29 ?_
      refine m_top (show (nI (kh * 8)) + (nI kf) = nI ((kh * 8) + kf) from nI_add _ _) ?_
      refine m_zld 51 ((kh * 8) + kf) S hw (by omega) rfl (by decide) (by omega) rfl dX8_mayNot_30 ?_
      refine lv_if_eq (tgt := 38) S.1 S.2.1 dX8_mayNot_31 (by decide) (fun c5 => ?_) (fun c5 => ?_)
      · refine lv_iconst (v := nI 0) S.1 S.2.1 dX8_mayNot_38 (by decide) ?_
        exact m_retz S hr hlocks hw dX8_mayNot_39 rfl ⟨b0_f (clN_f hkx c5), rfl⟩
      · refine lv_iconst (v := nI 1) S.1 S.2.1 dX8_mayNot_34 (by decide) ?_
        refine lv_goto (tgt := 39) S.1 S.2.1 dX8_mayNot_35 (by decide) ?_
        exact m_retz S hr hlocks hw dX8_mayNot_39 rfl ⟨b1_t (clN_t hkx c5), rfl⟩

set_option maxHeartbeats 4000000 in
set_option maxRecDepth 100000 in
/-- reference: isWrong -/
theorem c_X8_isWrong (l : Launch) (G : GT) (N K : Nat) (ad : Nat → Nat) (M : Mem) (h61 : 61 ≤ N) (n : Nat) (hn : M 34 1 = nI n) (hn1 : n ≤ 120) (hki : Kin (M 36) n) (j : Nat) (hj : j < n) : CrI l G N K ad yX8_isWrong cX8_isWrong 4 .boolean 2 44 [.ref (ad 34), .int (nI j)] M (b01 (clashB (fun i => b01 (eqB (M 51 i) 0)) (M 36) (M 37) n j)) := by
  refine cm_startI (by decide +kernel) (Nat.le_of_ble_eq_true rfl) ?_
  intro p e s m below meth c ls S hr hlocks hw hl
  have hl : lv_has ls 4 [(0, .ref (ad 34)), (1, .int (nI j))] := hl
  have hpa : ∀ h, nbB (M 37) j = some h → h < n := fun h e => by have := (nbB_lt e).1; omega
  have hpb : ∀ f, nbE (M 37) n j = some f → f < n := fun f e => (nbE_lt e).2.1
  have hpj : ∀ f, some j = some f → f < n := fun f e => by cases e; exact hj
  refine lv_aload_n S.1 S.2.1 dX8_isWrong_0 rfl (lv_at hl 0 rfl) ?_
  refine lv_iload_n S.1 S.2.1 dX8_isWrong_1 rfl (lv_at hl 1 rfl) ?_
  refine lv_iconst (v := (-1)) S.1 S.2.1 dX8_isWrong_2 (by decide) ?_
  refine r_VI (As := [.int (nI j), .int (-1)]) (rest := []) 34 S hw (by omega) rfl rfl (c_X8_neighbourB l G N K ad M h61 n hn hn1 j (by omega)) mf_X8_neighbour wm_X8_149 ⟨by decide, by decide⟩ ⟨Nat.le_refl _, Nat.le_refl _⟩ hl.1 rfl (Nat.le_of_ble_eq_true rfl) dX8_isWrong_3 (fun H locs hw => ?_)
  refine lv_istore_n (lv' := [(2, .int (enc (nbB (M 37) j))), (0, .ref (ad 34)), (1, .int (nI j))]) S.1 S.2.1 dX8_isWrong_6 rfl hl (by decide) rfl (fun ls hl => ?_)
  refine lv_aload_n S.1 S.2.1 dX8_isWrong_7 rfl (lv_at hl 1 rfl) ?_
  refine lv_iload_n S.1 S.2.1 dX8_isWrong_8 rfl (lv_at hl 2 rfl) ?_
  refine lv_iconst (v := nI 1) S.1 S.2.1 dX8_isWrong_9 (by decide) ?_
  refine r_VI (As := [.int (nI j), .int (nI 1)]) (rest := []) 34 S hw (by omega) rfl rfl (c_X8_neighbourE l G N K ad M h61 n hn hn1 j (by omega)) mf_X8_neighbour wm_X8_149 ⟨by decide, by decide⟩ ⟨Nat.le_refl _, Nat.le_refl _⟩ hl.1 rfl (Nat.le_of_ble_eq_true rfl) dX8_isWrong_10 (fun H locs hw => ?_)
  refine lv_istore_n (lv' := [(3, .int (enc (nbE (M 37) n j))), (2, .int (enc (nbB (M 37) j))), (0, .ref (ad 34)), (1, .int (nI j))]) S.1 S.2.1 dX8_isWrong_13 rfl hl (by decide) rfl (fun ls hl => ?_)
  refine lv_aload_n S.1 S.2.1 dX8_isWrong_14 rfl (lv_at hl 2 rfl) ?_
  refine lv_iload_n S.1 S.2.1 dX8_isWrong_15 rfl (lv_at hl 3 rfl) ?_
  refine r_VI (As := [.int (nI j)]) (rest := []) 34 S hw (by omega) rfl rfl (c_X8_isPure l G N K ad M h61 j (by omega)) mf_X8_isPure wm_X8_146 ⟨by decide, by decide⟩ ⟨Nat.le_refl _, Nat.le_refl _⟩ hl.1 rfl (Nat.le_of_ble_eq_true rfl) dX8_isWrong_16 (fun H locs hw => ?_)
  refine b_eq (tgt := 48) S dX8_isWrong_19 (by decide) (fun c1 => ?_) (fun c1 => ?_)
  · refine lv_aload_n S.1 S.2.1 dX8_isWrong_48 rfl (lv_at hl 2 rfl) ?_
    refine lv_iload_n S.1 S.2.1 dX8_isWrong_49 rfl (lv_at hl 1 rfl) ?_
    refine lv_iload_n S.1 S.2.1 dX8_isWrong_50 rfl (lv_at hl 0 rfl) ?_
    refine r_VI (As := [.int (enc (nbB (M 37) j)), .int (enc (nbE (M 37) n j))]) (rest := []) 34 S hw (by omega) rfl rfl (c_X8_mayNot l G N K ad M h61 n hn1 hki (nbB (M 37) j) (nbE (M 37) n j) (by first | exact hpa | exact hpj) (by first | exact hpj | exact hpb)) mf_X8_mayNot wm_X8_153 ⟨by decide, by decide⟩ ⟨Nat.le_refl _, Nat.le_refl _⟩ hl.1 rfl (Nat.le_of_ble_eq_true rfl) dX8_isWrong_51 (fun H locs hw => ?_)
    exact m_retz S hr hlocks hw dX8_isWrong_54 (b01_n _) ⟨by rw [clash_n c1], rfl⟩
  · refine lv_aload_n S.1 S.2.1 dX8_isWrong_22 rfl (lv_at hl 2 rfl) ?_
    refine lv_iload_n S.1 S.2.1 dX8_isWrong_23 rfl (lv_at hl 1 rfl) ?_
    refine lv_iload_n S.1 S.2.1 dX8_isWrong_24 rfl (lv_at hl 3 rfl) ?_
    refine r_VI (As := [.int (enc (nbB (M 37) j)), .int (nI j)]) (rest := []) 34 S hw (by omega) rfl rfl (c_X8_mayNot l G N K ad M h61 n hn1 hki (nbB (M 37) j) (some j) (by first | exact hpa | exact hpj) (by first | exact hpj | exact hpb)) mf_X8_mayNot wm_X8_153 ⟨by decide, by decide⟩ ⟨Nat.le_refl _, Nat.le_refl _⟩ hl.1 rfl (Nat.le_of_ble_eq_true rfl) dX8_isWrong_25 (fun H locs hw => ?_)
    refine b_ne (tgt := 40) S dX8_isWrong_28 (by decide) (fun c2 => ?_) (fun c2 => ?_)
    · refine lv_iconst (v := nI 1) S.1 S.2.1 dX8_isWrong_40 (by decide) ?_
      refine lv_goto (tgt := 54) S.1 S.2.1 dX8_isWrong_41 (by decide) ?_
      exact m_retz S hr hlocks hw dX8_isWrong_54 rfl ⟨b1_t ((clash_p c1).trans (or_t1 c2)), rfl⟩
    · refine lv_aload_n S.1 S.2.1 dX8_isWrong_31 rfl (lv_at hl 2 rfl) ?_
      refine lv_iload_n S.1 S.2.1 dX8_isWrong_32 rfl (lv_at hl 3 rfl) ?_
      refine lv_iload_n S.1 S.2.1 dX8_isWrong_33 rfl (lv_at hl 0 rfl) ?_
      refine r_VI (As := [.int (nI j), .int (enc (nbE (M 37) n j))]) (rest := []) 34 S hw (by omega) rfl rfl (c_X8_mayNot l G N K ad M h61 n hn1 hki (some j) (nbE (M 37) n j) (by first | exact hpa | exact hpj) (by first | exact hpj | exact hpb)) mf_X8_mayNot wm_X8_153 ⟨by decide, by decide⟩ ⟨Nat.le_refl _, Nat.le_refl _⟩ hl.1 rfl (Nat.le_of_ble_eq_true rfl) dX8_isWrong_34 (fun H locs hw => ?_)
      refine b_eq (tgt := 44) S dX8_isWrong_37 (by decide) (fun c3 => ?_) (fun c3 => ?_)
      · refine lv_iconst (v := nI 0) S.1 S.2.1 dX8_isWrong_44 (by decide) ?_
        refine lv_goto (tgt := 54) S.1 S.2.1 dX8_isWrong_45 (by decide) ?_
        exact m_retz S hr hlocks hw dX8_isWrong_54 rfl ⟨b0_f ((clash_p c1).trans (or_f c2 c3)), rfl⟩
      · refine lv_iconst (v := nI 1) S.1 S.2.1 dX8_isWrong_40 (by decide) ?_
        refine lv_goto (tgt := 54) S.1 S.2.1 dX8_isWrong_41 (by decide) ?_
        exact m_retz S hr hlocks hw dX8_isWrong_54 rfl ⟨b1_t ((clash_p c1).trans (or_t2 c3)), rfl⟩

set_option maxHeartbeats 4000000 in
set_option maxRecDepth 100000 in
/-- reference: fits -/
theorem c_X8_fits (l : Launch) (G : GT) (N K : Nat) (ad : Nat → Nat) (M : Mem) (h61 : 61 ≤ N) (d ka : Nat) (hd : d < 6) (hka : ka < 8) : CrI l G N K ad yX8_fits cX8_fits 2 .boolean 0 0 [.ref (ad 34), .int (nI (d * 8 + ka))] M (b01 (!eqB (M 45 (d * 8 + ka)) 0 && bearB (M 49) (M 48) (M 53 ka) (d * 8 + ka))) := by
  refine cm_startI (by decide +kernel) (Nat.le_of_ble_eq_true rfl) ?_
  intro p e s m below meth c ls S hr hlocks hw hl
  have hl : lv_has ls 2 [(0, .ref (ad 34)), (1, .int (nI (d * 8 + ka)))] := hl
  refine lv_aload_n S.1 S.2.1 dX8_fits_0 rfl (lv_at hl 0 rfl) ?_
  refine m_getR 34 14 45 S hw (by omega) rfl rfl rfl in_X8 (by decide) wf_X8_50 dX8_fits_1 ?_
  refine lv_iload_n S.1 S.2.1 dX8_fits_4 rfl (lv_at hl 1 rfl) ?_
  refine m_zld 45 (d * 8 + ka) S hw (by omega) rfl (by decide) (by omega) rfl dX8_fits_5 ?_
  refine lv_if_eq (tgt := 45) S.1 S.2.1 dX8_fits_6 (by decide) (fun c1 => ?_) (fun c1 => ?_)
  · refine lv_iconst (v := nI 0) S.1 S.2.1 dX8_fits_45 (by decide) ?_
    exact m_retz S hr hlocks hw dX8_fits_46 rfl ⟨b0_f (and_f1 (by rw [eqB_t c1]; rfl)), rfl⟩
  · refine lv_bipush (v := nI 100) S.1 S.2.1 dX8_fits_9 (by decide) ?_
    refine lv_aload_n S.1 S.2.1 dX8_fits_11 rfl (lv_at hl 0 rfl) ?_
    refine m_getR 34 18 49 S hw (by omega) rfl rfl rfl in_X8 (by decide) wf_X8_63 dX8_fits_12 ?_
    refine lv_iload_n S.1 S.2.1 dX8_fits_15 rfl (lv_at hl 1 rfl) ?_
    refine m_ald 49 (d * 8 + ka) S hw (by omega) rfl (by decide) (by omega) rfl dX8_fits_16 ?_
    refine lv_iconst (v := nI 1) S.1 S.2.1 dX8_fits_17 (by decide) ?_
    refine lv_iadd S.1 S.2.1 dX8_fits_18 ?_
    refine lv_imul S.1 S.2.1 dX8_fits_19 ?_
    refine lv_aload_n S.1 S.2.1 dX8_fits_20 rfl (lv_at hl 0 rfl) ?_
    refine m_getR 34 22 53 S hw (by omega) rfl rfl rfl in_X8 (by decide) wf_X8_75 dX8_fits_21 ?_
    refine lv_iload_n S.1 S.2.1 dX8_fits_24 rfl (lv_at hl 1 rfl) ?_
    refine lv_bipush (v := nI 8) S.1 S.2.1 dX8_fits_25 (by decide) ?_
    refine lv_irem S.1 S.2.1 dX8_fits_27 (by decide) ?_
    refine m_top (show (nI (d * 8 + ka)) - (nI (d * 8 + ka)) / (nI 8) * (nI 8) = nI ka from by rw [pk_rem (by omega) (by decide) (by decide), show (d * 8 + ka) % 8 = ka by omega]) ?_
    refine m_ald 53 ka S hw (by omega) rfl (by decide) (by omega) rfl dX8_fits_28 ?_
    refine lv_aload_n S.1 S.2.1 dX8_fits_29 rfl (lv_at hl 0 rfl) ?_
    refine m_getR 34 17 48 S hw (by omega) rfl rfl rfl in_X8 (by decide) wf_X8_60 dX8_fits_30 ?_
    refine lv_iload_n S.1 S.2.1 dX8_fits_33 rfl (lv_at hl 1 rfl) ?_
    refine m_ald 48 (d * 8 + ka) S hw (by omega) rfl (by decide) (by omega) rfl dX8_fits_34 ?_
    refine lv_iconst (v := nI 1) S.1 S.2.1 dX8_fits_35 (by decide) ?_
    refine lv_iadd S.1 S.2.1 dX8_fits_36 ?_
    refine lv_imul S.1 S.2.1 dX8_fits_37 ?_
    refine lv_icmp_gt (tgt := 45) S.1 S.2.1 dX8_fits_38 (by decide) (fun c2 => ?_) (fun c2 => ?_)
    · refine lv_iconst (v := nI 0) S.1 S.2.1 dX8_fits_45 (by decide) ?_
      exact m_retz S hr hlocks hw dX8_fits_46 rfl ⟨b0_f (and_f2 (bear_f c2)), rfl⟩
    · refine lv_iconst (v := nI 1) S.1 S.2.1 dX8_fits_41 (by decide) ?_
      refine lv_goto (tgt := 46) S.1 S.2.1 dX8_fits_42 (by decide) ?_
      exact m_retz S hr hlocks hw dX8_fits_46 rfl ⟨b1_t (and_t (by rw [eqB_f c1]; rfl) (bear_t c2)), rfl⟩

set_option maxHeartbeats 4000000 in
set_option maxRecDepth 100000 in
/-- reference: late -/
theorem c_X8_late (l : Launch) (G : GT) (N K : Nat) (ad : Nat → Nat) (M : Mem) (h61 : 61 ≤ N) (w : Nat) (hw1 : w < 20) : CrI l G N K ad yX8_late cX8_late 3 .int 0 0 [.ref (ad 34), .int (nI w)] M (lateS (M 59) (M 57) (M 34 24) w) := by
  refine cm_startI (by decide +kernel) (Nat.le_of_ble_eq_true rfl) ?_
  intro p e s m below meth c ls S hr hlocks hw hl
  have hl : lv_has ls 3 [(0, .ref (ad 34)), (1, .int (nI w))] := hl
  refine lv_aload_n S.1 S.2.1 dX8_late_0 rfl (lv_at hl 0 rfl) ?_
  refine m_getR 34 31 59 S hw (by omega) rfl rfl rfl in_X8 (by decide) wf_X8_93 dX8_late_1 ?_
  refine lv_iload_n S.1 S.2.1 dX8_late_4 rfl (lv_at hl 1 rfl) ?_
  refine m_ald 59 w S hw (by omega) rfl (by decide) (by omega) rfl dX8_late_5 ?_
  refine lv_iconst (v := (-1)) S.1 S.2.1 dX8_late_6 (by decide) ?_
  refine lv_icmp_ne (tgt := 17) S.1 S.2.1 dX8_late_7 (by decide) (fun c1 => ?_) (fun c1 => ?_)
  · refine lv_aload_n S.1 S.2.1 dX8_late_17 rfl (lv_at hl 0 rfl) ?_
    refine m_getR 34 31 59 S hw (by omega) rfl rfl rfl in_X8 (by decide) wf_X8_93 dX8_late_18 ?_
    refine lv_iload_n S.1 S.2.1 dX8_late_21 rfl (lv_at hl 1 rfl) ?_
    refine m_ald 59 w S hw (by omega) rfl (by decide) (by omega) rfl dX8_late_22 ?_
    refine lv_aload_n S.1 S.2.1 dX8_late_23 rfl (lv_at hl 0 rfl) ?_
    refine m_getR 34 29 57 S hw (by omega) rfl rfl rfl in_X8 (by decide) wf_X8_87 dX8_late_24 ?_
    refine lv_iload_n S.1 S.2.1 dX8_late_27 rfl (lv_at hl 1 rfl) ?_
    refine m_ald 57 w S hw (by omega) rfl (by decide) (by omega) rfl dX8_late_28 ?_
    refine lv_isub S.1 S.2.1 dX8_late_29 ?_
    refine lv_istore_n (lv' := [(2, .int ((M 59 w) - (M 57 w))), (0, .ref (ad 34)), (1, .int (nI w))]) S.1 S.2.1 dX8_late_30 rfl hl (by decide) rfl (fun ls hl => ?_)
    refine lv_iload_n S.1 S.2.1 dX8_late_31 rfl (lv_at hl 0 rfl) ?_
    refine lv_if_le (tgt := 39) S.1 S.2.1 dX8_late_32 (by decide) (fun c2 => ?_) (fun c2 => ?_)
    · refine lv_iconst (v := nI 0) S.1 S.2.1 dX8_late_39 (by decide) ?_
      exact m_reti S hr hlocks hw dX8_late_40 ⟨by rw [lateS, eqB_f c1, if_neg Bool.false_ne_true, if_neg (show ¬ nI 0 < _ from fun z => Int32.not_lt.mpr c2 z)], rfl⟩
    · refine lv_iload_n S.1 S.2.1 dX8_late_35 rfl (lv_at hl 0 rfl) ?_
      refine lv_goto (tgt := 40) S.1 S.2.1 dX8_late_36 (by decide) ?_
      exact m_reti S hr hlocks hw dX8_late_40 ⟨by rw [lateS, eqB_f c1, if_neg Bool.false_ne_true, if_pos (show nI 0 < _ from Int32.not_le.mp c2)], rfl⟩
  · refine lv_aload_n S.1 S.2.1 dX8_late_10 rfl (lv_at hl 0 rfl) ?_
    refine m_getI 34 24 S hw (by omega) rfl rfl rfl in_X8 (by decide) wf_X8_114 dX8_late_11 ?_
    refine lv_goto (tgt := 23) S.1 S.2.1 dX8_late_14 (by decide) ?_
    refine lv_aload_n S.1 S.2.1 dX8_late_23 rfl (lv_at hl 0 rfl) ?_
    refine m_getR 34 29 57 S hw (by omega) rfl rfl rfl in_X8 (by decide) wf_X8_87 dX8_late_24 ?_
    refine lv_iload_n S.1 S.2.1 dX8_late_27 rfl (lv_at hl 1 rfl) ?_
    refine m_ald 57 w S hw (by omega) rfl (by decide) (by omega) rfl dX8_late_28 ?_
    refine lv_isub S.1 S.2.1 dX8_late_29 ?_
    refine lv_istore_n (lv' := [(2, .int ((M 34 24) - (M 57 w))), (0, .ref (ad 34)), (1, .int (nI w))]) S.1 S.2.1 dX8_late_30 rfl hl (by decide) rfl (fun ls hl => ?_)
    refine lv_iload_n S.1 S.2.1 dX8_late_31 rfl (lv_at hl 0 rfl) ?_
    refine lv_if_le (tgt := 39) S.1 S.2.1 dX8_late_32 (by decide) (fun c3 => ?_) (fun c3 => ?_)
    · refine lv_iconst (v := nI 0) S.1 S.2.1 dX8_late_39 (by decide) ?_
      exact m_reti S hr hlocks hw dX8_late_40 ⟨by rw [lateS, eqB_t c1, if_pos rfl, if_neg (show ¬ nI 0 < _ from fun z => Int32.not_lt.mpr c3 z)], rfl⟩
    · refine lv_iload_n S.1 S.2.1 dX8_late_35 rfl (lv_at hl 0 rfl) ?_
      refine lv_goto (tgt := 40) S.1 S.2.1 dX8_late_36 (by decide) ?_
      exact m_reti S hr hlocks hw dX8_late_40 ⟨by rw [lateS, eqB_t c1, if_pos rfl, if_pos (show nI 0 < _ from Int32.not_le.mp c3)], rfl⟩
