set_option maxHeartbeats 4000000 in
set_option maxRecDepth 100000 in
/-- OilLine.at -/
theorem c_X7_at (l : Launch) (G : GT) (N K : Nat) (ad : Nat → Nat) (M : Mem) (h34 : 34 ≤ N) (n : Nat) (hn : M 21 0 = nI n) (hn1 : n ≤ 120) (x y : Int32) : CrI l G N K ad yX7_at cX7_at 4 .int 3 65 [.ref (ad 0), .int x, .int y] M (ifA (inB x n) (swA y [M 22 (tn x), M 23 (tn x), M 24 (tn x), ifA (bord (M 24) (M 23) (tn x)).isSome (M 25 (tn x)) (nI 0)]) (-1)) := by
  refine cm_startI (by decide +kernel) (Nat.le_of_ble_eq_true rfl) ?_
  intro p e s m below meth c ls S hr hlocks hw hl
  have hl : lv_has ls 4 [(0, .ref (ad 0)), (1, .int x), (2, .int y)] := hl
  refine lv_aload_n S.1 S.2.1 dX7_at_0 rfl (lv_at hl 0 rfl) ?_
  refine m_getR 0 6 20 S hw (by omega) rfl rfl rfl in_X7 (by decide) wf_X7_47 dX7_at_1 ?_
  refine m_getR 20 3 21 S hw (by omega) rfl rfl rfl in_X1 (by decide) wf_X7_73 dX7_at_4 ?_
  refine lv_astore_n (lv' := [(3, .ref (ad 21)), (0, .ref (ad 0)), (1, .int x), (2, .int y)]) S.1 S.2.1 dX7_at_7 rfl hl (by decide) rfl (fun ls hl => ?_)
  refine lv_iload_n S.1 S.2.1 dX7_at_8 rfl (lv_at hl 2 rfl) ?_
  refine lv_iconst (v := nI 0) S.1 S.2.1 dX7_at_9 (by decide) ?_
  refine lv_aload_n S.1 S.2.1 dX7_at_10 rfl (lv_at hl 0 rfl) ?_
  refine m_getI 21 0 S hw (by omega) rfl rfl rfl in_X2 (by decide) wf_X7_77 dX7_at_11 ?_
  refine m_top (show M 21 0 = nI n from hn) ?_
  refine lv_iconst (v := nI 1) S.1 S.2.1 dX7_at_14 (by decide) ?_
  refine lv_isub S.1 S.2.1 dX7_at_15 ?_
  refine r_SI (As := [.int x, .int (nI 0), .int ((nI n) - (nI 1))]) (rest := []) S hw (c_X7_within l G N K ad M x (nI 0) ((nI n) - (nI 1))) mf_X7_within wm_X7_63 ⟨by decide, by decide⟩ ⟨Nat.le_refl _, Nat.le_refl _⟩ hl.1 rfl (Nat.le_of_ble_eq_true rfl) dX7_at_16 (fun H locs hw => ?_)
  refine b_ne (tgt := 24) S dX7_at_19 (by decide) (fun c1 => ?_) (fun c1 => ?_)
  · have hyes : inB x n = true := ((wi_pred x (by omega)).symm.trans c1)
    obtain ⟨a, ha, ea⟩ := inB_of hyes (by omega)
    have ta : tn x = a := tn_of ea (by omega)
    refine lv_iload_n S.1 S.2.1 dX7_at_24 rfl (lv_at hl 3 rfl) ?_
    rcases sw_cases y 3 with hsw2 | ⟨jsw2, hj2, hsw2⟩
    · refine lv_tableOut (tgt := 96) S.1 S.2.1 dX7_at_25 hsw2 (by decide) ?_
      refine lv_iconst (v := (-1)) S.1 S.2.1 dX7_at_96 (by decide) ?_
      exact m_reti S hr hlocks hw dX7_at_97 ⟨by rw [ifA_t hyes, swA_o hsw2 rfl], rfl⟩
    · rcases (show jsw2 = 0 ∨ jsw2 = 1 ∨ jsw2 = 2 ∨ jsw2 = 3 by omega) with rfl | rfl | rfl | rfl
      · refine lv_tableIn (off := 31) (tgt := 56) S.1 S.2.1 dX7_at_25 (by rw [hsw2]; decide) (by rw [hsw2]; decide) (by rw [hsw2]; rfl) (by decide) ?_
        refine lv_aload_n S.1 S.2.1 dX7_at_56 rfl (lv_at hl 0 rfl) ?_
        refine m_getR 21 1 22 S hw (by omega) rfl rfl rfl in_X2 (by decide) wf_X7_166 dX7_at_57 ?_
        refine lv_iload_n S.1 S.2.1 dX7_at_60 rfl (lv_at hl 2 rfl) ?_
        refine m_top (show x = nI a from ea) ?_
        refine m_ald 22 a S hw (by omega) rfl (by decide) (by omega) rfl dX7_at_61 ?_
        exact m_reti S hr hlocks hw dX7_at_62 ⟨by rw [ifA_t hyes, swA_at (j := 0) hsw2, ta]; first | done | rfl, rfl⟩
      · refine lv_tableIn (off := 38) (tgt := 63) S.1 S.2.1 dX7_at_25 (by rw [hsw2]; decide) (by rw [hsw2]; decide) (by rw [hsw2]; rfl) (by decide) ?_
        refine lv_aload_n S.1 S.2.1 dX7_at_63 rfl (lv_at hl 0 rfl) ?_
        refine m_getR 21 2 23 S hw (by omega) rfl rfl rfl in_X2 (by decide) wf_X7_169 dX7_at_64 ?_
        refine lv_iload_n S.1 S.2.1 dX7_at_67 rfl (lv_at hl 2 rfl) ?_
        refine m_top (show x = nI a from ea) ?_
        refine m_ald 23 a S hw (by omega) rfl (by decide) (by omega) rfl dX7_at_68 ?_
        exact m_reti S hr hlocks hw dX7_at_69 ⟨by rw [ifA_t hyes, swA_at (j := 1) hsw2, ta]; first | done | rfl, rfl⟩
      · refine lv_tableIn (off := 45) (tgt := 70) S.1 S.2.1 dX7_at_25 (by rw [hsw2]; decide) (by rw [hsw2]; decide) (by rw [hsw2]; rfl) (by decide) ?_
        refine lv_aload_n S.1 S.2.1 dX7_at_70 rfl (lv_at hl 0 rfl) ?_
        refine m_getR 21 3 24 S hw (by omega) rfl rfl rfl in_X2 (by decide) wf_X7_172 dX7_at_71 ?_
        refine lv_iload_n S.1 S.2.1 dX7_at_74 rfl (lv_at hl 2 rfl) ?_
        refine m_top (show x = nI a from ea) ?_
        refine m_ald 24 a S hw (by omega) rfl (by decide) (by omega) rfl dX7_at_75 ?_
        exact m_reti S hr hlocks hw dX7_at_76 ⟨by rw [ifA_t hyes, swA_at (j := 2) hsw2, ta]; first | done | rfl, rfl⟩
      · refine lv_tableIn (off := 52) (tgt := 77) S.1 S.2.1 dX7_at_25 (by rw [hsw2]; decide) (by rw [hsw2]; decide) (by rw [hsw2]; rfl) (by decide) ?_
        refine lv_aload_n S.1 S.2.1 dX7_at_77 rfl (lv_at hl 0 rfl) ?_
        refine lv_iload_n S.1 S.2.1 dX7_at_78 rfl (lv_at hl 2 rfl) ?_
        refine m_top (show x = nI a from ea) ?_
        refine r_VI (As := [.int (nI a)]) (rest := []) 21 S hw (by omega) rfl rfl (c_X2_isBorder l G N K ad M 20 (isM20 (by omega)) a (by omega)) mf_X2_isBorder wm_X7_175 ⟨by decide, by decide⟩ ⟨Nat.le_refl _, Nat.le_refl _⟩ hl.1 rfl (Nat.le_of_ble_eq_true rfl) dX7_at_79 (fun H locs hw => ?_)
        refine b_eq (tgt := 94) S dX7_at_82 (by decide) (fun c3 => ?_) (fun c3 => ?_)
        · refine lv_iconst (v := nI 0) S.1 S.2.1 dX7_at_94 (by decide) ?_
          exact m_reti S hr hlocks hw dX7_at_95 ⟨by rw [ifA_t hyes, swA_at (j := 3) hsw2, show ([M 22 (tn x), M 23 (tn x), M 24 (tn x), ifA (bord (M 24) (M 23) (tn x)).isSome (M 25 (tn x)) (nI 0)] : List Int32).getD 3 (-1) = ifA (bord (M 24) (M 23) (tn x)).isSome (M 25 (tn x)) (nI 0) from rfl, ta, ifA_f c3]; first | done | rfl, rfl⟩
        · refine lv_aload_n S.1 S.2.1 dX7_at_85 rfl (lv_at hl 0 rfl) ?_
          refine m_getR 21 4 25 S hw (by omega) rfl rfl rfl in_X2 (by decide) wf_X7_178 dX7_at_86 ?_
          refine lv_iload_n S.1 S.2.1 dX7_at_89 rfl (lv_at hl 2 rfl) ?_
          refine m_top (show x = nI a from ea) ?_
          refine m_ald 25 a S hw (by omega) rfl (by decide) (by omega) rfl dX7_at_90 ?_
          refine lv_goto (tgt := 95) S.1 S.2.1 dX7_at_91 (by decide) ?_
          exact m_reti S hr hlocks hw dX7_at_95 ⟨by rw [ifA_t hyes, swA_at (j := 3) hsw2, show ([M 22 (tn x), M 23 (tn x), M 24 (tn x), ifA (bord (M 24) (M 23) (tn x)).isSome (M 25 (tn x)) (nI 0)] : List Int32).getD 3 (-1) = ifA (bord (M 24) (M 23) (tn x)).isSome (M 25 (tn x)) (nI 0) from rfl, ta, ifA_t c3]; first | done | rfl, rfl⟩
  · refine lv_iconst (v := (-1)) S.1 S.2.1 dX7_at_22 (by decide) ?_
    exact m_reti S hr hlocks hw dX7_at_23 ⟨by rw [ifA_f ((wi_pred x (by omega)).symm.trans c1)], rfl⟩

set_option maxHeartbeats 4000000 in
set_option maxRecDepth 100000 in
/-- OilLine.batch -/
theorem c_X7_batch (l : Launch) (G : GT) (N K : Nat) (ad : Nat → Nat) (M : Mem) (h34 : 34 ≤ N) (n : Nat) (hn : M 21 0 = nI n) (hn1 : n ≤ 120) (bn : Nat) (hbn : M 20 2 = nI bn) (hbn1 : bn ≤ 200) (x y : Int32) : CrI l G N K ad yX7_batch cX7_batch 3 .int 1 23 [.ref (ad 0), .int x, .int y] M (ifA (inB x bn) (swA y [M 18 (tn x), nI (cntB (fun j => eqB (M 22 j) x) n), enc (fstE (fun j => eqB (M 22 j) x) n 0), enc (lstB (fun j => eqB (M 22 j) x) n), M 31 (tn x), M 19 (tn x)]) (-1)) := by
  refine cm_startI (by decide +kernel) (Nat.le_of_ble_eq_true rfl) ?_
  intro p e s m below meth c ls S hr hlocks hw hl
  have hl : lv_has ls 3 [(0, .ref (ad 0)), (1, .int x), (2, .int y)] := hl
  refine lv_iload_n S.1 S.2.1 dX7_batch_0 rfl (lv_at hl 1 rfl) ?_
  refine lv_iconst (v := nI 0) S.1 S.2.1 dX7_batch_1 (by decide) ?_
  refine lv_aload_n S.1 S.2.1 dX7_batch_2 rfl (lv_at hl 0 rfl) ?_
  refine m_getR 0 6 20 S hw (by omega) rfl rfl rfl in_X7 (by decide) wf_X7_47 dX7_batch_3 ?_
  refine m_getI 20 2 S hw (by omega) rfl rfl rfl in_X1 (by decide) wf_X7_160 dX7_batch_6 ?_
  refine m_top (show M 20 2 = nI bn from hbn) ?_
  refine lv_iconst (v := nI 1) S.1 S.2.1 dX7_batch_9 (by decide) ?_
  refine lv_isub S.1 S.2.1 dX7_batch_10 ?_
  refine r_SI (As := [.int x, .int (nI 0), .int ((nI bn) - (nI 1))]) (rest := []) S hw (c_X7_within l G N K ad M x (nI 0) ((nI bn) - (nI 1))) mf_X7_within wm_X7_63 ⟨by decide, by decide⟩ ⟨Nat.le_refl _, Nat.le_refl _⟩ hl.1 rfl (Nat.le_of_ble_eq_true rfl) dX7_batch_11 (fun H locs hw => ?_)
  refine b_ne (tgt := 19) S dX7_batch_14 (by decide) (fun c1 => ?_) (fun c1 => ?_)
  · have hyes : inB x bn = true := ((wi_pred x (by omega)).symm.trans c1)
    obtain ⟨a, ha, ea⟩ := inB_of hyes (by omega)
    have ta : tn x = a := tn_of ea (by omega)
    refine lv_iload_n S.1 S.2.1 dX7_batch_19 rfl (lv_at hl 2 rfl) ?_
    rcases sw_cases y 5 with hsw2 | ⟨jsw2, hj2, hsw2⟩
    · refine lv_tableOut (tgt := 120) S.1 S.2.1 dX7_batch_20 hsw2 (by decide) ?_
      refine lv_iconst (v := (-1)) S.1 S.2.1 dX7_batch_120 (by decide) ?_
      exact m_reti S hr hlocks hw dX7_batch_121 ⟨by rw [ifA_t hyes, swA_o hsw2 rfl], rfl⟩
    · rcases (show jsw2 = 0 ∨ jsw2 = 1 ∨ jsw2 = 2 ∨ jsw2 = 3 ∨ jsw2 = 4 ∨ jsw2 = 5 by omega) with rfl | rfl | rfl | rfl | rfl | rfl
      · refine lv_tableIn (off := 40) (tgt := 60) S.1 S.2.1 dX7_batch_20 (by rw [hsw2]; decide) (by rw [hsw2]; decide) (by rw [hsw2]; rfl) (by decide) ?_
        refine lv_aload_n S.1 S.2.1 dX7_batch_60 rfl (lv_at hl 0 rfl) ?_
        refine m_getR 0 4 18 S hw (by omega) rfl rfl rfl in_X7 (by decide) wf_X7_37 dX7_batch_61 ?_
        refine lv_iload_n S.1 S.2.1 dX7_batch_64 rfl (lv_at hl 1 rfl) ?_
        refine m_top (show x = nI a from ea) ?_
        refine m_ald 18 a S hw (by omega) rfl (by decide) (by omega) rfl dX7_batch_65 ?_
        exact m_reti S hr hlocks hw dX7_batch_66 ⟨by rw [ifA_t hyes, swA_at (j := 0) hsw2, ta]; first | done | rfl, rfl⟩
      · refine lv_tableIn (off := 47) (tgt := 67) S.1 S.2.1 dX7_batch_20 (by rw [hsw2]; decide) (by rw [hsw2]; decide) (by rw [hsw2]; rfl) (by decide) ?_
        refine lv_aload_n S.1 S.2.1 dX7_batch_67 rfl (lv_at hl 0 rfl) ?_
        refine m_getR 0 6 20 S hw (by omega) rfl rfl rfl in_X7 (by decide) wf_X7_47 dX7_batch_68 ?_
        refine m_getR 20 3 21 S hw (by omega) rfl rfl rfl in_X1 (by decide) wf_X7_73 dX7_batch_71 ?_
        refine lv_iload_n S.1 S.2.1 dX7_batch_74 rfl (lv_at hl 1 rfl) ?_
        refine m_top (show x = nI a from ea) ?_
        refine r_VI (As := [.int (nI a)]) (rest := []) 21 S hw (by omega) rfl rfl (c_X2_countOf l G N K ad M 20 (isM20 (by omega)) n hn hn1 (nI a)) mf_X2_countOf wm_X7_181 ⟨by decide, by decide⟩ ⟨Nat.le_refl _, Nat.le_refl _⟩ hl.1 rfl (Nat.le_of_ble_eq_true rfl) dX7_batch_75 (fun H locs hw => ?_)
        exact m_reti S hr hlocks hw dX7_batch_78 ⟨by rw [ifA_t hyes, swA_at (j := 1) hsw2, ea]; first | done | rfl, rfl⟩
      · refine lv_tableIn (off := 59) (tgt := 79) S.1 S.2.1 dX7_batch_20 (by rw [hsw2]; decide) (by rw [hsw2]; decide) (by rw [hsw2]; rfl) (by decide) ?_
        refine lv_aload_n S.1 S.2.1 dX7_batch_79 rfl (lv_at hl 0 rfl) ?_
        refine m_getR 0 6 20 S hw (by omega) rfl rfl rfl in_X7 (by decide) wf_X7_47 dX7_batch_80 ?_
        refine m_getR 20 3 21 S hw (by omega) rfl rfl rfl in_X1 (by decide) wf_X7_73 dX7_batch_83 ?_
        refine lv_iload_n S.1 S.2.1 dX7_batch_86 rfl (lv_at hl 1 rfl) ?_
        refine m_top (show x = nI a from ea) ?_
        refine r_VI (As := [.int (nI a)]) (rest := []) 21 S hw (by omega) rfl rfl (c_X2_leastOf l G N K ad M 20 (isM20 (by omega)) n hn hn1 (nI a)) mf_X2_leastOf wm_X7_184 ⟨by decide, by decide⟩ ⟨Nat.le_refl _, Nat.le_refl _⟩ hl.1 rfl (Nat.le_of_ble_eq_true rfl) dX7_batch_87 (fun H locs hw => ?_)
        exact m_reti S hr hlocks hw dX7_batch_90 ⟨by rw [ifA_t hyes, swA_at (j := 2) hsw2, ea]; first | done | rfl, rfl⟩
      · refine lv_tableIn (off := 71) (tgt := 91) S.1 S.2.1 dX7_batch_20 (by rw [hsw2]; decide) (by rw [hsw2]; decide) (by rw [hsw2]; rfl) (by decide) ?_
        refine lv_aload_n S.1 S.2.1 dX7_batch_91 rfl (lv_at hl 0 rfl) ?_
        refine m_getR 0 6 20 S hw (by omega) rfl rfl rfl in_X7 (by decide) wf_X7_47 dX7_batch_92 ?_
        refine m_getR 20 3 21 S hw (by omega) rfl rfl rfl in_X1 (by decide) wf_X7_73 dX7_batch_95 ?_
        refine lv_iload_n S.1 S.2.1 dX7_batch_98 rfl (lv_at hl 1 rfl) ?_
        refine m_top (show x = nI a from ea) ?_
        refine r_VI (As := [.int (nI a)]) (rest := []) 21 S hw (by omega) rfl rfl (c_X2_greatestOf l G N K ad M 20 (isM20 (by omega)) n hn hn1 (nI a)) mf_X2_greatestOf wm_X7_187 ⟨by decide, by decide⟩ ⟨Nat.le_refl _, Nat.le_refl _⟩ hl.1 rfl (Nat.le_of_ble_eq_true rfl) dX7_batch_99 (fun H locs hw => ?_)
        exact m_reti S hr hlocks hw dX7_batch_102 ⟨by rw [ifA_t hyes, swA_at (j := 3) hsw2, ea]; first | done | rfl, rfl⟩
      · refine lv_tableIn (off := 83) (tgt := 103) S.1 S.2.1 dX7_batch_20 (by rw [hsw2]; decide) (by rw [hsw2]; decide) (by rw [hsw2]; rfl) (by decide) ?_
        refine lv_aload_n S.1 S.2.1 dX7_batch_103 rfl (lv_at hl 0 rfl) ?_
        refine m_getR 0 6 20 S hw (by omega) rfl rfl rfl in_X7 (by decide) wf_X7_47 dX7_batch_104 ?_
        refine m_getR 20 5 31 S hw (by omega) rfl rfl rfl in_X1 (by decide) wf_X7_190 dX7_batch_107 ?_
        refine lv_iload_n S.1 S.2.1 dX7_batch_110 rfl (lv_at hl 1 rfl) ?_
        refine m_top (show x = nI a from ea) ?_
        refine m_ald 31 a S hw (by omega) rfl (by decide) (by omega) rfl dX7_batch_111 ?_
        exact m_reti S hr hlocks hw dX7_batch_112 ⟨by rw [ifA_t hyes, swA_at (j := 4) hsw2, ta]; first | done | rfl, rfl⟩
      · refine lv_tableIn (off := 93) (tgt := 113) S.1 S.2.1 dX7_batch_20 (by rw [hsw2]; decide) (by rw [hsw2]; decide) (by rw [hsw2]; rfl) (by decide) ?_
        refine lv_aload_n S.1 S.2.1 dX7_batch_113 rfl (lv_at hl 0 rfl) ?_
        refine m_getR 0 5 19 S hw (by omega) rfl rfl rfl in_X7 (by decide) wf_X7_41 dX7_batch_114 ?_
        refine lv_iload_n S.1 S.2.1 dX7_batch_117 rfl (lv_at hl 1 rfl) ?_
        refine m_top (show x = nI a from ea) ?_
        refine m_ald 19 a S hw (by omega) rfl (by decide) (by omega) rfl dX7_batch_118 ?_
        exact m_reti S hr hlocks hw dX7_batch_119 ⟨by rw [ifA_t hyes, swA_at (j := 5) hsw2, ta]; first | done | rfl, rfl⟩
  · refine lv_iconst (v := (-1)) S.1 S.2.1 dX7_batch_17 (by decide) ?_
    exact m_reti S hr hlocks hw dX7_batch_18 ⟨by rw [ifA_f ((wi_pred x (by omega)).symm.trans c1)], rfl⟩

set_option maxHeartbeats 4000000 in
set_option maxRecDepth 100000 in
/-- OilLine.tankOf -/
theorem c_X7_tankOf (l : Launch) (G : GT) (N K : Nat) (ad : Nat → Nat) (M : Mem) (h34 : 34 ≤ N) (D : Nat) (hD : M 6 0 = nI D) (hD6 : D ≤ 6) (x y z : Int32) : CrI l G N K ad yX7_tankOf cX7_tankOf 5 .int 3 65 [.ref (ad 0), .int x, .int y, .int z] M (ifA (inB x D && (inB y 8 && !eqB (M 9 (tn x * 8 + tn y)) 0)) (swA z [M 27 (tn x * 8 + tn y), M 28 (tn x * 8 + tn y), M 10 (tn x * 8 + tn y), M 11 (tn x * 8 + tn y), M 29 (tn x * 8 + tn y)]) (-1)) := by
  refine cm_startI (by decide +kernel) (Nat.le_of_ble_eq_true rfl) ?_
  intro p e s m below meth c ls S hr hlocks hw hl
  have hl : lv_has ls 5 [(0, .ref (ad 0)), (1, .int x), (2, .int y), (3, .int z)] := hl
  refine lv_aload_n S.1 S.2.1 dX7_tankOf_0 rfl (lv_at hl 0 rfl) ?_
  refine lv_iload_n S.1 S.2.1 dX7_tankOf_1 rfl (lv_at hl 1 rfl) ?_
  refine lv_iload_n S.1 S.2.1 dX7_tankOf_2 rfl (lv_at hl 2 rfl) ?_
  refine r_VI (As := [.int x, .int y]) (rest := []) 0 S hw (by omega) rfl rfl (c_X7_hasTank l G N K ad M h34 D hD hD6 x y) mf_X7_hasTank wm_X7_134 ⟨by decide, by decide⟩ ⟨Nat.le_refl _, Nat.le_refl _⟩ hl.1 rfl (Nat.le_of_ble_eq_true rfl) dX7_tankOf_3 (fun H locs hw => ?_)
  refine b_ne (tgt := 11) S dX7_tankOf_6 (by decide) (fun c1 => ?_) (fun c1 => ?_)
  · have hx3 := and3 c1
    obtain ⟨a, ha, ea⟩ := inB_of hx3.1 (by omega)
    have ta : tn x = a := tn_of ea (by omega)
    obtain ⟨b, hb, eb⟩ := inB_of hx3.2.1 (by omega)
    have tb : tn y = b := tn_of eb (by omega)
    refine lv_iload_n S.1 S.2.1 dX7_tankOf_11 rfl (lv_at hl 1 rfl) ?_
    refine m_top (show x = nI a from ea) ?_
    refine lv_iload_n S.1 S.2.1 dX7_tankOf_12 rfl (lv_at hl 2 rfl) ?_
    refine m_top (show y = nI b from eb) ?_
    refine r_SI (As := [.int (nI a), .int (nI b)]) (rest := []) S hw (c_X7_tankNumber l G N K ad M a b) mf_X7_tankNumber wm_X7_95 ⟨by decide, by decide⟩ ⟨Nat.le_refl _, Nat.le_refl _⟩ hl.1 rfl (Nat.le_of_ble_eq_true rfl) dX7_tankOf_13 (fun H locs hw => ?_)
    refine lv_istore (lv' := [(4, .int (nI (a * 8 + b))), (0, .ref (ad 0)), (1, .int x), (2, .int y), (3, .int z)]) S.1 S.2.1 dX7_tankOf_16 hl (by decide) rfl (fun ls hl => ?_)
    refine lv_iload_n S.1 S.2.1 dX7_tankOf_18 rfl (lv_at hl 4 rfl) ?_
    rcases sw_cases z 4 with hsw2 | ⟨jsw2, hj2, hsw2⟩
    · refine lv_tableOut (tgt := 116) S.1 S.2.1 dX7_tankOf_19 hsw2 (by decide) ?_
      refine lv_iconst (v := (-1)) S.1 S.2.1 dX7_tankOf_116 (by decide) ?_
      exact m_reti S hr hlocks hw dX7_tankOf_117 ⟨by rw [ifA_t c1, swA_o hsw2 rfl], rfl⟩
    · rcases (show jsw2 = 0 ∨ jsw2 = 1 ∨ jsw2 = 2 ∨ jsw2 = 3 ∨ jsw2 = 4 by omega) with rfl | rfl | rfl | rfl | rfl
      · refine lv_tableIn (off := 33) (tgt := 52) S.1 S.2.1 dX7_tankOf_19 (by rw [hsw2]; decide) (by rw [hsw2]; decide) (by rw [hsw2]; rfl) (by decide) ?_
        refine lv_aload_n S.1 S.2.1 dX7_tankOf_52 rfl (lv_at hl 1 rfl) ?_
        refine m_getR 0 6 20 S hw (by omega) rfl rfl rfl in_X7 (by decide) wf_X7_47 dX7_tankOf_53 ?_
        refine m_getR 20 4 26 S hw (by omega) rfl rfl rfl in_X1 (by decide) wf_X7_107 dX7_tankOf_56 ?_
        refine m_getR 26 0 27 S hw (by omega) rfl rfl rfl in_X4 (by decide) wf_X7_193 dX7_tankOf_59 ?_
        refine lv_iload S.1 S.2.1 dX7_tankOf_62 (lv_at hl 0 rfl) ?_
        refine m_ald 27 (a * 8 + b) S hw (by omega) rfl (by decide) (by omega) rfl dX7_tankOf_64 ?_
        exact m_reti S hr hlocks hw dX7_tankOf_65 ⟨by rw [ifA_t c1, swA_at (j := 0) hsw2, ta, tb]; first | done | rfl, rfl⟩
      · refine lv_tableIn (off := 47) (tgt := 66) S.1 S.2.1 dX7_tankOf_19 (by rw [hsw2]; decide) (by rw [hsw2]; decide) (by rw [hsw2]; rfl) (by decide) ?_
        refine lv_aload_n S.1 S.2.1 dX7_tankOf_66 rfl (lv_at hl 1 rfl) ?_
        refine m_getR 0 6 20 S hw (by omega) rfl rfl rfl in_X7 (by decide) wf_X7_47 dX7_tankOf_67 ?_
        refine m_getR 20 4 26 S hw (by omega) rfl rfl rfl in_X1 (by decide) wf_X7_107 dX7_tankOf_70 ?_
        refine m_getR 26 1 28 S hw (by omega) rfl rfl rfl in_X4 (by decide) wf_X7_196 dX7_tankOf_73 ?_
        refine lv_iload S.1 S.2.1 dX7_tankOf_76 (lv_at hl 0 rfl) ?_
        refine m_ald 28 (a * 8 + b) S hw (by omega) rfl (by decide) (by omega) rfl dX7_tankOf_78 ?_
        exact m_reti S hr hlocks hw dX7_tankOf_79 ⟨by rw [ifA_t c1, swA_at (j := 1) hsw2, ta, tb]; first | done | rfl, rfl⟩
      · refine lv_tableIn (off := 61) (tgt := 80) S.1 S.2.1 dX7_tankOf_19 (by rw [hsw2]; decide) (by rw [hsw2]; decide) (by rw [hsw2]; rfl) (by decide) ?_
        refine lv_aload_n S.1 S.2.1 dX7_tankOf_80 rfl (lv_at hl 1 rfl) ?_
        refine m_getR 0 1 6 S hw (by omega) rfl rfl rfl in_X7 (by decide) wf_X7_19 dX7_tankOf_81 ?_
        refine m_getR 6 4 10 S hw (by omega) rfl rfl rfl in_X0 (by decide) wf_X7_199 dX7_tankOf_84 ?_
        refine lv_iload S.1 S.2.1 dX7_tankOf_87 (lv_at hl 0 rfl) ?_
        refine m_ald 10 (a * 8 + b) S hw (by omega) rfl (by decide) (by omega) rfl dX7_tankOf_89 ?_
        exact m_reti S hr hlocks hw dX7_tankOf_90 ⟨by rw [ifA_t c1, swA_at (j := 2) hsw2, ta, tb]; first | done | rfl, rfl⟩
      · refine lv_tableIn (off := 72) (tgt := 91) S.1 S.2.1 dX7_tankOf_19 (by rw [hsw2]; decide) (by rw [hsw2]; decide) (by rw [hsw2]; rfl) (by decide) ?_
        refine lv_aload_n S.1 S.2.1 dX7_tankOf_91 rfl (lv_at hl 1 rfl) ?_
        refine m_getR 0 1 6 S hw (by omega) rfl rfl rfl in_X7 (by decide) wf_X7_19 dX7_tankOf_92 ?_
        refine m_getR 6 5 11 S hw (by omega) rfl rfl rfl in_X0 (by decide) wf_X7_202 dX7_tankOf_95 ?_
        refine lv_iload S.1 S.2.1 dX7_tankOf_98 (lv_at hl 0 rfl) ?_
        refine m_ald 11 (a * 8 + b) S hw (by omega) rfl (by decide) (by omega) rfl dX7_tankOf_100 ?_
        exact m_reti S hr hlocks hw dX7_tankOf_101 ⟨by rw [ifA_t c1, swA_at (j := 3) hsw2, ta, tb]; first | done | rfl, rfl⟩
      · refine lv_tableIn (off := 83) (tgt := 102) S.1 S.2.1 dX7_tankOf_19 (by rw [hsw2]; decide) (by rw [hsw2]; decide) (by rw [hsw2]; rfl) (by decide) ?_
        refine lv_aload_n S.1 S.2.1 dX7_tankOf_102 rfl (lv_at hl 1 rfl) ?_
        refine m_getR 0 6 20 S hw (by omega) rfl rfl rfl in_X7 (by decide) wf_X7_47 dX7_tankOf_103 ?_
        refine m_getR 20 4 26 S hw (by omega) rfl rfl rfl in_X1 (by decide) wf_X7_107 dX7_tankOf_106 ?_
        refine m_getR 26 2 29 S hw (by omega) rfl rfl rfl in_X4 (by decide) wf_X7_142 dX7_tankOf_109 ?_
        refine lv_iload S.1 S.2.1 dX7_tankOf_112 (lv_at hl 0 rfl) ?_
        refine m_ald 29 (a * 8 + b) S hw (by omega) rfl (by decide) (by omega) rfl dX7_tankOf_114 ?_
        exact m_reti S hr hlocks hw dX7_tankOf_115 ⟨by rw [ifA_t c1, swA_at (j := 4) hsw2, ta, tb]; first | done | rfl, rfl⟩
  · refine lv_iconst (v := (-1)) S.1 S.2.1 dX7_tankOf_9 (by decide) ?_
    exact m_reti S hr hlocks hw dX7_tankOf_10 ⟨by rw [ifA_f c1], rfl⟩

set_option maxHeartbeats 4000000 in
set_option maxRecDepth 100000 in
/-- OilLine.about -/
theorem c_X7_about (l : Launch) (G : GT) (N K : Nat) (ad : Nat → Nat) (M : Mem) (h34 : 34 ≤ N) (D : Nat) (hD : M 6 0 = nI D) (hD6 : D ≤ 6) (x y : Int32) : CrI l G N K ad yX7_about cX7_about 3 .int 2 43 [.ref (ad 0), .int x, .int y] M (ifA (inB x D) (swA y [M 7 (tn x), M 8 (tn x), M 30 (tn x)]) (-1)) := by
  refine cm_startI (by decide +kernel) (Nat.le_of_ble_eq_true rfl) ?_
  intro p e s m below meth c ls S hr hlocks hw hl
  have hl : lv_has ls 3 [(0, .ref (ad 0)), (1, .int x), (2, .int y)] := hl
  refine lv_aload_n S.1 S.2.1 dX7_about_0 rfl (lv_at hl 0 rfl) ?_
  refine m_getR 0 1 6 S hw (by omega) rfl rfl rfl in_X7 (by decide) wf_X7_19 dX7_about_1 ?_
  refine lv_iload_n S.1 S.2.1 dX7_about_4 rfl (lv_at hl 1 rfl) ?_
  refine r_VI (As := [.int x]) (rest := []) 6 S hw (by omega) rfl rfl (c_X0_has l G N K ad M h34 D hD hD6 x) mf_X0_has wm_X7_89 ⟨by decide, by decide⟩ ⟨Nat.le_refl _, Nat.le_refl _⟩ hl.1 rfl (Nat.le_of_ble_eq_true rfl) dX7_about_5 (fun H locs hw => ?_)
  refine b_ne (tgt := 13) S dX7_about_8 (by decide) (fun c1 => ?_) (fun c1 => ?_)
  · obtain ⟨a, ha, ea⟩ := inB_of c1 (by omega)
    have ta : tn x = a := tn_of ea (by omega)
    refine lv_iload_n S.1 S.2.1 dX7_about_13 rfl (lv_at hl 2 rfl) ?_
    rcases sw_cases y 2 with hsw2 | ⟨jsw2, hj2, hsw2⟩
    · refine lv_tableOut (tgt := 73) S.1 S.2.1 dX7_about_14 hsw2 (by decide) ?_
      refine lv_iconst (v := (-1)) S.1 S.2.1 dX7_about_73 (by decide) ?_
      exact m_reti S hr hlocks hw dX7_about_74 ⟨by rw [ifA_t c1, swA_o hsw2 rfl], rfl⟩
    · rcases (show jsw2 = 0 ∨ jsw2 = 1 ∨ jsw2 = 2 by omega) with rfl | rfl | rfl
      · refine lv_tableIn (off := 26) (tgt := 40) S.1 S.2.1 dX7_about_14 (by rw [hsw2]; decide) (by rw [hsw2]; decide) (by rw [hsw2]; rfl) (by decide) ?_
        refine lv_aload_n S.1 S.2.1 dX7_about_40 rfl (lv_at hl 0 rfl) ?_
        refine m_getR 0 1 6 S hw (by omega) rfl rfl rfl in_X7 (by decide) wf_X7_19 dX7_about_41 ?_
        refine m_getR 6 1 7 S hw (by omega) rfl rfl rfl in_X0 (by decide) wf_X7_205 dX7_about_44 ?_
        refine lv_iload_n S.1 S.2.1 dX7_about_47 rfl (lv_at hl 1 rfl) ?_
        refine m_top (show x = nI a from ea) ?_
        refine m_ald 7 a S hw (by omega) rfl (by decide) (by omega) rfl dX7_about_48 ?_
        exact m_reti S hr hlocks hw dX7_about_49 ⟨by rw [ifA_t c1, swA_at (j := 0) hsw2, ta]; first | done | rfl, rfl⟩
      · refine lv_tableIn (off := 36) (tgt := 50) S.1 S.2.1 dX7_about_14 (by rw [hsw2]; decide) (by rw [hsw2]; decide) (by rw [hsw2]; rfl) (by decide) ?_
        refine lv_aload_n S.1 S.2.1 dX7_about_50 rfl (lv_at hl 0 rfl) ?_
        refine m_getR 0 1 6 S hw (by omega) rfl rfl rfl in_X7 (by decide) wf_X7_19 dX7_about_51 ?_
        refine m_getR 6 2 8 S hw (by omega) rfl rfl rfl in_X0 (by decide) wf_X7_128 dX7_about_54 ?_
        refine lv_iload_n S.1 S.2.1 dX7_about_57 rfl (lv_at hl 1 rfl) ?_
        refine m_top (show x = nI a from ea) ?_
        refine m_ald 8 a S hw (by omega) rfl (by decide) (by omega) rfl dX7_about_58 ?_
        exact m_reti S hr hlocks hw dX7_about_59 ⟨by rw [ifA_t c1, swA_at (j := 1) hsw2, ta]; first | done | rfl, rfl⟩
      · refine lv_tableIn (off := 46) (tgt := 60) S.1 S.2.1 dX7_about_14 (by rw [hsw2]; decide) (by rw [hsw2]; decide) (by rw [hsw2]; rfl) (by decide) ?_
        refine lv_aload_n S.1 S.2.1 dX7_about_60 rfl (lv_at hl 0 rfl) ?_
        refine m_getR 0 6 20 S hw (by omega) rfl rfl rfl in_X7 (by decide) wf_X7_47 dX7_about_61 ?_
        refine m_getR 20 4 26 S hw (by omega) rfl rfl rfl in_X1 (by decide) wf_X7_107 dX7_about_64 ?_
        refine m_getR 26 3 30 S hw (by omega) rfl rfl rfl in_X4 (by decide) wf_X7_208 dX7_about_67 ?_
        refine lv_iload_n S.1 S.2.1 dX7_about_70 rfl (lv_at hl 1 rfl) ?_
        refine m_top (show x = nI a from ea) ?_
        refine m_ald 30 a S hw (by omega) rfl (by decide) (by omega) rfl dX7_about_71 ?_
        exact m_reti S hr hlocks hw dX7_about_72 ⟨by rw [ifA_t c1, swA_at (j := 2) hsw2, ta]; first | done | rfl, rfl⟩
  · refine lv_iconst (v := (-1)) S.1 S.2.1 dX7_about_11 (by decide) ?_
    exact m_reti S hr hlocks hw dX7_about_12 ⟨by rw [ifA_f c1], rfl⟩

set_option maxHeartbeats 4000000 in
set_option maxRecDepth 100000 in
/-- OilLine.wished -/
theorem c_X7_wished (l : Launch) (G : GT) (N K : Nat) (ad : Nat → Nat) (M : Mem) (h34 : 34 ≤ N) (Wn : Nat) (hWn : M 12 0 = nI Wn) (hW20 : Wn ≤ 20) (hwt : ∀ w, w < Wn → inB (M 13 w) 48 = true) (x y : Int32) : CrI l G N K ad yX7_wished cX7_wished 3 .int 2 44 [.ref (ad 0), .int x, .int y] M (ifA (inB x Wn) (swA y [M 32 (tn x), lateS (M 32) (M 15) (M 20 0) (tn x), wantS (M 13) (M 14) (M 16) (M 29) (tn x)]) (-1)) := by
  refine cm_startI (by decide +kernel) (Nat.le_of_ble_eq_true rfl) ?_
  intro p e s m below meth c ls S hr hlocks hw hl
  have hl : lv_has ls 3 [(0, .ref (ad 0)), (1, .int x), (2, .int y)] := hl
  refine lv_iload_n S.1 S.2.1 dX7_wished_0 rfl (lv_at hl 1 rfl) ?_
  refine lv_iconst (v := nI 0) S.1 S.2.1 dX7_wished_1 (by decide) ?_
  refine lv_aload_n S.1 S.2.1 dX7_wished_2 rfl (lv_at hl 0 rfl) ?_
  refine m_getR 0 2 12 S hw (by omega) rfl rfl rfl in_X7 (by decide) wf_X7_26 dX7_wished_3 ?_
  refine m_getI 12 0 S hw (by omega) rfl rfl rfl in_X6 (by decide) wf_X7_70 dX7_wished_6 ?_
  refine m_top (show M 12 0 = nI Wn from hWn) ?_
  refine lv_iconst (v := nI 1) S.1 S.2.1 dX7_wished_9 (by decide) ?_
  refine lv_isub S.1 S.2.1 dX7_wished_10 ?_
  refine r_SI (As := [.int x, .int (nI 0), .int ((nI Wn) - (nI 1))]) (rest := []) S hw (c_X7_within l G N K ad M x (nI 0) ((nI Wn) - (nI 1))) mf_X7_within wm_X7_63 ⟨by decide, by decide⟩ ⟨Nat.le_refl _, Nat.le_refl _⟩ hl.1 rfl (Nat.le_of_ble_eq_true rfl) dX7_wished_11 (fun H locs hw => ?_)
  refine b_ne (tgt := 19) S dX7_wished_14 (by decide) (fun c1 => ?_) (fun c1 => ?_)
  · have hyes : inB x Wn = true := ((wi_pred x (by omega)).symm.trans c1)
    obtain ⟨a, ha, ea⟩ := inB_of hyes (by omega)
    have ta : tn x = a := tn_of ea (by omega)
    refine lv_iload_n S.1 S.2.1 dX7_wished_19 rfl (lv_at hl 2 rfl) ?_
    rcases sw_cases y 2 with hsw2 | ⟨jsw2, hj2, hsw2⟩
    · refine lv_tableOut (tgt := 87) S.1 S.2.1 dX7_wished_20 hsw2 (by decide) ?_
      refine lv_iconst (v := (-1)) S.1 S.2.1 dX7_wished_87 (by decide) ?_
      exact m_reti S hr hlocks hw dX7_wished_88 ⟨by rw [ifA_t hyes, swA_o hsw2 rfl], rfl⟩
    · rcases (show jsw2 = 0 ∨ jsw2 = 1 ∨ jsw2 = 2 by omega) with rfl | rfl | rfl
      · refine lv_tableIn (off := 28) (tgt := 48) S.1 S.2.1 dX7_wished_20 (by rw [hsw2]; decide) (by rw [hsw2]; decide) (by rw [hsw2]; rfl) (by decide) ?_
        refine lv_aload_n S.1 S.2.1 dX7_wished_48 rfl (lv_at hl 0 rfl) ?_
        refine m_getR 0 6 20 S hw (by omega) rfl rfl rfl in_X7 (by decide) wf_X7_47 dX7_wished_49 ?_
        refine m_getR 20 6 32 S hw (by omega) rfl rfl rfl in_X1 (by decide) wf_X7_139 dX7_wished_52 ?_
        refine lv_iload_n S.1 S.2.1 dX7_wished_55 rfl (lv_at hl 1 rfl) ?_
        refine m_top (show x = nI a from ea) ?_
        refine m_ald 32 a S hw (by omega) rfl (by decide) (by omega) rfl dX7_wished_56 ?_
        exact m_reti S hr hlocks hw dX7_wished_57 ⟨by rw [ifA_t hyes, swA_at (j := 0) hsw2, ta]; first | done | rfl, rfl⟩
      · refine lv_tableIn (off := 38) (tgt := 58) S.1 S.2.1 dX7_wished_20 (by rw [hsw2]; decide) (by rw [hsw2]; decide) (by rw [hsw2]; rfl) (by decide) ?_
        refine lv_aload_n S.1 S.2.1 dX7_wished_58 rfl (lv_at hl 0 rfl) ?_
        refine m_getR 0 2 12 S hw (by omega) rfl rfl rfl in_X7 (by decide) wf_X7_26 dX7_wished_59 ?_
        refine lv_iload_n S.1 S.2.1 dX7_wished_62 rfl (lv_at hl 1 rfl) ?_
        refine m_top (show x = nI a from ea) ?_
        refine lv_aload_n S.1 S.2.1 dX7_wished_63 rfl (lv_at hl 0 rfl) ?_
        refine m_getR 0 6 20 S hw (by omega) rfl rfl rfl in_X7 (by decide) wf_X7_47 dX7_wished_64 ?_
        refine r_VI (As := [.int (nI a), .ref (ad 20)]) (rest := []) 12 S hw (by omega) rfl rfl (c_X6_lateBy l G N K ad M h34 a (by omega)) mf_X6_lateBy wm_X7_211 ⟨by decide, by decide⟩ ⟨Nat.le_refl _, Nat.le_refl _⟩ hl.1 rfl (Nat.le_of_ble_eq_true rfl) dX7_wished_67 (fun H locs hw => ?_)
        exact m_reti S hr hlocks hw dX7_wished_70 ⟨by rw [ifA_t hyes, swA_at (j := 1) hsw2, ta]; first | done | rfl, rfl⟩
      · refine lv_tableIn (off := 51) (tgt := 71) S.1 S.2.1 dX7_wished_20 (by rw [hsw2]; decide) (by rw [hsw2]; decide) (by rw [hsw2]; rfl) (by decide) ?_
        refine lv_aload_n S.1 S.2.1 dX7_wished_71 rfl (lv_at hl 0 rfl) ?_
        refine m_getR 0 2 12 S hw (by omega) rfl rfl rfl in_X7 (by decide) wf_X7_26 dX7_wished_72 ?_
        refine lv_iload_n S.1 S.2.1 dX7_wished_75 rfl (lv_at hl 1 rfl) ?_
        refine m_top (show x = nI a from ea) ?_
        refine lv_aload_n S.1 S.2.1 dX7_wished_76 rfl (lv_at hl 0 rfl) ?_
        refine m_getR 0 6 20 S hw (by omega) rfl rfl rfl in_X7 (by decide) wf_X7_47 dX7_wished_77 ?_
        refine m_getR 20 4 26 S hw (by omega) rfl rfl rfl in_X1 (by decide) wf_X7_107 dX7_wished_80 ?_
        refine r_VI (As := [.int (nI a), .ref (ad 26)]) (rest := []) 12 S hw (by omega) rfl rfl (c_X6_wanting l G N K ad M h34 Wn hWn hW20 hwt a (by omega)) mf_X6_wanting wm_X7_215 ⟨by decide, by decide⟩ ⟨Nat.le_refl _, Nat.le_refl _⟩ hl.1 rfl (Nat.le_of_ble_eq_true rfl) dX7_wished_83 (fun H locs hw => ?_)
        exact m_reti S hr hlocks hw dX7_wished_86 ⟨by rw [ifA_t hyes, swA_at (j := 2) hsw2, ta]; first | done | rfl, rfl⟩
  · refine lv_iconst (v := (-1)) S.1 S.2.1 dX7_wished_17 (by decide) ?_
    exact m_reti S hr hlocks hw dX7_wished_18 ⟨by rw [ifA_f ((wi_pred x (by omega)).symm.trans c1)], rfl⟩

set_option maxHeartbeats 4000000 in
set_option maxRecDepth 100000 in
/-- OilLine.count -/
theorem c_X7_count (l : Launch) (G : GT) (N K : Nat) (ad : Nat → Nat) (M : Mem) (h34 : 34 ≤ N) (n : Nat) (hn : M 21 0 = nI n) (hn1 : n ≤ 120) (Wn : Nat) (hWn : M 12 0 = nI Wn) (hW20 : Wn ≤ 20) (x : Int32) : CrI l G N K ad yX7_count cX7_count 2 .int 3 67 [.ref (ad 0), .int x] M (swA x [M 20 0, M 20 1, M 20 2, nI (cntB (fun j => !pureB (M 24) j) n), sumI (M 30) 6, M 21 0, M 6 0, sumI (lateS (M 32) (M 15) (M 20 0)) Wn, M 0 8]) := by
  refine cm_startI (by decide +kernel) (Nat.le_of_ble_eq_true rfl) ?_
  intro p e s m below meth c ls S hr hlocks hw hl
  have hl : lv_has ls 2 [(0, .ref (ad 0)), (1, .int x)] := hl
  refine lv_iload_n S.1 S.2.1 dX7_count_0 rfl (lv_at hl 1 rfl) ?_
  rcases sw_cases x 8 with hsw1 | ⟨jsw1, hj1, hsw1⟩
  · refine lv_tableOut (tgt := 134) S.1 S.2.1 dX7_count_1 hsw1 (by decide) ?_
    refine lv_iconst (v := (-1)) S.1 S.2.1 dX7_count_134 (by decide) ?_
    exact m_reti S hr hlocks hw dX7_count_135 ⟨by rw [swA_o hsw1 rfl], rfl⟩
  · rcases (show jsw1 = 0 ∨ jsw1 = 1 ∨ jsw1 = 2 ∨ jsw1 = 3 ∨ jsw1 = 4 ∨ jsw1 = 5 ∨ jsw1 = 6 ∨ jsw1 = 7 ∨ jsw1 = 8 by omega) with rfl | rfl | rfl | rfl | rfl | rfl | rfl | rfl | rfl
    · refine lv_tableIn (off := 51) (tgt := 52) S.1 S.2.1 dX7_count_1 (by rw [hsw1]; decide) (by rw [hsw1]; decide) (by rw [hsw1]; rfl) (by decide) ?_
      refine lv_aload_n S.1 S.2.1 dX7_count_52 rfl (lv_at hl 0 rfl) ?_
      refine m_getR 0 6 20 S hw (by omega) rfl rfl rfl in_X7 (by decide) wf_X7_47 dX7_count_53 ?_
      refine m_getI 20 0 S hw (by omega) rfl rfl rfl in_X1 (by decide) wf_X7_163 dX7_count_56 ?_
      exact m_reti S hr hlocks hw dX7_count_59 ⟨by rw [swA_at (j := 0) hsw1]; first | done | rfl, rfl⟩
    · refine lv_tableIn (off := 59) (tgt := 60) S.1 S.2.1 dX7_count_1 (by rw [hsw1]; decide) (by rw [hsw1]; decide) (by rw [hsw1]; rfl) (by decide) ?_
      refine lv_aload_n S.1 S.2.1 dX7_count_60 rfl (lv_at hl 0 rfl) ?_
      refine m_getR 0 6 20 S hw (by omega) rfl rfl rfl in_X7 (by decide) wf_X7_47 dX7_count_61 ?_
      refine m_getI 20 1 S hw (by omega) rfl rfl rfl in_X1 (by decide) wf_X7_219 dX7_count_64 ?_
      exact m_reti S hr hlocks hw dX7_count_67 ⟨by rw [swA_at (j := 1) hsw1]; first | done | rfl, rfl⟩
    · refine lv_tableIn (off := 67) (tgt := 68) S.1 S.2.1 dX7_count_1 (by rw [hsw1]; decide) (by rw [hsw1]; decide) (by rw [hsw1]; rfl) (by decide) ?_
      refine lv_aload_n S.1 S.2.1 dX7_count_68 rfl (lv_at hl 0 rfl) ?_
      refine m_getR 0 6 20 S hw (by omega) rfl rfl rfl in_X7 (by decide) wf_X7_47 dX7_count_69 ?_
      refine m_getI 20 2 S hw (by omega) rfl rfl rfl in_X1 (by decide) wf_X7_160 dX7_count_72 ?_
      exact m_reti S hr hlocks hw dX7_count_75 ⟨by rw [swA_at (j := 2) hsw1]; first | done | rfl, rfl⟩
    · refine lv_tableIn (off := 75) (tgt := 76) S.1 S.2.1 dX7_count_1 (by rw [hsw1]; decide) (by rw [hsw1]; decide) (by rw [hsw1]; rfl) (by decide) ?_
      refine lv_aload_n S.1 S.2.1 dX7_count_76 rfl (lv_at hl 0 rfl) ?_
      refine m_getR 0 6 20 S hw (by omega) rfl rfl rfl in_X7 (by decide) wf_X7_47 dX7_count_77 ?_
      refine m_getR 20 3 21 S hw (by omega) rfl rfl rfl in_X1 (by decide) wf_X7_73 dX7_count_80 ?_
      refine r_VI (As := []) (rest := []) 21 S hw (by omega) rfl rfl (c_X2_countMixed l G N K ad M 20 (isM20 (by omega)) n hn hn1) mf_X2_countMixed wm_X7_222 ⟨by decide, by decide⟩ ⟨Nat.le_refl _, Nat.le_refl _⟩ hl.1 rfl (Nat.le_of_ble_eq_true rfl) dX7_count_83 (fun H locs hw => ?_)
      exact m_reti S hr hlocks hw dX7_count_86 ⟨by rw [swA_at (j := 3) hsw1]; first | done | rfl, rfl⟩
    · refine lv_tableIn (off := 86) (tgt := 87) S.1 S.2.1 dX7_count_1 (by rw [hsw1]; decide) (by rw [hsw1]; decide) (by rw [hsw1]; rfl) (by decide) ?_
      refine lv_aload_n S.1 S.2.1 dX7_count_87 rfl (lv_at hl 0 rfl) ?_
      refine m_getR 0 6 20 S hw (by omega) rfl rfl rfl in_X7 (by decide) wf_X7_47 dX7_count_88 ?_
      refine m_getR 20 4 26 S hw (by omega) rfl rfl rfl in_X1 (by decide) wf_X7_107 dX7_count_91 ?_
      refine r_VI (As := []) (rest := []) 26 S hw (by omega) rfl rfl (c_X4_slopOfAll l G N K ad M 20 (isM20 (by omega))) mf_X4_slopOfAll wm_X7_226 ⟨by decide, by decide⟩ ⟨Nat.le_refl _, Nat.le_refl _⟩ hl.1 rfl (Nat.le_of_ble_eq_true rfl) dX7_count_94 (fun H locs hw => ?_)
      exact m_reti S hr hlocks hw dX7_count_97 ⟨by rw [swA_at (j := 4) hsw1]; first | done | rfl, rfl⟩
    · refine lv_tableIn (off := 97) (tgt := 98) S.1 S.2.1 dX7_count_1 (by rw [hsw1]; decide) (by rw [hsw1]; decide) (by rw [hsw1]; rfl) (by decide) ?_
      refine lv_aload_n S.1 S.2.1 dX7_count_98 rfl (lv_at hl 0 rfl) ?_
      refine m_getR 0 6 20 S hw (by omega) rfl rfl rfl in_X7 (by decide) wf_X7_47 dX7_count_99 ?_
      refine m_getR 20 3 21 S hw (by omega) rfl rfl rfl in_X1 (by decide) wf_X7_73 dX7_count_102 ?_
      refine m_getI 21 0 S hw (by omega) rfl rfl rfl in_X2 (by decide) wf_X7_77 dX7_count_105 ?_
      exact m_reti S hr hlocks hw dX7_count_108 ⟨by rw [swA_at (j := 5) hsw1]; first | done | rfl, rfl⟩
    · refine lv_tableIn (off := 108) (tgt := 109) S.1 S.2.1 dX7_count_1 (by rw [hsw1]; decide) (by rw [hsw1]; decide) (by rw [hsw1]; rfl) (by decide) ?_
      refine lv_aload_n S.1 S.2.1 dX7_count_109 rfl (lv_at hl 0 rfl) ?_
      refine m_getR 0 1 6 S hw (by omega) rfl rfl rfl in_X7 (by decide) wf_X7_19 dX7_count_110 ?_
      refine m_getI 6 0 S hw (by omega) rfl rfl rfl in_X0 (by decide) wf_X7_84 dX7_count_113 ?_
      exact m_reti S hr hlocks hw dX7_count_116 ⟨by rw [swA_at (j := 6) hsw1]; first | done | rfl, rfl⟩
    · refine lv_tableIn (off := 116) (tgt := 117) S.1 S.2.1 dX7_count_1 (by rw [hsw1]; decide) (by rw [hsw1]; decide) (by rw [hsw1]; rfl) (by decide) ?_
      refine lv_aload_n S.1 S.2.1 dX7_count_117 rfl (lv_at hl 0 rfl) ?_
      refine m_getR 0 2 12 S hw (by omega) rfl rfl rfl in_X7 (by decide) wf_X7_26 dX7_count_118 ?_
      refine lv_aload_n S.1 S.2.1 dX7_count_121 rfl (lv_at hl 0 rfl) ?_
      refine m_getR 0 6 20 S hw (by omega) rfl rfl rfl in_X7 (by decide) wf_X7_47 dX7_count_122 ?_
      refine r_VI (As := [.ref (ad 20)]) (rest := []) 12 S hw (by omega) rfl rfl (c_X6_lateByAll l G N K ad M h34 Wn hWn hW20) mf_X6_lateByAll wm_X7_229 ⟨by decide, by decide⟩ ⟨Nat.le_refl _, Nat.le_refl _⟩ hl.1 rfl (Nat.le_of_ble_eq_true rfl) dX7_count_125 (fun H locs hw => ?_)
      exact m_reti S hr hlocks hw dX7_count_128 ⟨by rw [swA_at (j := 7) hsw1]; first | done | rfl, rfl⟩
    · refine lv_tableIn (off := 128) (tgt := 129) S.1 S.2.1 dX7_count_1 (by rw [hsw1]; decide) (by rw [hsw1]; decide) (by rw [hsw1]; rfl) (by decide) ?_
      refine lv_aload_n S.1 S.2.1 dX7_count_129 rfl (lv_at hl 0 rfl) ?_
      refine m_getI 0 8 S hw (by omega) rfl rfl rfl in_X7 (by decide) wf_X7_55 dX7_count_130 ?_
      exact m_reti S hr hlocks hw dX7_count_133 ⟨by rw [swA_at (j := 8) hsw1]; first | done | rfl, rfl⟩

set_option maxHeartbeats 4000000 in
set_option maxRecDepth 100000 in
/-- OilLine.borders -/
theorem c_X7_borders (l : Launch) (G : GT) (N K : Nat) (ad : Nat → Nat) (M : Mem) (h34 : 34 ≤ N) (n : Nat) (hn : M 21 0 = nI n) (hn1 : n ≤ 120) : CrI l G N K ad yX7_borders cX7_borders 1 .int 4 87 [.ref (ad 0)] M (nI (cntB (fun j => (bord (M 24) (M 23) j).isSome) n)) := by
  refine cm_startI (by decide +kernel) (Nat.le_of_ble_eq_true rfl) ?_
  intro p e s m below meth c ls S hr hlocks hw hl
  have hl : lv_has ls 1 [(0, .ref (ad 0))] := hl
  refine lv_aload_n S.1 S.2.1 dX7_borders_0 rfl (lv_at hl 0 rfl) ?_
  refine m_getR 0 6 20 S hw (by omega) rfl rfl rfl in_X7 (by decide) wf_X7_47 dX7_borders_1 ?_
  refine m_getR 20 3 21 S hw (by omega) rfl rfl rfl in_X1 (by decide) wf_X7_73 dX7_borders_4 ?_
  refine r_VI (As := []) (rest := []) 21 S hw (by omega) rfl rfl (c_X2_countBorders l G N K ad M 20 (isM20 (by omega)) n hn hn1) mf_X2_countBorders wm_X7_233 ⟨by decide, by decide⟩ ⟨Nat.le_refl _, Nat.le_refl _⟩ hl.1 rfl (Nat.le_of_ble_eq_true rfl) dX7_borders_7 (fun H locs hw => ?_)
  exact m_reti S hr hlocks hw dX7_borders_10 ⟨rfl, rfl⟩
