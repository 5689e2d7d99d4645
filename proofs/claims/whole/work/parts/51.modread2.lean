theorem fst_s {p : Nat → Bool} : ∀ (c j : Nat), fstE p (c + 1) j = (match fstE p c j with
    | some x => some x
    | none => if p (j + c) then some (j + c) else none)
  | 0, j => by
    simp only [fstE, Nat.add_zero]
  | c + 1, j => by
    rw [fstE]
    by_cases h : p j = true
    · rw [if_pos h, fstE_t h]
    · have h : p j = false := by simpa using h
      rw [if_neg (by rw [h]; decide), fst_s c (j + 1), fstE_f h, show j + 1 + c = j + (c + 1) by omega]
theorem fst_n {p : Nat → Bool} {i : Nat} (h : p i = false) : fstE p (i + 1) 0 = fstE p i 0 := by
  rw [fst_s]
  cases e : fstE p i 0 with
  | some x => rfl
  | none => simp [h]
theorem fst_y {p : Nat → Bool} {i : Nat} (e : fstE p i 0 = none) (h : p i = true) : fstE p (i + 1) 0 = some i := by
  rw [fst_s, e]
  simp [h]
theorem fst_o {p : Nat → Bool} {i x : Nat} (e : fstE p i 0 = some x) : fstE p (i + 1) 0 = some x := by
  rw [fst_s, e]
theorem fst_lt {p : Nat → Bool} : ∀ {c j x : Nat}, fstE p c j = some x → x < j + c
  | 0, j, x, h => by simp [fstE] at h
  | c + 1, j, x, h => by
    rw [fstE] at h
    by_cases q : p j = true
    · rw [if_pos q] at h; cases h; omega
    · rw [if_neg q] at h; have := fst_lt h; omega
theorem sub_add32 (a b c : Int32) : a - b + c = a - (b - c) := by
  rw [Int32.sub_eq_add_neg a (b - c), Int32.sub_eq_add_neg b c, Int32.neg_add, Int32.sub_eq_add_neg, Int32.sub_eq_add_neg, Int32.neg_neg, Int32.add_assoc]
theorem sw_0 {y : Int32} {l : List Int32} (h : y = 0) : swA y l = l.getD 0 (-1) := swA_at (by rw [h]; rfl)
theorem sw_1 {y : Int32} {l : List Int32} (h : y = nI 1) : swA y l = l.getD 1 (-1) := swA_at (by rw [h]; rfl)
theorem sw_2 {y : Int32} {l : List Int32} (h : y = nI 2) : swA y l = l.getD 2 (-1) := swA_at (by rw [h]; rfl)
theorem sw_n {y a b c : Int32} (h0 : ¬ y = 0) (h1 : ¬ y = nI 1) (h2 : ¬ y = nI 2) : swA y [a, b, c] = -1 := by
  refine swA_o (m := 2) ?_ rfl
  have q0 : y.toInt ≠ 0 := fun z => h0 (Int32.toInt_inj.mp (by rw [z]; rfl))
  have q1 : y.toInt ≠ 1 := fun z => h1 (Int32.toInt_inj.mp (by rw [z]; rfl))
  have q2 : y.toInt ≠ 2 := fun z => h2 (Int32.toInt_inj.mp (by rw [z]; rfl))
  omega
theorem want_y {wt wm wc ca : Nat → Int32} {w tk : Nat} (e : tn (wt w) = tk) (h : ¬ wm w - (ca tk - wc w) ≤ 0) : wantS wt wm wc ca w = wm w - (ca tk - wc w) := by
  unfold wantS
  rw [e]
  exact if_pos (Int32.not_le.mp h)
theorem want_n {wt wm wc ca : Nat → Int32} {w tk : Nat} (e : tn (wt w) = tk) (h : wm w - (ca tk - wc w) ≤ 0) : wantS wt wm wc ca w = nI 0 := by
  unfold wantS
  rw [e]
  exact if_neg (fun z => Int32.not_lt.mpr h z)

set_option maxHeartbeats 4000000 in
set_option maxRecDepth 100000 in
/-- reference: at -/
theorem c_X8_at (l : Launch) (G : GT) (N K : Nat) (ad : Nat → Nat) (M : Mem) (h61 : 61 ≤ N) (n : Nat) (hn : M 34 1 = nI n) (hn1 : n ≤ 120) (x y : Int32) : CrI l G N K ad yX8_at cX8_at 3 .int 3 66 [.ref (ad 34), .int x, .int y] M (ifA (inB x n) (swA y [M 35 (tn x), M 36 (tn x), M 37 (tn x), ifA (bord (M 37) (M 36) (tn x)).isSome (M 38 (tn x)) (nI 0)]) (-1)) := by
  refine cm_startI (by decide +kernel) (Nat.le_of_ble_eq_true rfl) ?_
  intro p e s m below meth c ls S hr hlocks hw hl
  have hl : lv_has ls 3 [(0, .ref (ad 34)), (1, .int x), (2, .int y)] := hl
  refine lv_iload_n S.1 S.2.1 dX8_at_0 rfl (lv_at hl 1 rfl) ?_
  refine lv_iconst (v := nI 0) S.1 S.2.1 dX8_at_1 (by decide) ?_
  refine lv_aload_n S.1 S.2.1 dX8_at_2 rfl (lv_at hl 0 rfl) ?_
  refine m_getI 34 1 S hw (by omega) rfl rfl rfl in_X8 (by decide) wf_X8_13 dX8_at_3 ?_
  refine m_top (show M 34 1 = nI n from hn) ?_
  refine lv_iconst (v := nI 1) S.1 S.2.1 dX8_at_6 (by decide) ?_
  refine lv_isub S.1 S.2.1 dX8_at_7 ?_
  refine r_SI (As := [.int x, .int (nI 0), .int ((nI n) - (nI 1))]) (rest := []) S hw (c_X8_in l G N K ad M x (nI 0) ((nI n) - (nI 1))) mf_X8_in wm_X8_104 ⟨by decide, by decide⟩ ⟨Nat.le_refl _, Nat.le_refl _⟩ hl.1 rfl (Nat.le_of_ble_eq_true rfl) dX8_at_8 (fun H locs hw => ?_)
  refine b_ne (tgt := 16) S dX8_at_11 (by decide) (fun c1 => ?_) (fun c1 => ?_)
  · have hyes : inB x n = true := ((wi_pred x (by omega)).symm.trans c1)
    obtain ⟨a, ha, ea⟩ := inB_of hyes (by omega)
    have ta : tn x = a := tn_of ea (by omega)
    refine lv_iload_n S.1 S.2.1 dX8_at_16 rfl (lv_at hl 2 rfl) ?_
    rcases sw_cases y 3 with hsw2 | ⟨jsw2, hj2, hsw2⟩
    · refine lv_tableOut (tgt := 89) S.1 S.2.1 dX8_at_17 hsw2 (by decide) ?_
      refine lv_iconst (v := (-1)) S.1 S.2.1 dX8_at_89 (by decide) ?_
      exact m_reti S hr hlocks hw dX8_at_90 ⟨by rw [ifA_t hyes, swA_o hsw2 rfl], rfl⟩
    · rcases (show jsw2 = 0 ∨ jsw2 = 1 ∨ jsw2 = 2 ∨ jsw2 = 3 by omega) with rfl | rfl | rfl | rfl
      · refine lv_tableIn (off := 31) (tgt := 48) S.1 S.2.1 dX8_at_17 (by rw [hsw2]; decide) (by rw [hsw2]; decide) (by rw [hsw2]; rfl) (by decide) ?_
        refine lv_aload_n S.1 S.2.1 dX8_at_48 rfl (lv_at hl 0 rfl) ?_
        refine m_getR 34 2 35 S hw (by omega) rfl rfl rfl in_X8 (by decide) wf_X8_16 dX8_at_49 ?_
        refine lv_iload_n S.1 S.2.1 dX8_at_52 rfl (lv_at hl 1 rfl) ?_
        refine m_top (show x = nI a from ea) ?_
        refine m_ald 35 a S hw (by omega) rfl (by decide) (by omega) rfl dX8_at_53 ?_
        exact m_reti S hr hlocks hw dX8_at_54 ⟨by rw [ifA_t hyes, swA_at (j := 0) hsw2, ta]; first | done | rfl, rfl⟩
      · refine lv_tableIn (off := 38) (tgt := 55) S.1 S.2.1 dX8_at_17 (by rw [hsw2]; decide) (by rw [hsw2]; decide) (by rw [hsw2]; rfl) (by decide) ?_
        refine lv_aload_n S.1 S.2.1 dX8_at_55 rfl (lv_at hl 0 rfl) ?_
        refine m_getR 34 3 36 S hw (by omega) rfl rfl rfl in_X8 (by decide) wf_X8_20 dX8_at_56 ?_
        refine lv_iload_n S.1 S.2.1 dX8_at_59 rfl (lv_at hl 1 rfl) ?_
        refine m_top (show x = nI a from ea) ?_
        refine m_ald 36 a S hw (by omega) rfl (by decide) (by omega) rfl dX8_at_60 ?_
        exact m_reti S hr hlocks hw dX8_at_61 ⟨by rw [ifA_t hyes, swA_at (j := 1) hsw2, ta]; first | done | rfl, rfl⟩
      · refine lv_tableIn (off := 45) (tgt := 62) S.1 S.2.1 dX8_at_17 (by rw [hsw2]; decide) (by rw [hsw2]; decide) (by rw [hsw2]; rfl) (by decide) ?_
        refine lv_aload_n S.1 S.2.1 dX8_at_62 rfl (lv_at hl 0 rfl) ?_
        refine m_getR 34 4 37 S hw (by omega) rfl rfl rfl in_X8 (by decide) wf_X8_23 dX8_at_63 ?_
        refine lv_iload_n S.1 S.2.1 dX8_at_66 rfl (lv_at hl 1 rfl) ?_
        refine m_top (show x = nI a from ea) ?_
        refine m_ald 37 a S hw (by omega) rfl (by decide) (by omega) rfl dX8_at_67 ?_
        exact m_reti S hr hlocks hw dX8_at_68 ⟨by rw [ifA_t hyes, swA_at (j := 2) hsw2, ta]; first | done | rfl, rfl⟩
      · refine lv_tableIn (off := 52) (tgt := 69) S.1 S.2.1 dX8_at_17 (by rw [hsw2]; decide) (by rw [hsw2]; decide) (by rw [hsw2]; rfl) (by decide) ?_
        refine lv_aload_n S.1 S.2.1 dX8_at_69 rfl (lv_at hl 0 rfl) ?_
        refine lv_iload_n S.1 S.2.1 dX8_at_70 rfl (lv_at hl 1 rfl) ?_
        refine m_top (show x = nI a from ea) ?_
        refine r_VI (As := [.int (nI a)]) (rest := []) 34 S hw (by omega) rfl rfl (c_X8_border l G N K ad M h61 n hn hn1 a (by omega)) mf_X8_border wm_X8_159 ⟨by decide, by decide⟩ ⟨Nat.le_refl _, Nat.le_refl _⟩ hl.1 rfl (Nat.le_of_ble_eq_true rfl) dX8_at_71 (fun H locs hw => ?_)
        rcases opt_cases (bord (M 37) (M 36) a) with hbd | ⟨b, hbd⟩
        · refine m_top (show enc (bord (M 37) (M 36) a) = (-1) from enc_n hbd) ?_
          refine lv_iconst (v := (-1)) S.1 S.2.1 dX8_at_74 (by decide) ?_
          refine lv_icmp_ne (tgt := 82) S.1 S.2.1 dX8_at_75 (by decide) (fun c3 => absurd c3 (fun z => z rfl)) (fun c3 => ?_)
          refine lv_iconst (v := nI 0) S.1 S.2.1 dX8_at_78 (by decide) ?_
          refine lv_goto (tgt := 88) S.1 S.2.1 dX8_at_79 (by decide) ?_
          exact m_reti S hr hlocks hw dX8_at_88 ⟨by rw [ifA_t hyes, swA_at (j := 3) hsw2, show ([M 35 (tn x), M 36 (tn x), M 37 (tn x), ifA (bord (M 37) (M 36) (tn x)).isSome (M 38 (tn x)) (nI 0)] : List Int32).getD 3 (-1) = ifA (bord (M 37) (M 36) (tn x)).isSome (M 38 (tn x)) (nI 0) from rfl, ta, ifA_f (isS_f hbd)]; first | done | rfl, rfl⟩
        · have hbl := bord_lt hbd
          refine m_top (show enc (bord (M 37) (M 36) a) = nI b from enc_s hbd) ?_
          refine lv_iconst (v := (-1)) S.1 S.2.1 dX8_at_74 (by decide) ?_
          refine lv_icmp_ne (tgt := 82) S.1 S.2.1 dX8_at_75 (by decide) (fun c4 => ?_) (fun c4 => absurd c4 (enc_ne (by omega)))
          refine lv_aload_n S.1 S.2.1 dX8_at_82 rfl (lv_at hl 0 rfl) ?_
          refine m_getR 34 5 38 S hw (by omega) rfl rfl rfl in_X8 (by decide) wf_X8_26 dX8_at_83 ?_
          refine lv_iload_n S.1 S.2.1 dX8_at_86 rfl (lv_at hl 1 rfl) ?_
          refine m_top (show x = nI a from ea) ?_
          refine m_ald 38 a S hw (by omega) rfl (by decide) (by omega) rfl dX8_at_87 ?_
          exact m_reti S hr hlocks hw dX8_at_88 ⟨by rw [ifA_t hyes, swA_at (j := 3) hsw2, show ([M 35 (tn x), M 36 (tn x), M 37 (tn x), ifA (bord (M 37) (M 36) (tn x)).isSome (M 38 (tn x)) (nI 0)] : List Int32).getD 3 (-1) = ifA (bord (M 37) (M 36) (tn x)).isSome (M 38 (tn x)) (nI 0) from rfl, ta, ifA_t (isS_t hbd)]; first | done | rfl, rfl⟩
  · refine lv_iconst (v := (-1)) S.1 S.2.1 dX8_at_14 (by decide) ?_
    exact m_reti S hr hlocks hw dX8_at_15 ⟨by rw [ifA_f ((wi_pred x (by omega)).symm.trans c1)], rfl⟩

set_option maxHeartbeats 4000000 in
set_option maxRecDepth 100000 in
/-- reference: tankOf -/
theorem c_X8_tankOf (l : Launch) (G : GT) (N K : Nat) (ad : Nat → Nat) (M : Mem) (h61 : 61 ≤ N) (D : Nat) (hD : M 34 10 = nI D) (hD6 : D ≤ 6) (x y z : Int32) : CrI l G N K ad yX8_tankOf cX8_tankOf 5 .int 3 65 [.ref (ad 34), .int x, .int y, .int z] M (ifA (inB x D && (inB y 8 && !eqB (M 45 (tn x * 8 + tn y)) 0)) (swA z [M 48 (tn x * 8 + tn y), M 49 (tn x * 8 + tn y), M 46 (tn x * 8 + tn y), M 47 (tn x * 8 + tn y), M 50 (tn x * 8 + tn y)]) (-1)) := by
  refine cm_startI (by decide +kernel) (Nat.le_of_ble_eq_true rfl) ?_
  intro p e s m below meth c ls S hr hlocks hw hl
  have hl : lv_has ls 5 [(0, .ref (ad 34)), (1, .int x), (2, .int y), (3, .int z)] := hl
  refine lv_aload_n S.1 S.2.1 dX8_tankOf_0 rfl (lv_at hl 0 rfl) ?_
  refine lv_iload_n S.1 S.2.1 dX8_tankOf_1 rfl (lv_at hl 1 rfl) ?_
  refine lv_iload_n S.1 S.2.1 dX8_tankOf_2 rfl (lv_at hl 2 rfl) ?_
  refine r_VI (As := [.int x, .int y]) (rest := []) 34 S hw (by omega) rfl rfl (c_X8_isTank l G N K ad M h61 D hD hD6 x y) mf_X8_isTank wm_X8_130 ⟨by decide, by decide⟩ ⟨Nat.le_refl _, Nat.le_refl _⟩ hl.1 rfl (Nat.le_of_ble_eq_true rfl) dX8_tankOf_3 (fun H locs hw => ?_)
  refine b_ne (tgt := 11) S dX8_tankOf_6 (by decide) (fun c1 => ?_) (fun c1 => ?_)
  · have hx3 := and3 c1
    obtain ⟨a, ha, ea⟩ := inB_of hx3.1 (by omega)
    have ta : tn x = a := tn_of ea (by omega)
    obtain ⟨b, hb, eb⟩ := inB_of hx3.2.1 (by omega)
    have tb : tn y = b := tn_of eb (by omega)
    refine lv_bipush (v := nI 8) S.1 S.2.1 dX8_tankOf_11 (by decide) ?_
    refine lv_iload_n S.1 S.2.1 dX8_tankOf_13 rfl (lv_at hl 1 rfl) ?_
    refine m_top (show x = nI a from ea) ?_
    refine lv_imul S.1 S.2.1 dX8_tankOf_14 ?_
    refine m_top (show (nI 8) * (nI a) = nI (a * 8) from by rw [pk_mul, Nat.mul_comm]) ?_
    refine lv_iload_n S.1 S.2.1 dX8_tankOf_15 rfl (lv_at hl 2 rfl) ?_
    refine m_top (show y = nI b from eb) ?_
    refine lv_iadd S.1 S.2.1 dX8_tankOf_16 ?_
    refine m_top (show (nI (a * 8)) + (nI b) = nI (a * 8 + b) from nI_add _ _) ?_
    refine lv_istore (lv' := [(4, .int (nI (a * 8 + b))), (0, .ref (ad 34)), (1, .int x), (2, .int y), (3, .int z)]) S.1 S.2.1 dX8_tankOf_17 hl (by decide) rfl (fun ls hl => ?_)
    refine lv_iload_n S.1 S.2.1 dX8_tankOf_19 rfl (lv_at hl 4 rfl) ?_
    rcases sw_cases z 4 with hsw2 | ⟨jsw2, hj2, hsw2⟩
    · refine lv_tableOut (tgt := 96) S.1 S.2.1 dX8_tankOf_20 hsw2 (by decide) ?_
      refine lv_iconst (v := (-1)) S.1 S.2.1 dX8_tankOf_96 (by decide) ?_
      exact m_reti S hr hlocks hw dX8_tankOf_97 ⟨by rw [ifA_t c1, swA_o hsw2 rfl], rfl⟩
    · rcases (show jsw2 = 0 ∨ jsw2 = 1 ∨ jsw2 = 2 ∨ jsw2 = 3 ∨ jsw2 = 4 by omega) with rfl | rfl | rfl | rfl | rfl
      · refine lv_tableIn (off := 36) (tgt := 56) S.1 S.2.1 dX8_tankOf_20 (by rw [hsw2]; decide) (by rw [hsw2]; decide) (by rw [hsw2]; rfl) (by decide) ?_
        refine lv_aload_n S.1 S.2.1 dX8_tankOf_56 rfl (lv_at hl 1 rfl) ?_
        refine m_getR 34 17 48 S hw (by omega) rfl rfl rfl in_X8 (by decide) wf_X8_60 dX8_tankOf_57 ?_
        refine lv_iload S.1 S.2.1 dX8_tankOf_60 (lv_at hl 0 rfl) ?_
        refine m_ald 48 (a * 8 + b) S hw (by omega) rfl (by decide) (by omega) rfl dX8_tankOf_62 ?_
        exact m_reti S hr hlocks hw dX8_tankOf_63 ⟨by rw [ifA_t c1, swA_at (j := 0) hsw2, ta, tb]; first | done | rfl, rfl⟩
      · refine lv_tableIn (off := 44) (tgt := 64) S.1 S.2.1 dX8_tankOf_20 (by rw [hsw2]; decide) (by rw [hsw2]; decide) (by rw [hsw2]; rfl) (by decide) ?_
        refine lv_aload_n S.1 S.2.1 dX8_tankOf_64 rfl (lv_at hl 1 rfl) ?_
        refine m_getR 34 18 49 S hw (by omega) rfl rfl rfl in_X8 (by decide) wf_X8_63 dX8_tankOf_65 ?_
        refine lv_iload S.1 S.2.1 dX8_tankOf_68 (lv_at hl 0 rfl) ?_
        refine m_ald 49 (a * 8 + b) S hw (by omega) rfl (by decide) (by omega) rfl dX8_tankOf_70 ?_
        exact m_reti S hr hlocks hw dX8_tankOf_71 ⟨by rw [ifA_t c1, swA_at (j := 1) hsw2, ta, tb]; first | done | rfl, rfl⟩
      · refine lv_tableIn (off := 52) (tgt := 72) S.1 S.2.1 dX8_tankOf_20 (by rw [hsw2]; decide) (by rw [hsw2]; decide) (by rw [hsw2]; rfl) (by decide) ?_
        refine lv_aload_n S.1 S.2.1 dX8_tankOf_72 rfl (lv_at hl 1 rfl) ?_
        refine m_getR 34 15 46 S hw (by omega) rfl rfl rfl in_X8 (by decide) wf_X8_54 dX8_tankOf_73 ?_
        refine lv_iload S.1 S.2.1 dX8_tankOf_76 (lv_at hl 0 rfl) ?_
        refine m_ald 46 (a * 8 + b) S hw (by omega) rfl (by decide) (by omega) rfl dX8_tankOf_78 ?_
        exact m_reti S hr hlocks hw dX8_tankOf_79 ⟨by rw [ifA_t c1, swA_at (j := 2) hsw2, ta, tb]; first | done | rfl, rfl⟩
      · refine lv_tableIn (off := 60) (tgt := 80) S.1 S.2.1 dX8_tankOf_20 (by rw [hsw2]; decide) (by rw [hsw2]; decide) (by rw [hsw2]; rfl) (by decide) ?_
        refine lv_aload_n S.1 S.2.1 dX8_tankOf_80 rfl (lv_at hl 1 rfl) ?_
        refine m_getR 34 16 47 S hw (by omega) rfl rfl rfl in_X8 (by decide) wf_X8_57 dX8_tankOf_81 ?_
        refine lv_iload S.1 S.2.1 dX8_tankOf_84 (lv_at hl 0 rfl) ?_
        refine m_ald 47 (a * 8 + b) S hw (by omega) rfl (by decide) (by omega) rfl dX8_tankOf_86 ?_
        exact m_reti S hr hlocks hw dX8_tankOf_87 ⟨by rw [ifA_t c1, swA_at (j := 3) hsw2, ta, tb]; first | done | rfl, rfl⟩
      · refine lv_tableIn (off := 68) (tgt := 88) S.1 S.2.1 dX8_tankOf_20 (by rw [hsw2]; decide) (by rw [hsw2]; decide) (by rw [hsw2]; rfl) (by decide) ?_
        refine lv_aload_n S.1 S.2.1 dX8_tankOf_88 rfl (lv_at hl 1 rfl) ?_
        refine m_getR 34 19 50 S hw (by omega) rfl rfl rfl in_X8 (by decide) wf_X8_66 dX8_tankOf_89 ?_
        refine lv_iload S.1 S.2.1 dX8_tankOf_92 (lv_at hl 0 rfl) ?_
        refine m_ald 50 (a * 8 + b) S hw (by omega) rfl (by decide) (by omega) rfl dX8_tankOf_94 ?_
        exact m_reti S hr hlocks hw dX8_tankOf_95 ⟨by rw [ifA_t c1, swA_at (j := 4) hsw2, ta, tb]; first | done | rfl, rfl⟩
  · refine lv_iconst (v := (-1)) S.1 S.2.1 dX8_tankOf_9 (by decide) ?_
    exact m_reti S hr hlocks hw dX8_tankOf_10 ⟨by rw [ifA_f c1], rfl⟩

set_option maxHeartbeats 4000000 in
set_option maxRecDepth 100000 in
/-- reference: about -/
theorem c_X8_about (l : Launch) (G : GT) (N K : Nat) (ad : Nat → Nat) (M : Mem) (h61 : 61 ≤ N) (D : Nat) (hD : M 34 10 = nI D) (hD6 : D ≤ 6) (x y : Int32) : CrI l G N K ad yX8_about cX8_about 3 .int 2 43 [.ref (ad 34), .int x, .int y] M (ifA (inB x D) (swA y [M 42 (tn x), M 43 (tn x), M 44 (tn x)]) (-1)) := by
  refine cm_startI (by decide +kernel) (Nat.le_of_ble_eq_true rfl) ?_
  intro p e s m below meth c ls S hr hlocks hw hl
  have hl : lv_has ls 3 [(0, .ref (ad 34)), (1, .int x), (2, .int y)] := hl
  refine lv_aload_n S.1 S.2.1 dX8_about_0 rfl (lv_at hl 0 rfl) ?_
  refine lv_iload_n S.1 S.2.1 dX8_about_1 rfl (lv_at hl 1 rfl) ?_
  refine r_VI (As := [.int x]) (rest := []) 34 S hw (by omega) rfl rfl (c_X8_isDoor l G N K ad M h61 D hD hD6 x) mf_X8_isDoor wm_X8_123 ⟨by decide, by decide⟩ ⟨Nat.le_refl _, Nat.le_refl _⟩ hl.1 rfl (Nat.le_of_ble_eq_true rfl) dX8_about_2 (fun H locs hw => ?_)
  refine b_ne (tgt := 10) S dX8_about_5 (by decide) (fun c1 => ?_) (fun c1 => ?_)
  · obtain ⟨a, ha, ea⟩ := inB_of c1 (by omega)
    have ta : tn x = a := tn_of ea (by omega)
    refine lv_iload_n S.1 S.2.1 dX8_about_10 rfl (lv_at hl 2 rfl) ?_
    refine lv_if_ne (tgt := 23) S.1 S.2.1 dX8_about_11 (by decide) (fun c2 => ?_) (fun c2 => ?_)
    · refine lv_iload_n S.1 S.2.1 dX8_about_23 rfl (lv_at hl 2 rfl) ?_
      refine lv_iconst (v := nI 1) S.1 S.2.1 dX8_about_24 (by decide) ?_
      refine lv_icmp_ne (tgt := 37) S.1 S.2.1 dX8_about_25 (by decide) (fun c3 => ?_) (fun c3 => ?_)
      · refine lv_iload_n S.1 S.2.1 dX8_about_37 rfl (lv_at hl 2 rfl) ?_
        refine lv_iconst (v := nI 2) S.1 S.2.1 dX8_about_38 (by decide) ?_
        refine lv_icmp_ne (tgt := 51) S.1 S.2.1 dX8_about_39 (by decide) (fun c4 => ?_) (fun c4 => ?_)
        · refine lv_iconst (v := (-1)) S.1 S.2.1 dX8_about_51 (by decide) ?_
          exact m_reti S hr hlocks hw dX8_about_52 ⟨by rw [ifA_t c1, sw_n c2 c3 c4], rfl⟩
        · refine lv_aload_n S.1 S.2.1 dX8_about_42 rfl (lv_at hl 0 rfl) ?_
          refine m_getR 34 13 44 S hw (by omega) rfl rfl rfl in_X8 (by decide) wf_X8_47 dX8_about_43 ?_
          refine lv_iload_n S.1 S.2.1 dX8_about_46 rfl (lv_at hl 1 rfl) ?_
          refine m_top (show x = nI a from ea) ?_
          refine m_ald 44 a S hw (by omega) rfl (by decide) (by omega) rfl dX8_about_47 ?_
          refine lv_goto (tgt := 52) S.1 S.2.1 dX8_about_48 (by decide) ?_
          exact m_reti S hr hlocks hw dX8_about_52 ⟨by rw [ifA_t c1, sw_2 c4, ta]; first | done | rfl, rfl⟩
      · refine lv_aload_n S.1 S.2.1 dX8_about_28 rfl (lv_at hl 0 rfl) ?_
        refine m_getR 34 12 43 S hw (by omega) rfl rfl rfl in_X8 (by decide) wf_X8_44 dX8_about_29 ?_
        refine lv_iload_n S.1 S.2.1 dX8_about_32 rfl (lv_at hl 1 rfl) ?_
        refine m_top (show x = nI a from ea) ?_
        refine m_ald 43 a S hw (by omega) rfl (by decide) (by omega) rfl dX8_about_33 ?_
        refine lv_goto (tgt := 52) S.1 S.2.1 dX8_about_34 (by decide) ?_
        exact m_reti S hr hlocks hw dX8_about_52 ⟨by rw [ifA_t c1, sw_1 c3, ta]; first | done | rfl, rfl⟩
    · refine lv_aload_n S.1 S.2.1 dX8_about_14 rfl (lv_at hl 0 rfl) ?_
      refine m_getR 34 11 42 S hw (by omega) rfl rfl rfl in_X8 (by decide) wf_X8_41 dX8_about_15 ?_
      refine lv_iload_n S.1 S.2.1 dX8_about_18 rfl (lv_at hl 1 rfl) ?_
      refine m_top (show x = nI a from ea) ?_
      refine m_ald 42 a S hw (by omega) rfl (by decide) (by omega) rfl dX8_about_19 ?_
      refine lv_goto (tgt := 52) S.1 S.2.1 dX8_about_20 (by decide) ?_
      exact m_reti S hr hlocks hw dX8_about_52 ⟨by rw [ifA_t c1, sw_0 c2, ta]; first | done | rfl, rfl⟩
  · refine lv_iconst (v := (-1)) S.1 S.2.1 dX8_about_8 (by decide) ?_
    exact m_reti S hr hlocks hw dX8_about_9 ⟨by rw [ifA_f c1], rfl⟩

set_option maxHeartbeats 4000000 in
set_option maxRecDepth 100000 in
/-- reference: wished -/
theorem c_X8_wished (l : Launch) (G : GT) (N K : Nat) (ad : Nat → Nat) (M : Mem) (h61 : 61 ≤ N) (Wn : Nat) (hWn : M 34 26 = nI Wn) (hW20 : Wn ≤ 20) (hwt : ∀ w, w < Wn → inB (M 55 w) 48 = true) (x y : Int32) : CrI l G N K ad yX8_wished cX8_wished 4 .int 1 22 [.ref (ad 34), .int x, .int y] M (ifA (inB x Wn) (swA y [M 59 (tn x), lateS (M 59) (M 57) (M 34 24) (tn x), wantS (M 55) (M 56) (M 58) (M 50) (tn x)]) (-1)) := by
  refine cm_startI (by decide +kernel) (Nat.le_of_ble_eq_true rfl) ?_
  intro p e s m below meth c ls S hr hlocks hw hl
  have hl : lv_has ls 4 [(0, .ref (ad 34)), (1, .int x), (2, .int y)] := hl
  refine lv_iload_n S.1 S.2.1 dX8_wished_0 rfl (lv_at hl 1 rfl) ?_
  refine lv_iconst (v := nI 0) S.1 S.2.1 dX8_wished_1 (by decide) ?_
  refine lv_aload_n S.1 S.2.1 dX8_wished_2 rfl (lv_at hl 0 rfl) ?_
  refine m_getI 34 26 S hw (by omega) rfl rfl rfl in_X8 (by decide) wf_X8_111 dX8_wished_3 ?_
  refine m_top (show M 34 26 = nI Wn from hWn) ?_
  refine lv_iconst (v := nI 1) S.1 S.2.1 dX8_wished_6 (by decide) ?_
  refine lv_isub S.1 S.2.1 dX8_wished_7 ?_
  refine r_SI (As := [.int x, .int (nI 0), .int ((nI Wn) - (nI 1))]) (rest := []) S hw (c_X8_in l G N K ad M x (nI 0) ((nI Wn) - (nI 1))) mf_X8_in wm_X8_104 ⟨by decide, by decide⟩ ⟨Nat.le_refl _, Nat.le_refl _⟩ hl.1 rfl (Nat.le_of_ble_eq_true rfl) dX8_wished_8 (fun H locs hw => ?_)
  refine b_ne (tgt := 16) S dX8_wished_11 (by decide) (fun c1 => ?_) (fun c1 => ?_)
  · have hyes : inB x Wn = true := ((wi_pred x (by omega)).symm.trans c1)
    obtain ⟨a, ha, ea⟩ := inB_of hyes (by omega)
    have ta : tn x = a := tn_of ea (by omega)
    obtain ⟨tk, htk48, htk⟩ := inB_of (hwt a ha) (by decide)
    have ttk : tn (M 55 a) = tk := tn_of htk (by omega)
    refine lv_aload_n S.1 S.2.1 dX8_wished_16 rfl (lv_at hl 0 rfl) ?_
    refine m_getR 34 28 56 S hw (by omega) rfl rfl rfl in_X8 (by decide) wf_X8_84 dX8_wished_17 ?_
    refine lv_iload_n S.1 S.2.1 dX8_wished_20 rfl (lv_at hl 1 rfl) ?_
    refine m_top (show x = nI a from ea) ?_
    refine m_ald 56 a S hw (by omega) rfl (by decide) (by omega) rfl dX8_wished_21 ?_
    refine lv_aload_n S.1 S.2.1 dX8_wished_22 rfl (lv_at hl 0 rfl) ?_
    refine m_getR 34 19 50 S hw (by omega) rfl rfl rfl in_X8 (by decide) wf_X8_66 dX8_wished_23 ?_
    refine lv_aload_n S.1 S.2.1 dX8_wished_26 rfl (lv_at hl 0 rfl) ?_
    refine m_getR 34 27 55 S hw (by omega) rfl rfl rfl in_X8 (by decide) wf_X8_81 dX8_wished_27 ?_
    refine lv_iload_n S.1 S.2.1 dX8_wished_30 rfl (lv_at hl 1 rfl) ?_
    refine m_top (show x = nI a from ea) ?_
    refine m_ald 55 a S hw (by omega) rfl (by decide) (by omega) rfl dX8_wished_31 ?_
    refine m_top (show M 55 a = nI tk from htk) ?_
    refine m_ald 50 tk S hw (by omega) rfl (by decide) (by omega) rfl dX8_wished_32 ?_
    refine lv_isub S.1 S.2.1 dX8_wished_33 ?_
    refine lv_aload_n S.1 S.2.1 dX8_wished_34 rfl (lv_at hl 0 rfl) ?_
    refine m_getR 34 30 58 S hw (by omega) rfl rfl rfl in_X8 (by decide) wf_X8_90 dX8_wished_35 ?_
    refine lv_iload_n S.1 S.2.1 dX8_wished_38 rfl (lv_at hl 1 rfl) ?_
    refine m_top (show x = nI a from ea) ?_
    refine m_ald 58 a S hw (by omega) rfl (by decide) (by omega) rfl dX8_wished_39 ?_
    refine lv_iadd S.1 S.2.1 dX8_wished_40 ?_
    refine m_top (show ((M 56 a) - (M 50 tk)) + (M 58 a) = M 56 a - (M 50 tk - M 58 a) from sub_add32 _ _ _) ?_
    refine lv_istore_n (lv' := [(3, .int (M 56 a - (M 50 tk - M 58 a))), (0, .ref (ad 34)), (1, .int x), (2, .int y)]) S.1 S.2.1 dX8_wished_41 rfl hl (by decide) rfl (fun ls hl => ?_)
    refine lv_iload_n S.1 S.2.1 dX8_wished_42 rfl (lv_at hl 3 rfl) ?_
    refine lv_if_ne (tgt := 55) S.1 S.2.1 dX8_wished_43 (by decide) (fun c2 => ?_) (fun c2 => ?_)
    · refine lv_iload_n S.1 S.2.1 dX8_wished_55 rfl (lv_at hl 3 rfl) ?_
      refine lv_iconst (v := nI 1) S.1 S.2.1 dX8_wished_56 (by decide) ?_
      refine lv_icmp_ne (tgt := 68) S.1 S.2.1 dX8_wished_57 (by decide) (fun c3 => ?_) (fun c3 => ?_)
      · refine lv_iload_n S.1 S.2.1 dX8_wished_68 rfl (lv_at hl 3 rfl) ?_
        refine lv_iconst (v := nI 2) S.1 S.2.1 dX8_wished_69 (by decide) ?_
        refine lv_icmp_ne (tgt := 85) S.1 S.2.1 dX8_wished_70 (by decide) (fun c4 => ?_) (fun c4 => ?_)
        · refine lv_iconst (v := (-1)) S.1 S.2.1 dX8_wished_85 (by decide) ?_
          exact m_reti S hr hlocks hw dX8_wished_86 ⟨by rw [ifA_t hyes, sw_n c2 c3 c4], rfl⟩
        · refine lv_iload_n S.1 S.2.1 dX8_wished_73 rfl (lv_at hl 0 rfl) ?_
          refine lv_if_le (tgt := 81) S.1 S.2.1 dX8_wished_74 (by decide) (fun c5 => ?_) (fun c5 => ?_)
          · refine lv_iconst (v := nI 0) S.1 S.2.1 dX8_wished_81 (by decide) ?_
            refine lv_goto (tgt := 86) S.1 S.2.1 dX8_wished_82 (by decide) ?_
            exact m_reti S hr hlocks hw dX8_wished_86 ⟨by rw [ifA_t hyes, sw_2 c4, ta]; exact (want_n (wt := M 55) (wm := M 56) (wc := M 58) (ca := M 50) ttk c5).symm, rfl⟩
          · refine lv_iload_n S.1 S.2.1 dX8_wished_77 rfl (lv_at hl 0 rfl) ?_
            refine lv_goto (tgt := 86) S.1 S.2.1 dX8_wished_78 (by decide) ?_
            exact m_reti S hr hlocks hw dX8_wished_86 ⟨by rw [ifA_t hyes, sw_2 c4, ta]; exact (want_y (wt := M 55) (wm := M 56) (wc := M 58) (ca := M 50) ttk c5).symm, rfl⟩
      · refine lv_aload_n S.1 S.2.1 dX8_wished_60 rfl (lv_at hl 1 rfl) ?_
        refine lv_iload_n S.1 S.2.1 dX8_wished_61 rfl (lv_at hl 2 rfl) ?_
        refine m_top (show x = nI a from ea) ?_
        refine r_VI (As := [.int (nI a)]) (rest := []) 34 S hw (by omega) rfl rfl (c_X8_late l G N K ad M h61 a (by omega)) mf_X8_late wm_X8_189 ⟨by decide, by decide⟩ ⟨Nat.le_refl _, Nat.le_refl _⟩ hl.1 rfl (Nat.le_of_ble_eq_true rfl) dX8_wished_62 (fun H locs hw => ?_)
        refine lv_goto (tgt := 86) S.1 S.2.1 dX8_wished_65 (by decide) ?_
        exact m_reti S hr hlocks hw dX8_wished_86 ⟨by rw [ifA_t hyes, sw_1 c3, ta]; first | done | rfl, rfl⟩
    · refine lv_aload_n S.1 S.2.1 dX8_wished_46 rfl (lv_at hl 1 rfl) ?_
      refine m_getR 34 31 59 S hw (by omega) rfl rfl rfl in_X8 (by decide) wf_X8_93 dX8_wished_47 ?_
      refine lv_iload_n S.1 S.2.1 dX8_wished_50 rfl (lv_at hl 2 rfl) ?_
      refine m_top (show x = nI a from ea) ?_
      refine m_ald 59 a S hw (by omega) rfl (by decide) (by omega) rfl dX8_wished_51 ?_
      refine lv_goto (tgt := 86) S.1 S.2.1 dX8_wished_52 (by decide) ?_
      exact m_reti S hr hlocks hw dX8_wished_86 ⟨by rw [ifA_t hyes, sw_0 c2, ta]; first | done | rfl, rfl⟩
  · refine lv_iconst (v := (-1)) S.1 S.2.1 dX8_wished_14 (by decide) ?_
    exact m_reti S hr hlocks hw dX8_wished_15 ⟨by rw [ifA_f ((wi_pred x (by omega)).symm.trans c1)], rfl⟩

set_option maxHeartbeats 4000000 in
set_option maxRecDepth 100000 in
/-- reference: borders -/
theorem c_X8_borders (l : Launch) (G : GT) (N K : Nat) (ad : Nat → Nat) (M : Mem) (h61 : 61 ≤ N) (n : Nat) (hn : M 34 1 = nI n) (hn1 : n ≤ 120) : CrI l G N K ad yX8_borders cX8_borders 3 .int 3 66 [.ref (ad 34)] M (nI (cntB (fun j => (bord (M 37) (M 36) j).isSome) n)) := by
  refine cm_startI (by decide +kernel) (Nat.le_of_ble_eq_true rfl) ?_
  intro p e s m below meth c ls S hr hlocks hw hl
  have hl : lv_has ls 3 [(0, .ref (ad 34))] := hl
  generalize hAv : List.toArray ([.ref (ad 34)] : List Value) = A at S ⊢
  have loop : ∀ (n' : Nat) (i : Nat), i + n' = n → ∀ (H : Heap) (locs : List Loc) (ls : Array Slot), Wd G N K ad M s H locs → lv_has ls 3 [(0, .ref (ad 34)), (1, .int (nI (cntB (fun j => (bord (M 37) (M 36) j).isSome) i))), (2, .int (nI i))] → W p l e { frames := 3, cells := 0, slots := 0, locals := 66 } s m A below meth c H locs 0 0 (QmI G N K ad (fun r M' => r = (nI (cntB (fun j => (bord (M 37) (M 36) j).isSome) n)) ∧ M' = M) below A s) (F0 m 4 ls []) := by
    intro n'
    induction n' with
    | zero =>
      intro i hi H locs ls hw hl
      refine lv_iload_n S.1 S.2.1 dX8_borders_4 rfl (lv_at hl 2 rfl) ?_
      refine lv_aload_n S.1 S.2.1 dX8_borders_5 rfl (lv_at hl 0 rfl) ?_
      refine m_getI 34 1 S hw (by omega) rfl rfl rfl in_X8 (by decide) wf_X8_13 dX8_borders_6 ?_
      refine m_top (show M 34 1 = nI n from hn) ?_
      refine n_ge (tgt := 35) S (by omega) (by omega) dX8_borders_9 (by decide) (fun c1 => ?_) (fun c1 => absurd c1 (by omega))
      refine lv_iload_n S.1 S.2.1 dX8_borders_35 rfl (lv_at hl 1 rfl) ?_
      exact m_reti S hr hlocks hw dX8_borders_36 ⟨by rw [show i = n by omega], rfl⟩
    | succ n' ih =>
      intro i hi H locs ls hw hl
      refine lv_iload_n S.1 S.2.1 dX8_borders_4 rfl (lv_at hl 2 rfl) ?_
      refine lv_aload_n S.1 S.2.1 dX8_borders_5 rfl (lv_at hl 0 rfl) ?_
      refine m_getI 34 1 S hw (by omega) rfl rfl rfl in_X8 (by decide) wf_X8_13 dX8_borders_6 ?_
      refine m_top (show M 34 1 = nI n from hn) ?_
      refine n_ge (tgt := 35) S (by omega) (by omega) dX8_borders_9 (by decide) (fun c1 => absurd c1 (by omega)) (fun c1 => ?_)
      refine lv_iload_n S.1 S.2.1 dX8_borders_12 rfl (lv_at hl 1 rfl) ?_
      refine lv_aload_n S.1 S.2.1 dX8_borders_13 rfl (lv_at hl 0 rfl) ?_
      refine lv_iload_n S.1 S.2.1 dX8_borders_14 rfl (lv_at hl 2 rfl) ?_
      refine r_VI (As := [.int (nI i)]) (rest := [.int (nI (cntB (fun j => (bord (M 37) (M 36) j).isSome) i))]) 34 S hw (by omega) rfl rfl (c_X8_border l G N K ad M h61 n hn hn1 i (by omega)) mf_X8_border wm_X8_159 ⟨by decide, by decide⟩ ⟨Nat.le_refl _, Nat.le_refl _⟩ hl.1 rfl (Nat.le_of_ble_eq_true rfl) dX8_borders_15 (fun H locs hw => ?_)
      rcases opt_cases (bord (M 37) (M 36) i) with hbd | ⟨b, hbd⟩
      · refine m_top (show enc (bord (M 37) (M 36) i) = (-1) from enc_n hbd) ?_
        refine lv_iconst (v := (-1)) S.1 S.2.1 dX8_borders_18 (by decide) ?_
        refine lv_icmp_ne (tgt := 26) S.1 S.2.1 dX8_borders_19 (by decide) (fun c2 => absurd c2 (fun z => z rfl)) (fun c2 => ?_)
        refine lv_iconst (v := nI 0) S.1 S.2.1 dX8_borders_22 (by decide) ?_
        refine lv_goto (tgt := 27) S.1 S.2.1 dX8_borders_23 (by decide) ?_
        refine lv_iadd S.1 S.2.1 dX8_borders_27 ?_
        refine m_top (show (nI (cntB (fun j => (bord (M 37) (M 36) j).isSome) i)) + (nI 0) = nI ((cntB (fun j => (bord (M 37) (M 36) j).isSome) i) + 0) from nI_add _ _) ?_
        refine lv_istore_n (lv' := [(1, .int (nI ((cntB (fun j => (bord (M 37) (M 36) j).isSome) i) + 0))), (0, .ref (ad 34)), (2, .int (nI i))]) S.1 S.2.1 dX8_borders_28 rfl hl (by decide) rfl (fun ls hl => ?_)
        refine lv_iinc (v := nI (i + 1)) (lv' := [(2, .int (nI (i + 1))), (1, .int (nI ((cntB (fun j => (bord (M 37) (M 36) j).isSome) i) + 0))), (0, .ref (ad 34))]) S.1 S.2.1 dX8_borders_29 hl (k := 2) rfl (iinc1 _) (by decide) rfl (fun ls hl => ?_)
        refine lv_goto (tgt := 4) S.1 S.2.1 dX8_borders_32 (by decide) ?_
        have hl : lv_has ls 3 [(2, .int (nI (i + 1))), (1, .int (nI (cntB (fun j => (bord (M 37) (M 36) j).isSome) (i + 1)))), (0, .ref (ad 34))] := by rw [cntB_f (p := (fun j => (bord (M 37) (M 36) j).isSome)) (isS_f hbd)]; exact hl
        exact ih (i + 1) (by omega) _ _ ls hw (lv_sub hl [2, 1, 0] rfl)
      · have hbl := bord_lt hbd
        refine m_top (show enc (bord (M 37) (M 36) i) = nI b from enc_s hbd) ?_
        refine lv_iconst (v := (-1)) S.1 S.2.1 dX8_borders_18 (by decide) ?_
        refine lv_icmp_ne (tgt := 26) S.1 S.2.1 dX8_borders_19 (by decide) (fun c3 => ?_) (fun c3 => absurd c3 (enc_ne (by omega)))
        refine lv_iconst (v := nI 1) S.1 S.2.1 dX8_borders_26 (by decide) ?_
        refine lv_iadd S.1 S.2.1 dX8_borders_27 ?_
        refine m_top (show (nI (cntB (fun j => (bord (M 37) (M 36) j).isSome) i)) + (nI 1) = nI ((cntB (fun j => (bord (M 37) (M 36) j).isSome) i) + 1) from nI_add _ _) ?_
        refine lv_istore_n (lv' := [(1, .int (nI ((cntB (fun j => (bord (M 37) (M 36) j).isSome) i) + 1))), (0, .ref (ad 34)), (2, .int (nI i))]) S.1 S.2.1 dX8_borders_28 rfl hl (by decide) rfl (fun ls hl => ?_)
        refine lv_iinc (v := nI (i + 1)) (lv' := [(2, .int (nI (i + 1))), (1, .int (nI ((cntB (fun j => (bord (M 37) (M 36) j).isSome) i) + 1))), (0, .ref (ad 34))]) S.1 S.2.1 dX8_borders_29 hl (k := 2) rfl (iinc1 _) (by decide) rfl (fun ls hl => ?_)
        refine lv_goto (tgt := 4) S.1 S.2.1 dX8_borders_32 (by decide) ?_
        have hl : lv_has ls 3 [(2, .int (nI (i + 1))), (1, .int (nI (cntB (fun j => (bord (M 37) (M 36) j).isSome) (i + 1)))), (0, .ref (ad 34))] := by rw [cntB_t (p := (fun j => (bord (M 37) (M 36) j).isSome)) (isS_t hbd)]; exact hl
        exact ih (i + 1) (by omega) _ _ ls hw (lv_sub hl [2, 1, 0] rfl)
  refine lv_iconst (v := nI 0) S.1 S.2.1 dX8_borders_0 (by decide) ?_
  refine lv_istore_n (lv' := [(1, .int (nI 0)), (0, .ref (ad 34))]) S.1 S.2.1 dX8_borders_1 rfl hl (by decide) rfl (fun ls hl => ?_)
  refine lv_iconst (v := nI 0) S.1 S.2.1 dX8_borders_2 (by decide) ?_
  refine lv_istore_n (lv' := [(2, .int (nI 0)), (1, .int (nI 0)), (0, .ref (ad 34))]) S.1 S.2.1 dX8_borders_3 rfl hl (by decide) rfl (fun ls hl => ?_)
  exact loop n 0 (by omega) _ _ ls hw (lv_sub hl [2, 1, 0] rfl)

set_option maxHeartbeats 4000000 in
set_option maxRecDepth 100000 in
/-- reference: batch -/
theorem c_X8_batch (l : Launch) (G : GT) (N K : Nat) (ad : Nat → Nat) (M : Mem) (h61 : 61 ≤ N) (n : Nat) (hn : M 34 1 = nI n) (hn1 : n ≤ 120) (bn : Nat) (hbn : M 34 6 = nI bn) (hbn1 : bn ≤ 200) (x y : Int32) : CrI l G N K ad yX8_batch cX8_batch 7 .int 1 22 [.ref (ad 34), .int x, .int y] M (ifA (inB x bn) (swA y [M 39 (tn x), nI (cntB (fun j => eqB (M 35 j) x) n), enc (fstE (fun j => eqB (M 35 j) x) n 0), enc (lstB (fun j => eqB (M 35 j) x) n), M 41 (tn x), M 40 (tn x)]) (-1)) := by
  refine cm_startI (by decide +kernel) (Nat.le_of_ble_eq_true rfl) ?_
  intro p e s m below meth c ls S hr hlocks hw hl
  have hl : lv_has ls 7 [(0, .ref (ad 34)), (1, .int x), (2, .int y)] := hl
  generalize hAv : List.toArray ([.ref (ad 34), .int x, .int y] : List Value) = A at S ⊢
  have loop : ∀ (n' : Nat) (i : Nat), i + n' = n → inB x bn = true → ∀ (H : Heap) (locs : List Loc) (ls : Array Slot), Wd G N K ad M s H locs → lv_has ls 7 [(0, .ref (ad 34)), (1, .int x), (2, .int y), (3, .int (nI (cntB (fun j => eqB (M 35 j) x) i))), (4, .int (enc (fstE (fun j => eqB (M 35 j) x) i 0))), (5, .int (enc (lstB (fun j => eqB (M 35 j) x) i))), (6, .int (nI i))] → W p l e { frames := 1, cells := 0, slots := 0, locals := 22 } s m A below meth c H locs 0 0 (QmI G N K ad (fun r M' => r = (ifA (inB x bn) (swA y [M 39 (tn x), nI (cntB (fun j => eqB (M 35 j) x) n), enc (fstE (fun j => eqB (M 35 j) x) n 0), enc (lstB (fun j => eqB (M 35 j) x) n), M 41 (tn x), M 40 (tn x)]) (-1)) ∧ M' = M) below A s) (F0 m 27 ls []) := by
    intro n'
    induction n' with
    | zero =>
      intro i hi hyes H locs ls hw hl
      obtain ⟨a, ha, ea⟩ := inB_of hyes (by omega)
      have ta : tn x = a := tn_of ea (by omega)
      have hin : i = n := by omega
      subst hin
      refine lv_iload S.1 S.2.1 dX8_batch_27 (lv_at hl 6 rfl) ?_
      refine lv_aload_n S.1 S.2.1 dX8_batch_29 rfl (lv_at hl 0 rfl) ?_
      refine m_getI 34 1 S hw (by omega) rfl rfl rfl in_X8 (by decide) wf_X8_13 dX8_batch_30 ?_
      refine m_top (show M 34 1 = nI i from hn) ?_
      refine n_ge (tgt := 78) S (by omega) (by omega) dX8_batch_33 (by decide) (fun c1 => ?_) (fun c1 => absurd c1 (by omega))
      refine lv_iload_n S.1 S.2.1 dX8_batch_78 rfl (lv_at hl 2 rfl) ?_
      rcases sw_cases y 5 with hsw2 | ⟨jsw2, hj2, hsw2⟩
      · refine lv_tableOut (tgt := 145) S.1 S.2.1 dX8_batch_79 hsw2 (by decide) ?_
        refine lv_iconst (v := (-1)) S.1 S.2.1 dX8_batch_145 (by decide) ?_
        exact m_reti S hr hlocks hw dX8_batch_146 ⟨by rw [ifA_t hyes, swA_o hsw2 rfl], rfl⟩
      · rcases (show jsw2 = 0 ∨ jsw2 = 1 ∨ jsw2 = 2 ∨ jsw2 = 3 ∨ jsw2 = 4 ∨ jsw2 = 5 by omega) with rfl | rfl | rfl | rfl | rfl | rfl
        · refine lv_tableIn (off := 37) (tgt := 116) S.1 S.2.1 dX8_batch_79 (by rw [hsw2]; decide) (by rw [hsw2]; decide) (by rw [hsw2]; rfl) (by decide) ?_
          refine lv_aload_n S.1 S.2.1 dX8_batch_116 rfl (lv_at hl 0 rfl) ?_
          refine m_getR 34 7 39 S hw (by omega) rfl rfl rfl in_X8 (by decide) wf_X8_32 dX8_batch_117 ?_
          refine lv_iload_n S.1 S.2.1 dX8_batch_120 rfl (lv_at hl 1 rfl) ?_
          refine m_top (show x = nI a from ea) ?_
          refine m_ald 39 a S hw (by omega) rfl (by decide) (by omega) rfl dX8_batch_121 ?_
          exact m_reti S hr hlocks hw dX8_batch_122 ⟨by rw [ifA_t hyes, swA_at (j := 0) hsw2, ta]; first | done | rfl, rfl⟩
        · refine lv_tableIn (off := 44) (tgt := 123) S.1 S.2.1 dX8_batch_79 (by rw [hsw2]; decide) (by rw [hsw2]; decide) (by rw [hsw2]; rfl) (by decide) ?_
          refine lv_iload_n S.1 S.2.1 dX8_batch_123 rfl (lv_at hl 3 rfl) ?_
          exact m_reti S hr hlocks hw dX8_batch_124 ⟨by rw [ifA_t hyes, swA_at (j := 1) hsw2]; first | done | rfl, rfl⟩
        · refine lv_tableIn (off := 46) (tgt := 125) S.1 S.2.1 dX8_batch_79 (by rw [hsw2]; decide) (by rw [hsw2]; decide) (by rw [hsw2]; rfl) (by decide) ?_
          refine lv_iload S.1 S.2.1 dX8_batch_125 (lv_at hl 4 rfl) ?_
          exact m_reti S hr hlocks hw dX8_batch_127 ⟨by rw [ifA_t hyes, swA_at (j := 2) hsw2]; first | done | rfl, rfl⟩
        · refine lv_tableIn (off := 49) (tgt := 128) S.1 S.2.1 dX8_batch_79 (by rw [hsw2]; decide) (by rw [hsw2]; decide) (by rw [hsw2]; rfl) (by decide) ?_
          refine lv_iload S.1 S.2.1 dX8_batch_128 (lv_at hl 5 rfl) ?_
          exact m_reti S hr hlocks hw dX8_batch_130 ⟨by rw [ifA_t hyes, swA_at (j := 3) hsw2]; first | done | rfl, rfl⟩
        · refine lv_tableIn (off := 52) (tgt := 131) S.1 S.2.1 dX8_batch_79 (by rw [hsw2]; decide) (by rw [hsw2]; decide) (by rw [hsw2]; rfl) (by decide) ?_
          refine lv_aload_n S.1 S.2.1 dX8_batch_131 rfl (lv_at hl 0 rfl) ?_
          refine m_getR 34 9 41 S hw (by omega) rfl rfl rfl in_X8 (by decide) wf_X8_38 dX8_batch_132 ?_
          refine lv_iload_n S.1 S.2.1 dX8_batch_135 rfl (lv_at hl 1 rfl) ?_
          refine m_top (show x = nI a from ea) ?_
          refine m_ald 41 a S hw (by omega) rfl (by decide) (by omega) rfl dX8_batch_136 ?_
          exact m_reti S hr hlocks hw dX8_batch_137 ⟨by rw [ifA_t hyes, swA_at (j := 4) hsw2, ta]; first | done | rfl, rfl⟩
        · refine lv_tableIn (off := 59) (tgt := 138) S.1 S.2.1 dX8_batch_79 (by rw [hsw2]; decide) (by rw [hsw2]; decide) (by rw [hsw2]; rfl) (by decide) ?_
          refine lv_aload_n S.1 S.2.1 dX8_batch_138 rfl (lv_at hl 0 rfl) ?_
          refine m_getR 34 8 40 S hw (by omega) rfl rfl rfl in_X8 (by decide) wf_X8_35 dX8_batch_139 ?_
          refine lv_iload_n S.1 S.2.1 dX8_batch_142 rfl (lv_at hl 1 rfl) ?_
          refine m_top (show x = nI a from ea) ?_
          refine m_ald 40 a S hw (by omega) rfl (by decide) (by omega) rfl dX8_batch_143 ?_
          exact m_reti S hr hlocks hw dX8_batch_144 ⟨by rw [ifA_t hyes, swA_at (j := 5) hsw2, ta]; first | done | rfl, rfl⟩
    | succ n' ih =>
      intro i hi hyes H locs ls hw hl
      refine lv_iload S.1 S.2.1 dX8_batch_27 (lv_at hl 6 rfl) ?_
      refine lv_aload_n S.1 S.2.1 dX8_batch_29 rfl (lv_at hl 0 rfl) ?_
      refine m_getI 34 1 S hw (by omega) rfl rfl rfl in_X8 (by decide) wf_X8_13 dX8_batch_30 ?_
      refine m_top (show M 34 1 = nI n from hn) ?_
      refine n_ge (tgt := 78) S (by omega) (by omega) dX8_batch_33 (by decide) (fun c1 => absurd c1 (by omega)) (fun c1 => ?_)
      refine lv_aload_n S.1 S.2.1 dX8_batch_36 rfl (lv_at hl 0 rfl) ?_
      refine m_getR 34 2 35 S hw (by omega) rfl rfl rfl in_X8 (by decide) wf_X8_16 dX8_batch_37 ?_
      refine lv_iload S.1 S.2.1 dX8_batch_40 (lv_at hl 6 rfl) ?_
      refine m_ald 35 i S hw (by omega) rfl (by decide) (by omega) rfl dX8_batch_42 ?_
      refine lv_iload_n S.1 S.2.1 dX8_batch_43 rfl (lv_at hl 1 rfl) ?_
      refine lv_icmp_eq (tgt := 50) S.1 S.2.1 dX8_batch_44 (by decide) (fun c2 => ?_) (fun c2 => ?_)
      · refine lv_iinc (v := nI ((cntB (fun j => eqB (M 35 j) x) i) + 1)) (lv' := [(3, .int (nI ((cntB (fun j => eqB (M 35 j) x) i) + 1))), (0, .ref (ad 34)), (1, .int x), (2, .int y), (4, .int (enc (fstE (fun j => eqB (M 35 j) x) i 0))), (5, .int (enc (lstB (fun j => eqB (M 35 j) x) i))), (6, .int (nI i))]) S.1 S.2.1 dX8_batch_50 hl (k := 3) rfl (iinc1 _) (by decide) rfl (fun ls hl => ?_)
        refine lv_iload S.1 S.2.1 dX8_batch_53 (lv_at hl 6 rfl) ?_
        refine lv_istore (lv' := [(5, .int (nI i)), (3, .int (nI ((cntB (fun j => eqB (M 35 j) x) i) + 1))), (0, .ref (ad 34)), (1, .int x), (2, .int y), (4, .int (enc (fstE (fun j => eqB (M 35 j) x) i 0))), (6, .int (nI i))]) S.1 S.2.1 dX8_batch_55 hl (by decide) rfl (fun ls hl => ?_)
        rcases opt_cases (fstE (fun j => eqB (M 35 j) x) i 0) with hfs | ⟨b, hfs⟩
        · skip
          refine lv_iload S.1 S.2.1 dX8_batch_57 (lv_at hl 5 rfl) ?_
          refine m_top (show enc (fstE (fun j => eqB (M 35 j) x) i 0) = (-1) from enc_n hfs) ?_
          refine lv_iconst (v := (-1)) S.1 S.2.1 dX8_batch_59 (by decide) ?_
          refine lv_icmp_ne (tgt := 68) S.1 S.2.1 dX8_batch_60 (by decide) (fun c3 => absurd c3 (fun z => z rfl)) (fun c3 => ?_)
          refine lv_iload S.1 S.2.1 dX8_batch_63 (lv_at hl 6 rfl) ?_
          refine lv_goto (tgt := 70) S.1 S.2.1 dX8_batch_65 (by decide) ?_
          refine lv_istore (lv' := [(4, .int (nI i)), (5, .int (nI i)), (3, .int (nI ((cntB (fun j => eqB (M 35 j) x) i) + 1))), (0, .ref (ad 34)), (1, .int x), (2, .int y), (6, .int (nI i))]) S.1 S.2.1 dX8_batch_70 hl (by decide) rfl (fun ls hl => ?_)
          refine lv_iinc (v := nI (i + 1)) (lv' := [(6, .int (nI (i + 1))), (4, .int (nI i)), (5, .int (nI i)), (3, .int (nI ((cntB (fun j => eqB (M 35 j) x) i) + 1))), (0, .ref (ad 34)), (1, .int x), (2, .int y)]) S.1 S.2.1 dX8_batch_72 hl (k := 6) rfl (iinc1 _) (by decide) rfl (fun ls hl => ?_)
          refine lv_goto (tgt := 27) S.1 S.2.1 dX8_batch_75 (by decide) ?_
          have hpi : (fun j => eqB (M 35 j) x) i = true := eqB_t c2
          have hl : lv_has ls 7 [(6, .int (nI (i + 1))), (4, .int (enc (fstE (fun j => eqB (M 35 j) x) (i + 1) 0))), (5, .int (enc (lstB (fun j => eqB (M 35 j) x) (i + 1)))), (3, .int (nI (cntB (fun j => eqB (M 35 j) x) (i + 1)))), (0, .ref (ad 34)), (1, .int x), (2, .int y)] := by rw [cntB_t (p := (fun j => eqB (M 35 j) x)) hpi, lstB_t (p := (fun j => eqB (M 35 j) x)) hpi, fst_y hfs hpi]; exact hl
          exact ih (i + 1) (by omega) hyes _ _ ls hw (lv_sub hl [4, 5, 6, 3, 1, 2, 0] rfl)
        · have hbl := fst_lt hfs
          refine lv_iload S.1 S.2.1 dX8_batch_57 (lv_at hl 5 rfl) ?_
          refine m_top (show enc (fstE (fun j => eqB (M 35 j) x) i 0) = nI b from enc_s hfs) ?_
          refine lv_iconst (v := (-1)) S.1 S.2.1 dX8_batch_59 (by decide) ?_
          refine lv_icmp_ne (tgt := 68) S.1 S.2.1 dX8_batch_60 (by decide) (fun c4 => ?_) (fun c4 => absurd c4 (enc_ne (by omega)))
          refine lv_iload S.1 S.2.1 dX8_batch_68 (lv_at hl 5 rfl) ?_
          refine m_top (show enc (fstE (fun j => eqB (M 35 j) x) i 0) = nI b from enc_s hfs) ?_
          refine lv_istore (lv' := [(4, .int (nI b)), (5, .int (nI i)), (3, .int (nI ((cntB (fun j => eqB (M 35 j) x) i) + 1))), (0, .ref (ad 34)), (1, .int x), (2, .int y), (6, .int (nI i))]) S.1 S.2.1 dX8_batch_70 hl (by decide) rfl (fun ls hl => ?_)
          refine lv_iinc (v := nI (i + 1)) (lv' := [(6, .int (nI (i + 1))), (4, .int (nI b)), (5, .int (nI i)), (3, .int (nI ((cntB (fun j => eqB (M 35 j) x) i) + 1))), (0, .ref (ad 34)), (1, .int x), (2, .int y)]) S.1 S.2.1 dX8_batch_72 hl (k := 6) rfl (iinc1 _) (by decide) rfl (fun ls hl => ?_)
          refine lv_goto (tgt := 27) S.1 S.2.1 dX8_batch_75 (by decide) ?_
          have hpi : (fun j => eqB (M 35 j) x) i = true := eqB_t c2
          have hl : lv_has ls 7 [(6, .int (nI (i + 1))), (4, .int (enc (fstE (fun j => eqB (M 35 j) x) (i + 1) 0))), (5, .int (enc (lstB (fun j => eqB (M 35 j) x) (i + 1)))), (3, .int (nI (cntB (fun j => eqB (M 35 j) x) (i + 1)))), (0, .ref (ad 34)), (1, .int x), (2, .int y)] := by rw [cntB_t (p := (fun j => eqB (M 35 j) x)) hpi, lstB_t (p := (fun j => eqB (M 35 j) x)) hpi, fst_o hfs]; exact hl
          exact ih (i + 1) (by omega) hyes _ _ ls hw (lv_sub hl [4, 5, 6, 3, 1, 2, 0] rfl)
      · refine lv_goto (tgt := 72) S.1 S.2.1 dX8_batch_47 (by decide) ?_
        refine lv_iinc (v := nI (i + 1)) (lv' := [(6, .int (nI (i + 1))), (0, .ref (ad 34)), (1, .int x), (2, .int y), (3, .int (nI (cntB (fun j => eqB (M 35 j) x) i))), (4, .int (enc (fstE (fun j => eqB (M 35 j) x) i 0))), (5, .int (enc (lstB (fun j => eqB (M 35 j) x) i)))]) S.1 S.2.1 dX8_batch_72 hl (k := 6) rfl (iinc1 _) (by decide) rfl (fun ls hl => ?_)
        refine lv_goto (tgt := 27) S.1 S.2.1 dX8_batch_75 (by decide) ?_
        have hpi : (fun j => eqB (M 35 j) x) i = false := eqB_f c2
        have hl : lv_has ls 7 [(6, .int (nI (i + 1))), (0, .ref (ad 34)), (1, .int x), (2, .int y), (3, .int (nI (cntB (fun j => eqB (M 35 j) x) (i + 1)))), (4, .int (enc (fstE (fun j => eqB (M 35 j) x) (i + 1) 0))), (5, .int (enc (lstB (fun j => eqB (M 35 j) x) (i + 1))))] := by rw [cntB_f (p := (fun j => eqB (M 35 j) x)) hpi, lstB_f (p := (fun j => eqB (M 35 j) x)) hpi, fst_n (p := (fun j => eqB (M 35 j) x)) hpi]; exact hl
        exact ih (i + 1) (by omega) hyes _ _ ls hw (lv_sub hl [1, 2, 3, 4, 5, 6, 0] rfl)
  refine lv_iload_n S.1 S.2.1 dX8_batch_0 rfl (lv_at hl 1 rfl) ?_
  refine lv_iconst (v := nI 0) S.1 S.2.1 dX8_batch_1 (by decide) ?_
  refine lv_aload_n S.1 S.2.1 dX8_batch_2 rfl (lv_at hl 0 rfl) ?_
  refine m_getI 34 6 S hw (by omega) rfl rfl rfl in_X8 (by decide) wf_X8_29 dX8_batch_3 ?_
  refine m_top (show M 34 6 = nI bn from hbn) ?_
  refine lv_iconst (v := nI 1) S.1 S.2.1 dX8_batch_6 (by decide) ?_
  refine lv_isub S.1 S.2.1 dX8_batch_7 ?_
  refine r_SI (As := [.int x, .int (nI 0), .int ((nI bn) - (nI 1))]) (rest := []) S hw (c_X8_in l G N K ad M x (nI 0) ((nI bn) - (nI 1))) mf_X8_in wm_X8_104 ⟨by decide, by decide⟩ ⟨Nat.le_refl _, Nat.le_refl _⟩ hl.1 rfl (Nat.le_of_ble_eq_true rfl) dX8_batch_8 (fun H locs hw => ?_)
  refine b_ne (tgt := 16) S dX8_batch_11 (by decide) (fun c1 => ?_) (fun c1 => ?_)
  · refine lv_iconst (v := nI 0) S.1 S.2.1 dX8_batch_16 (by decide) ?_
    refine lv_istore_n (lv' := [(3, .int (nI 0)), (0, .ref (ad 34)), (1, .int x), (2, .int y)]) S.1 S.2.1 dX8_batch_17 rfl hl (by decide) rfl (fun ls hl => ?_)
    refine lv_iconst (v := (-1)) S.1 S.2.1 dX8_batch_18 (by decide) ?_
    refine lv_istore (lv' := [(4, .int (-1)), (3, .int (nI 0)), (0, .ref (ad 34)), (1, .int x), (2, .int y)]) S.1 S.2.1 dX8_batch_19 hl (by decide) rfl (fun ls hl => ?_)
    refine lv_iconst (v := (-1)) S.1 S.2.1 dX8_batch_21 (by decide) ?_
    refine lv_istore (lv' := [(5, .int (-1)), (4, .int (-1)), (3, .int (nI 0)), (0, .ref (ad 34)), (1, .int x), (2, .int y)]) S.1 S.2.1 dX8_batch_22 hl (by decide) rfl (fun ls hl => ?_)
    refine lv_iconst (v := nI 0) S.1 S.2.1 dX8_batch_24 (by decide) ?_
    refine lv_istore (lv' := [(6, .int (nI 0)), (5, .int (-1)), (4, .int (-1)), (3, .int (nI 0)), (0, .ref (ad 34)), (1, .int x), (2, .int y)]) S.1 S.2.1 dX8_batch_25 hl (by decide) rfl (fun ls hl => ?_)
    exact loop n 0 (by omega) ((wi_pred x (by omega)).symm.trans c1) _ _ ls hw (lv_sub hl [4, 5, 6, 3, 2, 1, 0] rfl)
  · refine lv_iconst (v := (-1)) S.1 S.2.1 dX8_batch_14 (by decide) ?_
    exact m_reti S hr hlocks hw dX8_batch_15 ⟨by rw [ifA_f ((wi_pred x (by omega)).symm.trans c1)], rfl⟩

set_option maxHeartbeats 4000000 in
set_option maxRecDepth 100000 in
/-- reference: count -/
theorem c_X8_count (l : Launch) (G : GT) (N K : Nat) (ad : Nat → Nat) (M : Mem) (h61 : 61 ≤ N) (D : Nat) (hD : M 34 10 = nI D) (hD6 : D ≤ 6) (n : Nat) (hn : M 34 1 = nI n) (hn1 : n ≤ 120) (Wn : Nat) (hWn : M 34 26 = nI Wn) (hW20 : Wn ≤ 20) (x : Int32) : CrI l G N K ad yX8_count cX8_count 4 .int 1 22 [.ref (ad 34), .int x] M (swA x [M 34 24, M 34 25, M 34 6, nI (cntB (fun j => !pureB (M 37) j) n), sumI (M 44) D, M 34 1, M 34 10, sumI (lateS (M 59) (M 57) (M 34 24)) Wn, M 34 33]) := by
  refine cm_startI (by decide +kernel) (Nat.le_of_ble_eq_true rfl) ?_
  intro p e s m below meth c ls S hr hlocks hw hl
  have hl : lv_has ls 4 [(0, .ref (ad 34)), (1, .int x)] := hl
  generalize hAv : List.toArray ([.ref (ad 34), .int x] : List Value) = A at S ⊢
  have loop3 : ∀ (n' : Nat) (i : Nat), i + n' = n → x.toInt = 3 → ∀ (H : Heap) (locs : List Loc) (ls : Array Slot), Wd G N K ad M s H locs → lv_has ls 4 [(0, .ref (ad 34)), (1, .int x), (2, .int (nI (cntB (fun j => !pureB (M 37) j) i))), (3, .int (nI i))] → W p l e { frames := 1, cells := 0, slots := 0, locals := 22 } s m A below meth c H locs 0 0 (QmI G N K ad (fun r M' => r = (swA x [M 34 24, M 34 25, M 34 6, nI (cntB (fun j => !pureB (M 37) j) n), sumI (M 44) D, M 34 1, M 34 10, sumI (lateS (M 59) (M 57) (M 34 24)) Wn, M 34 33]) ∧ M' = M) below A s) (F0 m 69 ls []) := by
    intro n'
    induction n' with
    | zero =>
      intro i hi hx H locs ls hw hl
      refine lv_iload_n S.1 S.2.1 dX8_count_69 rfl (lv_at hl 3 rfl) ?_
      refine lv_aload_n S.1 S.2.1 dX8_count_70 rfl (lv_at hl 0 rfl) ?_
      refine m_getI 34 1 S hw (by omega) rfl rfl rfl in_X8 (by decide) wf_X8_13 dX8_count_71 ?_
      refine m_top (show M 34 1 = nI n from hn) ?_
      refine n_ge (tgt := 99) S (by omega) (by omega) dX8_count_74 (by decide) (fun c1 => ?_) (fun c1 => absurd c1 (by omega))
      refine lv_iload_n S.1 S.2.1 dX8_count_99 rfl (lv_at hl 2 rfl) ?_
      exact m_reti S hr hlocks hw dX8_count_100 ⟨by rw [swA_at (j := 3) hx, show i = n by omega]; rfl, rfl⟩
    | succ n' ih =>
      intro i hi hx H locs ls hw hl
      refine lv_iload_n S.1 S.2.1 dX8_count_69 rfl (lv_at hl 3 rfl) ?_
      refine lv_aload_n S.1 S.2.1 dX8_count_70 rfl (lv_at hl 0 rfl) ?_
      refine m_getI 34 1 S hw (by omega) rfl rfl rfl in_X8 (by decide) wf_X8_13 dX8_count_71 ?_
      refine m_top (show M 34 1 = nI n from hn) ?_
      refine n_ge (tgt := 99) S (by omega) (by omega) dX8_count_74 (by decide) (fun c1 => absurd c1 (by omega)) (fun c1 => ?_)
      refine lv_iload_n S.1 S.2.1 dX8_count_77 rfl (lv_at hl 2 rfl) ?_
      refine lv_aload_n S.1 S.2.1 dX8_count_78 rfl (lv_at hl 0 rfl) ?_
      refine lv_iload_n S.1 S.2.1 dX8_count_79 rfl (lv_at hl 3 rfl) ?_
      refine r_VI (As := [.int (nI i)]) (rest := [.int (nI (cntB (fun j => !pureB (M 37) j) i))]) 34 S hw (by omega) rfl rfl (c_X8_isPure l G N K ad M h61 i (by omega)) mf_X8_isPure wm_X8_146 ⟨by decide, by decide⟩ ⟨Nat.le_refl _, Nat.le_refl _⟩ hl.1 rfl (Nat.le_of_ble_eq_true rfl) dX8_count_80 (fun H locs hw => ?_)
      refine b_eq (tgt := 90) S dX8_count_83 (by decide) (fun c2 => ?_) (fun c2 => ?_)
      · refine lv_iconst (v := nI 1) S.1 S.2.1 dX8_count_90 (by decide) ?_
        refine lv_iadd S.1 S.2.1 dX8_count_91 ?_
        refine m_top (show (nI (cntB (fun j => !pureB (M 37) j) i)) + (nI 1) = nI ((cntB (fun j => !pureB (M 37) j) i) + 1) from nI_add _ _) ?_
        refine lv_istore_n (lv' := [(2, .int (nI ((cntB (fun j => !pureB (M 37) j) i) + 1))), (0, .ref (ad 34)), (1, .int x), (3, .int (nI i))]) S.1 S.2.1 dX8_count_92 rfl hl (by decide) rfl (fun ls hl => ?_)
        refine lv_iinc (v := nI (i + 1)) (lv' := [(3, .int (nI (i + 1))), (2, .int (nI ((cntB (fun j => !pureB (M 37) j) i) + 1))), (0, .ref (ad 34)), (1, .int x)]) S.1 S.2.1 dX8_count_93 hl (k := 3) rfl (iinc1 _) (by decide) rfl (fun ls hl => ?_)
        refine lv_goto (tgt := 69) S.1 S.2.1 dX8_count_96 (by decide) ?_
        have hl : lv_has ls 4 [(3, .int (nI (i + 1))), (2, .int (nI (cntB (fun j => !pureB (M 37) j) (i + 1)))), (0, .ref (ad 34)), (1, .int x)] := by rw [cntB_t (p := (fun j => !pureB (M 37) j)) (by show (!pureB (M 37) i) = true; rw [c2]; rfl)]; exact hl
        exact ih (i + 1) (by omega) hx _ _ ls hw (lv_sub hl [2, 3, 1, 0] rfl)
      · refine lv_iconst (v := nI 0) S.1 S.2.1 dX8_count_86 (by decide) ?_
        refine lv_goto (tgt := 91) S.1 S.2.1 dX8_count_87 (by decide) ?_
        refine lv_iadd S.1 S.2.1 dX8_count_91 ?_
        refine m_top (show (nI (cntB (fun j => !pureB (M 37) j) i)) + (nI 0) = nI ((cntB (fun j => !pureB (M 37) j) i) + 0) from nI_add _ _) ?_
        refine lv_istore_n (lv' := [(2, .int (nI ((cntB (fun j => !pureB (M 37) j) i) + 0))), (0, .ref (ad 34)), (1, .int x), (3, .int (nI i))]) S.1 S.2.1 dX8_count_92 rfl hl (by decide) rfl (fun ls hl => ?_)
        refine lv_iinc (v := nI (i + 1)) (lv' := [(3, .int (nI (i + 1))), (2, .int (nI ((cntB (fun j => !pureB (M 37) j) i) + 0))), (0, .ref (ad 34)), (1, .int x)]) S.1 S.2.1 dX8_count_93 hl (k := 3) rfl (iinc1 _) (by decide) rfl (fun ls hl => ?_)
        refine lv_goto (tgt := 69) S.1 S.2.1 dX8_count_96 (by decide) ?_
        have hl : lv_has ls 4 [(3, .int (nI (i + 1))), (2, .int (nI (cntB (fun j => !pureB (M 37) j) (i + 1)))), (0, .ref (ad 34)), (1, .int x)] := by rw [cntB_f (p := (fun j => !pureB (M 37) j)) (by show (!pureB (M 37) i) = false; rw [c2]; rfl)]; exact hl
        exact ih (i + 1) (by omega) hx _ _ ls hw (lv_sub hl [2, 3, 1, 0] rfl)
  have loop4 : ∀ (n' : Nat) (i : Nat), i + n' = D → x.toInt = 4 → ∀ (H : Heap) (locs : List Loc) (ls : Array Slot), Wd G N K ad M s H locs → lv_has ls 4 [(0, .ref (ad 34)), (1, .int x), (2, .int (sumI (M 44) i)), (3, .int (nI i))] → W p l e { frames := 1, cells := 0, slots := 0, locals := 22 } s m A below meth c H locs 0 0 (QmI G N K ad (fun r M' => r = (swA x [M 34 24, M 34 25, M 34 6, nI (cntB (fun j => !pureB (M 37) j) n), sumI (M 44) D, M 34 1, M 34 10, sumI (lateS (M 59) (M 57) (M 34 24)) Wn, M 34 33]) ∧ M' = M) below A s) (F0 m 103 ls []) := by
    intro n'
    induction n' with
    | zero =>
      intro i hi hx H locs ls hw hl
      refine lv_iload_n S.1 S.2.1 dX8_count_103 rfl (lv_at hl 3 rfl) ?_
      refine lv_aload_n S.1 S.2.1 dX8_count_104 rfl (lv_at hl 0 rfl) ?_
      refine m_getI 34 10 S hw (by omega) rfl rfl rfl in_X8 (by decide) wf_X8_108 dX8_count_105 ?_
      refine m_top (show M 34 10 = nI D from hD) ?_
      refine n_ge (tgt := 126) S (by omega) (by omega) dX8_count_108 (by decide) (fun c1 => ?_) (fun c1 => absurd c1 (by omega))
      refine lv_iload_n S.1 S.2.1 dX8_count_126 rfl (lv_at hl 2 rfl) ?_
      exact m_reti S hr hlocks hw dX8_count_127 ⟨by rw [swA_at (j := 4) hx, show i = D by omega]; rfl, rfl⟩
    | succ n' ih =>
      intro i hi hx H locs ls hw hl
      refine lv_iload_n S.1 S.2.1 dX8_count_103 rfl (lv_at hl 3 rfl) ?_
      refine lv_aload_n S.1 S.2.1 dX8_count_104 rfl (lv_at hl 0 rfl) ?_
      refine m_getI 34 10 S hw (by omega) rfl rfl rfl in_X8 (by decide) wf_X8_108 dX8_count_105 ?_
      refine m_top (show M 34 10 = nI D from hD) ?_
      refine n_ge (tgt := 126) S (by omega) (by omega) dX8_count_108 (by decide) (fun c1 => absurd c1 (by omega)) (fun c1 => ?_)
      refine lv_iload_n S.1 S.2.1 dX8_count_111 rfl (lv_at hl 2 rfl) ?_
      refine lv_aload_n S.1 S.2.1 dX8_count_112 rfl (lv_at hl 0 rfl) ?_
      refine m_getR 34 13 44 S hw (by omega) rfl rfl rfl in_X8 (by decide) wf_X8_47 dX8_count_113 ?_
      refine lv_iload_n S.1 S.2.1 dX8_count_116 rfl (lv_at hl 3 rfl) ?_
      refine m_ald 44 i S hw (by omega) rfl (by decide) (by omega) rfl dX8_count_117 ?_
      refine lv_iadd S.1 S.2.1 dX8_count_118 ?_
      refine lv_istore_n (lv' := [(2, .int ((sumI (M 44) i) + (M 44 i))), (0, .ref (ad 34)), (1, .int x), (3, .int (nI i))]) S.1 S.2.1 dX8_count_119 rfl hl (by decide) rfl (fun ls hl => ?_)
      refine lv_iinc (v := nI (i + 1)) (lv' := [(3, .int (nI (i + 1))), (2, .int ((sumI (M 44) i) + (M 44 i))), (0, .ref (ad 34)), (1, .int x)]) S.1 S.2.1 dX8_count_120 hl (k := 3) rfl (iinc1 _) (by decide) rfl (fun ls hl => ?_)
      refine lv_goto (tgt := 103) S.1 S.2.1 dX8_count_123 (by decide) ?_
      exact ih (i + 1) (by omega) hx _ _ ls hw (lv_sub hl [2, 3, 1, 0] rfl)
  have loop7 : ∀ (n' : Nat) (i : Nat), i + n' = Wn → x.toInt = 7 → ∀ (H : Heap) (locs : List Loc) (ls : Array Slot), Wd G N K ad M s H locs → lv_has ls 4 [(0, .ref (ad 34)), (1, .int x), (2, .int (sumI (lateS (M 59) (M 57) (M 34 24)) i)), (3, .int (nI i))] → W p l e { frames := 1, cells := 0, slots := 0, locals := 22 } s m A below meth c H locs 0 0 (QmI G N K ad (fun r M' => r = (swA x [M 34 24, M 34 25, M 34 6, nI (cntB (fun j => !pureB (M 37) j) n), sumI (M 44) D, M 34 1, M 34 10, sumI (lateS (M 59) (M 57) (M 34 24)) Wn, M 34 33]) ∧ M' = M) below A s) (F0 m 140 ls []) := by
    intro n'
    induction n' with
    | zero =>
      intro i hi hx H locs ls hw hl
      refine lv_iload_n S.1 S.2.1 dX8_count_140 rfl (lv_at hl 3 rfl) ?_
      refine lv_aload_n S.1 S.2.1 dX8_count_141 rfl (lv_at hl 0 rfl) ?_
      refine m_getI 34 26 S hw (by omega) rfl rfl rfl in_X8 (by decide) wf_X8_111 dX8_count_142 ?_
      refine m_top (show M 34 26 = nI Wn from hWn) ?_
      refine n_ge (tgt := 162) S (by omega) (by omega) dX8_count_145 (by decide) (fun c1 => ?_) (fun c1 => absurd c1 (by omega))
      refine lv_iload_n S.1 S.2.1 dX8_count_162 rfl (lv_at hl 2 rfl) ?_
      exact m_reti S hr hlocks hw dX8_count_163 ⟨by rw [swA_at (j := 7) hx, show i = Wn by omega]; rfl, rfl⟩
    | succ n' ih =>
      intro i hi hx H locs ls hw hl
      refine lv_iload_n S.1 S.2.1 dX8_count_140 rfl (lv_at hl 3 rfl) ?_
      refine lv_aload_n S.1 S.2.1 dX8_count_141 rfl (lv_at hl 0 rfl) ?_
      refine m_getI 34 26 S hw (by omega) rfl rfl rfl in_X8 (by decide) wf_X8_111 dX8_count_142 ?_
      refine m_top (show M 34 26 = nI Wn from hWn) ?_
      refine n_ge (tgt := 162) S (by omega) (by omega) dX8_count_145 (by decide) (fun c1 => absurd c1 (by omega)) (fun c1 => ?_)
      refine lv_iload_n S.1 S.2.1 dX8_count_148 rfl (lv_at hl 2 rfl) ?_
      refine lv_aload_n S.1 S.2.1 dX8_count_149 rfl (lv_at hl 0 rfl) ?_
      refine lv_iload_n S.1 S.2.1 dX8_count_150 rfl (lv_at hl 3 rfl) ?_
      refine r_VI (As := [.int (nI i)]) (rest := [.int (sumI (lateS (M 59) (M 57) (M 34 24)) i)]) 34 S hw (by omega) rfl rfl (c_X8_late l G N K ad M h61 i (by omega)) mf_X8_late wm_X8_189 ⟨by decide, by decide⟩ ⟨Nat.le_refl _, Nat.le_refl _⟩ hl.1 rfl (Nat.le_of_ble_eq_true rfl) dX8_count_151 (fun H locs hw => ?_)
      refine lv_iadd S.1 S.2.1 dX8_count_154 ?_
      refine lv_istore_n (lv' := [(2, .int ((sumI (lateS (M 59) (M 57) (M 34 24)) i) + (lateS (M 59) (M 57) (M 34 24) i))), (0, .ref (ad 34)), (1, .int x), (3, .int (nI i))]) S.1 S.2.1 dX8_count_155 rfl hl (by decide) rfl (fun ls hl => ?_)
      refine lv_iinc (v := nI (i + 1)) (lv' := [(3, .int (nI (i + 1))), (2, .int ((sumI (lateS (M 59) (M 57) (M 34 24)) i) + (lateS (M 59) (M 57) (M 34 24) i))), (0, .ref (ad 34)), (1, .int x)]) S.1 S.2.1 dX8_count_156 hl (k := 3) rfl (iinc1 _) (by decide) rfl (fun ls hl => ?_)
      refine lv_goto (tgt := 140) S.1 S.2.1 dX8_count_159 (by decide) ?_
      exact ih (i + 1) (by omega) hx _ _ ls hw (lv_sub hl [2, 3, 1, 0] rfl)
  refine lv_iconst (v := nI 0) S.1 S.2.1 dX8_count_0 (by decide) ?_
  refine lv_istore_n (lv' := [(2, .int (nI 0)), (0, .ref (ad 34)), (1, .int x)]) S.1 S.2.1 dX8_count_1 rfl hl (by decide) rfl (fun ls hl => ?_)
  refine lv_iload_n S.1 S.2.1 dX8_count_2 rfl (lv_at hl 2 rfl) ?_
  rcases sw_cases x 8 with hsw1 | ⟨jsw1, hj1, hsw1⟩
  · refine lv_tableOut (tgt := 169) S.1 S.2.1 dX8_count_3 hsw1 (by decide) ?_
    refine lv_iconst (v := (-1)) S.1 S.2.1 dX8_count_169 (by decide) ?_
    exact m_reti S hr hlocks hw dX8_count_170 ⟨by rw [swA_o hsw1 rfl], rfl⟩
  · rcases (show jsw1 = 0 ∨ jsw1 = 1 ∨ jsw1 = 2 ∨ jsw1 = 3 ∨ jsw1 = 4 ∨ jsw1 = 5 ∨ jsw1 = 6 ∨ jsw1 = 7 ∨ jsw1 = 8 by omega) with rfl | rfl | rfl | rfl | rfl | rfl | rfl | rfl | rfl
    · refine lv_tableIn (off := 49) (tgt := 52) S.1 S.2.1 dX8_count_3 (by rw [hsw1]; decide) (by rw [hsw1]; decide) (by rw [hsw1]; rfl) (by decide) ?_
      refine lv_aload_n S.1 S.2.1 dX8_count_52 rfl (lv_at hl 1 rfl) ?_
      refine m_getI 34 24 S hw (by omega) rfl rfl rfl in_X8 (by decide) wf_X8_114 dX8_count_53 ?_
      exact m_reti S hr hlocks hw dX8_count_56 ⟨by rw [swA_at (j := 0) hsw1]; first | done | rfl, rfl⟩
    · refine lv_tableIn (off := 54) (tgt := 57) S.1 S.2.1 dX8_count_3 (by rw [hsw1]; decide) (by rw [hsw1]; decide) (by rw [hsw1]; rfl) (by decide) ?_
      refine lv_aload_n S.1 S.2.1 dX8_count_57 rfl (lv_at hl 1 rfl) ?_
      refine m_getI 34 25 S hw (by omega) rfl rfl rfl in_X8 (by decide) wf_X8_117 dX8_count_58 ?_
      exact m_reti S hr hlocks hw dX8_count_61 ⟨by rw [swA_at (j := 1) hsw1]; first | done | rfl, rfl⟩
    · refine lv_tableIn (off := 59) (tgt := 62) S.1 S.2.1 dX8_count_3 (by rw [hsw1]; decide) (by rw [hsw1]; decide) (by rw [hsw1]; rfl) (by decide) ?_
      refine lv_aload_n S.1 S.2.1 dX8_count_62 rfl (lv_at hl 1 rfl) ?_
      refine m_getI 34 6 S hw (by omega) rfl rfl rfl in_X8 (by decide) wf_X8_29 dX8_count_63 ?_
      exact m_reti S hr hlocks hw dX8_count_66 ⟨by rw [swA_at (j := 2) hsw1]; first | done | rfl, rfl⟩
    · refine lv_tableIn (off := 64) (tgt := 67) S.1 S.2.1 dX8_count_3 (by rw [hsw1]; decide) (by rw [hsw1]; decide) (by rw [hsw1]; rfl) (by decide) ?_
      refine lv_iconst (v := nI 0) S.1 S.2.1 dX8_count_67 (by decide) ?_
      refine lv_istore_n (lv' := [(3, .int (nI 0)), (2, .int (nI 0)), (0, .ref (ad 34)), (1, .int x)]) S.1 S.2.1 dX8_count_68 rfl hl (by decide) rfl (fun ls hl => ?_)
      exact loop3 n 0 (by omega) hsw1 _ _ ls hw (lv_sub hl [2, 3, 1, 0] rfl)
    · refine lv_tableIn (off := 98) (tgt := 101) S.1 S.2.1 dX8_count_3 (by rw [hsw1]; decide) (by rw [hsw1]; decide) (by rw [hsw1]; rfl) (by decide) ?_
      refine lv_iconst (v := nI 0) S.1 S.2.1 dX8_count_101 (by decide) ?_
      refine lv_istore_n (lv' := [(3, .int (nI 0)), (2, .int (nI 0)), (0, .ref (ad 34)), (1, .int x)]) S.1 S.2.1 dX8_count_102 rfl hl (by decide) rfl (fun ls hl => ?_)
      exact loop4 D 0 (by omega) hsw1 _ _ ls hw (lv_sub hl [2, 3, 1, 0] rfl)
    · refine lv_tableIn (off := 125) (tgt := 128) S.1 S.2.1 dX8_count_3 (by rw [hsw1]; decide) (by rw [hsw1]; decide) (by rw [hsw1]; rfl) (by decide) ?_
      refine lv_aload_n S.1 S.2.1 dX8_count_128 rfl (lv_at hl 1 rfl) ?_
      refine m_getI 34 1 S hw (by omega) rfl rfl rfl in_X8 (by decide) wf_X8_13 dX8_count_129 ?_
      exact m_reti S hr hlocks hw dX8_count_132 ⟨by rw [swA_at (j := 5) hsw1]; first | done | rfl, rfl⟩
    · refine lv_tableIn (off := 130) (tgt := 133) S.1 S.2.1 dX8_count_3 (by rw [hsw1]; decide) (by rw [hsw1]; decide) (by rw [hsw1]; rfl) (by decide) ?_
      refine lv_aload_n S.1 S.2.1 dX8_count_133 rfl (lv_at hl 1 rfl) ?_
      refine m_getI 34 10 S hw (by omega) rfl rfl rfl in_X8 (by decide) wf_X8_108 dX8_count_134 ?_
      exact m_reti S hr hlocks hw dX8_count_137 ⟨by rw [swA_at (j := 6) hsw1]; first | done | rfl, rfl⟩
    · refine lv_tableIn (off := 135) (tgt := 138) S.1 S.2.1 dX8_count_3 (by rw [hsw1]; decide) (by rw [hsw1]; decide) (by rw [hsw1]; rfl) (by decide) ?_
      refine lv_iconst (v := nI 0) S.1 S.2.1 dX8_count_138 (by decide) ?_
      refine lv_istore_n (lv' := [(3, .int (nI 0)), (2, .int (nI 0)), (0, .ref (ad 34)), (1, .int x)]) S.1 S.2.1 dX8_count_139 rfl hl (by decide) rfl (fun ls hl => ?_)
      exact loop7 Wn 0 (by omega) hsw1 _ _ ls hw (lv_sub hl [2, 3, 1, 0] rfl)
    · refine lv_tableIn (off := 161) (tgt := 164) S.1 S.2.1 dX8_count_3 (by rw [hsw1]; decide) (by rw [hsw1]; decide) (by rw [hsw1]; rfl) (by decide) ?_
      refine lv_aload_n S.1 S.2.1 dX8_count_164 rfl (lv_at hl 1 rfl) ?_
      refine m_getI 34 33 S hw (by omega) rfl rfl rfl in_X8 (by decide) wf_X8_120 dX8_count_165 ?_
      exact m_reti S hr hlocks hw dX8_count_168 ⟨by rw [swA_at (j := 8) hsw1]; first | done | rfl, rfl⟩
