theorem mm_some {mx b : Nat → Int32} {lo hi y x : Nat} {q : Pst} (h : bord q.2.1 q.1 y = some x) (hx : lo ≤ x) : mixMStep mx b lo hi y q = coreS mx b lo hi q x y := by
  unfold mixMStep
  rw [h]
  exact if_neg (by omega)
theorem mm_less {mx b : Nat → Int32} {lo hi y x : Nat} {q : Pst} (h : bord q.2.1 q.1 y = some x) (hx : x < lo) : mixMStep mx b lo hi y q = q := by
  unfold mixMStep
  rw [h]
  exact if_pos hx
theorem mm_none {mx b : Nat → Int32} {lo hi y : Nat} {q : Pst} (h : bord q.2.1 q.1 y = none) : mixMStep mx b lo hi y q = q := by
  unfold mixMStep
  rw [h]
theorem m1_lt_nI {a : Nat} (h : a < 2 ^ 31) : (-1 : Int32) < nI a := by
  rw [Int32.lt_iff_toInt_lt, nI_toInt h]
  have : (-1 : Int32).toInt = -1 := by decide
  omega

set_option maxHeartbeats 4000000 in
set_option maxRecDepth 100000 in
/-- reference: mixes -/
theorem c_X8_mixes (l : Launch) (G : GT) (N K : Nat) (ad : Nat → Nat) (M : Mem) (h61 : 61 ≤ N) (n : Nat) (hn : M 34 1 = nI n) (hn1 : n ≤ 120) (hki : Kin (M 36) n) (lo hi y : Nat) (hlo : lo ≤ y) (hyh : y < hi) (hhi : hi ≤ n) : CmV l G N K ad yX8_mixes cX8_mixes 11 3 66 [.ref (ad 34), .int (nI y), .int (nI lo), .int (nI hi)] M (fun M1 => M1 36 = (mixMStep (M 52) (M 35) lo hi y (M 36, M 37, M 38)).1 ∧ M1 37 = (mixMStep (M 52) (M 35) lo hi y (M 36, M 37, M 38)).2.1 ∧ M1 38 = (mixMStep (M 52) (M 35) lo hi y (M 36, M 37, M 38)).2.2 ∧ (∀ k, k ≠ 36 ∧ k ≠ 37 ∧ k ≠ 38 → M1 k = M k)) := by
  refine cm_startV (by decide +kernel) (Nat.le_of_ble_eq_true rfl) ?_
  intro p e s m below meth c ls S hr hlocks hw hl
  have hl : lv_has ls 11 [(0, .ref (ad 34)), (1, .int (nI y)), (2, .int (nI lo)), (3, .int (nI hi))] := hl
  refine lv_aload_n S.1 S.2.1 dX8_mixes_0 rfl (lv_at hl 0 rfl) ?_
  refine lv_iload_n S.1 S.2.1 dX8_mixes_1 rfl (lv_at hl 1 rfl) ?_
  refine r_VI (As := [.int (nI y)]) (rest := []) 34 S hw (by omega) rfl rfl (c_X8_border l G N K ad M h61 n hn hn1 y (by omega)) mf_X8_border wm_X8_159 ⟨by decide, by decide⟩ ⟨Nat.le_refl _, Nat.le_refl _⟩ hl.1 rfl (Nat.le_of_ble_eq_true rfl) dX8_mixes_2 (fun H locs hw => ?_)
  rcases opt_cases (bord (M 37) (M 36) y) with hbd | ⟨x, hbd⟩
  · refine m_top (show enc (bord (M 37) (M 36) y) = (-1) from enc_n hbd) ?_
    refine lv_istore (lv' := [(4, .int (-1)), (0, .ref (ad 34)), (1, .int (nI y)), (2, .int (nI lo)), (3, .int (nI hi))]) S.1 S.2.1 dX8_mixes_5 hl (by decide) rfl (fun ls hl => ?_)
    refine lv_iload S.1 S.2.1 dX8_mixes_7 (lv_at hl 0 rfl) ?_
    refine lv_iconst (v := (-1)) S.1 S.2.1 dX8_mixes_9 (by decide) ?_
    refine lv_icmp_eq (tgt := 49) S.1 S.2.1 dX8_mixes_10 (by decide) (fun c1 => ?_) (fun c1 => absurd c1 (fun z => z rfl))
    exact m_retv S hr hlocks hw dX8_mixes_49 ⟨(rfl : M 36 = M 36).trans (by rw [mm_none (q := (M 36, M 37, M 38)) hbd]), (rfl : M 37 = M 37).trans (by rw [mm_none (q := (M 36, M 37, M 38)) hbd]), (rfl : M 38 = M 38).trans (by rw [mm_none (q := (M 36, M 37, M 38)) hbd]), (fun k hk => rfl)⟩
  · have hbl := bord_lt hbd
    refine m_top (show enc (bord (M 37) (M 36) y) = nI x from enc_s hbd) ?_
    obtain ⟨kh, hkh8, hkh⟩ := inB_of (hki x (by omega)) (by decide)
    obtain ⟨kf, hkf8, hkf⟩ := inB_of (hki y (by omega)) (by decide)
    have hkx : kx (M 36) x y = kh * 8 + kf := kx_of hkh hkf hkh8 hkf8
    refine lv_istore (lv' := [(4, .int (nI x)), (0, .ref (ad 34)), (1, .int (nI y)), (2, .int (nI lo)), (3, .int (nI hi))]) S.1 S.2.1 dX8_mixes_5 hl (by decide) rfl (fun ls hl => ?_)
    refine lv_iload S.1 S.2.1 dX8_mixes_7 (lv_at hl 0 rfl) ?_
    refine lv_iconst (v := (-1)) S.1 S.2.1 dX8_mixes_9 (by decide) ?_
    refine lv_icmp_eq (tgt := 49) S.1 S.2.1 dX8_mixes_10 (by decide) (fun c2 => absurd c2 (enc_ne (by omega))) (fun c2 => ?_)
    refine lv_iload S.1 S.2.1 dX8_mixes_13 (lv_at hl 0 rfl) ?_
    refine lv_iload_n S.1 S.2.1 dX8_mixes_15 rfl (lv_at hl 3 rfl) ?_
    refine n_lt (tgt := 49) S (by omega) (by omega) dX8_mixes_16 (by decide) (fun c3 => ?_) (fun c3 => ?_)
    · exact m_retv S hr hlocks hw dX8_mixes_49 ⟨(rfl : M 36 = M 36).trans (by rw [mm_less (q := (M 36, M 37, M 38)) hbd c3]), (rfl : M 37 = M 37).trans (by rw [mm_less (q := (M 36, M 37, M 38)) hbd c3]), (rfl : M 38 = M 38).trans (by rw [mm_less (q := (M 36, M 37, M 38)) hbd c3]), (fun k hk => rfl)⟩
    · refine lv_iload_n S.1 S.2.1 dX8_mixes_19 rfl (lv_at hl 2 rfl) ?_
      refine lv_iload_n S.1 S.2.1 dX8_mixes_20 rfl (lv_at hl 4 rfl) ?_
      refine n_ge (tgt := 49) S (by omega) (by omega) dX8_mixes_21 (by decide) (fun c4 => absurd c4 (by omega)) (fun c4 => ?_)
      refine lv_aload_n S.1 S.2.1 dX8_mixes_24 rfl (lv_at hl 1 rfl) ?_
      refine m_getR 34 21 52 S hw (by omega) rfl rfl rfl in_X8 (by decide) wf_X8_72 dX8_mixes_25 ?_
      refine lv_bipush (v := nI 8) S.1 S.2.1 dX8_mixes_28 (by decide) ?_
      refine lv_aload_n S.1 S.2.1 dX8_mixes_30 rfl (lv_at hl 1 rfl) ?_
      refine m_getR 34 3 36 S hw (by omega) rfl rfl rfl in_X8 (by decide) wf_X8_20 dX8_mixes_31 ?_
      refine lv_iload S.1 S.2.1 dX8_mixes_34 (lv_at hl 0 rfl) ?_
      refine m_ald 36 x S hw (by omega) rfl (by decide) (by omega) rfl dX8_mixes_36 ?_
      refine m_top (show M 36 x = nI kh from hkh) ?_
      refine lv_imul S.1 S.2.1 dX8_mixes_37 ?_
      refine m_top (show (nI 8) * (nI kh) = nI (kh * 8) from by rw [pk_mul, Nat.mul_comm]) ?_
      refine lv_aload_n S.1 S.2.1 dX8_mixes_38 rfl (lv_at hl 1 rfl) ?_
      refine m_getR 34 3 36 S hw (by omega) rfl rfl rfl in_X8 (by decide) wf_X8_20 dX8_mixes_39 ?_
      refine lv_iload_n S.1 S.2.1 dX8_mixes_42 rfl (lv_at hl 2 rfl) ?_
      refine m_ald 36 y S hw (by omega) rfl (by decide) (by omega) rfl dX8_mixes_43 ?_
      refine m_top (show M 36 y = nI kf from hkf) ?_
      refine lv_iadd S.1 S.2.1 dX8_mixes_44 ?_
      refine m_top (show (nI (kh * 8)) + (nI kf) = nI (kh * 8 + kf) from nI_add _ _) ?_
      refine m_ald 52 (kh * 8 + kf) S hw (by omega) rfl (by decide) (by omega) rfl dX8_mixes_45 ?_
      refine lv_if_ne (tgt := 50) S.1 S.2.1 dX8_mixes_46 (by decide) (fun c5 => ?_) (fun c5 => ?_)
      · refine lv_aload_n S.1 S.2.1 dX8_mixes_50 rfl (lv_at hl 1 rfl) ?_
        refine m_getR 34 21 52 S hw (by omega) rfl rfl rfl in_X8 (by decide) wf_X8_72 dX8_mixes_51 ?_
        refine lv_bipush (v := nI 8) S.1 S.2.1 dX8_mixes_54 (by decide) ?_
        refine lv_aload_n S.1 S.2.1 dX8_mixes_56 rfl (lv_at hl 1 rfl) ?_
        refine m_getR 34 3 36 S hw (by omega) rfl rfl rfl in_X8 (by decide) wf_X8_20 dX8_mixes_57 ?_
        refine lv_iload S.1 S.2.1 dX8_mixes_60 (lv_at hl 0 rfl) ?_
        refine m_ald 36 x S hw (by omega) rfl (by decide) (by omega) rfl dX8_mixes_62 ?_
        refine m_top (show M 36 x = nI kh from hkh) ?_
        refine lv_imul S.1 S.2.1 dX8_mixes_63 ?_
        refine m_top (show (nI 8) * (nI kh) = nI (kh * 8) from by rw [pk_mul, Nat.mul_comm]) ?_
        refine lv_aload_n S.1 S.2.1 dX8_mixes_64 rfl (lv_at hl 1 rfl) ?_
        refine m_getR 34 3 36 S hw (by omega) rfl rfl rfl in_X8 (by decide) wf_X8_20 dX8_mixes_65 ?_
        refine lv_iload_n S.1 S.2.1 dX8_mixes_68 rfl (lv_at hl 2 rfl) ?_
        refine m_ald 36 y S hw (by omega) rfl (by decide) (by omega) rfl dX8_mixes_69 ?_
        refine m_top (show M 36 y = nI kf from hkf) ?_
        refine lv_iadd S.1 S.2.1 dX8_mixes_70 ?_
        refine m_top (show (nI (kh * 8)) + (nI kf) = nI (kh * 8 + kf) from nI_add _ _) ?_
        refine m_ald 52 (kh * 8 + kf) S hw (by omega) rfl (by decide) (by omega) rfl dX8_mixes_71 ?_
        refine lv_istore (lv' := [(5, .int (M 52 (kh * 8 + kf))), (4, .int (nI x)), (0, .ref (ad 34)), (1, .int (nI y)), (2, .int (nI lo)), (3, .int (nI hi))]) S.1 S.2.1 dX8_mixes_72 hl (by decide) rfl (fun ls hl => ?_)
        refine lv_aload_n S.1 S.2.1 dX8_mixes_74 rfl (lv_at hl 2 rfl) ?_
        refine m_getR 34 5 38 S hw (by omega) rfl rfl rfl in_X8 (by decide) wf_X8_26 dX8_mixes_75 ?_
        refine lv_iload_n S.1 S.2.1 dX8_mixes_78 rfl (lv_at hl 3 rfl) ?_
        refine m_ald 38 y S hw (by omega) rfl (by decide) (by omega) rfl dX8_mixes_79 ?_
        refine lv_iload S.1 S.2.1 dX8_mixes_80 (lv_at hl 0 rfl) ?_
        refine lv_icmp_ge (tgt := 95) S.1 S.2.1 dX8_mixes_82 (by decide) (fun c6 => ?_) (fun c6 => ?_)
        · refine lv_aload_n S.1 S.2.1 dX8_mixes_95 rfl (lv_at hl 2 rfl) ?_
          refine m_getR 34 5 38 S hw (by omega) rfl rfl rfl in_X8 (by decide) wf_X8_26 dX8_mixes_96 ?_
          refine lv_iload_n S.1 S.2.1 dX8_mixes_99 rfl (lv_at hl 3 rfl) ?_
          refine m_ald 38 y S hw (by omega) rfl (by decide) (by omega) rfl dX8_mixes_100 ?_
          refine lv_iload S.1 S.2.1 dX8_mixes_101 (lv_at hl 0 rfl) ?_
          refine lv_icmp_ge (tgt := 107) S.1 S.2.1 dX8_mixes_103 (by decide) (fun c7 => ?_) (fun c7 => absurd c7 (fun z => z c6))
          refine lv_iload_n S.1 S.2.1 dX8_mixes_107 rfl (lv_at hl 3 rfl) ?_
          refine lv_iload S.1 S.2.1 dX8_mixes_108 (lv_at hl 1 rfl) ?_
          refine lv_isub S.1 S.2.1 dX8_mixes_110 ?_
          refine m_top (show (nI y) - (nI x) = nI (y - x) from pk_sub (by omega)) ?_
          refine lv_iconst (v := nI 1) S.1 S.2.1 dX8_mixes_111 (by decide) ?_
          refine lv_isub S.1 S.2.1 dX8_mixes_112 ?_
          refine m_top (show (nI (y - x)) - (nI 1) = nI ((y - x) - 1) from pk_sub (a := y - x) (b := 1) (by omega)) ?_
          refine lv_iconst (v := nI 2) S.1 S.2.1 dX8_mixes_113 (by decide) ?_
          refine lv_irem S.1 S.2.1 dX8_mixes_114 (by decide) ?_
          refine lv_if_ne (tgt := 122) S.1 S.2.1 dX8_mixes_115 (by decide) (fun c8 => ?_) (fun c8 => ?_)
          · have hev : evB x y = false := evB_f (by omega) (by omega) c8
            refine lv_iconst (v := nI 0) S.1 S.2.1 dX8_mixes_122 (by decide) ?_
            refine lv_istore (lv' := [(6, .int (nI 0)), (5, .int (M 52 (kh * 8 + kf))), (4, .int (nI x)), (0, .ref (ad 34)), (1, .int (nI y)), (2, .int (nI lo)), (3, .int (nI hi))]) S.1 S.2.1 dX8_mixes_123 hl (by decide) rfl (fun ls hl => ?_)
            refine lv_iload S.1 S.2.1 dX8_mixes_125 (lv_at hl 0 rfl) ?_
            refine lv_if_eq (tgt := 135) S.1 S.2.1 dX8_mixes_127 (by decide) (fun c9 => ?_) (fun c9 => absurd c9 (fun z => z rfl))
            refine lv_iload_n S.1 S.2.1 dX8_mixes_135 rfl (lv_at hl 4 rfl) ?_
            refine lv_istore (lv' := [(7, .int (nI y)), (6, .int (nI 0)), (5, .int (M 52 (kh * 8 + kf))), (4, .int (nI x)), (0, .ref (ad 34)), (1, .int (nI y)), (2, .int (nI lo)), (3, .int (nI hi))]) S.1 S.2.1 dX8_mixes_136 hl (by decide) rfl (fun ls hl => ?_)
            refine lv_iload S.1 S.2.1 dX8_mixes_138 (lv_at hl 1 rfl) ?_
            refine lv_if_eq (tgt := 150) S.1 S.2.1 dX8_mixes_140 (by decide) (fun c10 => ?_) (fun c10 => absurd c10 (fun z => z rfl))
            refine lv_iload_n S.1 S.2.1 dX8_mixes_150 rfl (lv_at hl 5 rfl) ?_
            refine lv_iconst (v := nI 1) S.1 S.2.1 dX8_mixes_151 (by decide) ?_
            refine lv_iadd S.1 S.2.1 dX8_mixes_152 ?_
            refine m_top (show (nI y) + (nI 1) = nI (y + 1) from nI_add _ _) ?_
            refine lv_istore (lv' := [(8, .int (nI (y + 1))), (7, .int (nI y)), (6, .int (nI 0)), (5, .int (M 52 (kh * 8 + kf))), (4, .int (nI x)), (0, .ref (ad 34)), (1, .int (nI y)), (2, .int (nI lo)), (3, .int (nI hi))]) S.1 S.2.1 dX8_mixes_153 hl (by decide) rfl (fun ls hl => ?_)
            refine lv_iload S.1 S.2.1 dX8_mixes_155 (lv_at hl 0 rfl) ?_
            refine lv_iload_n S.1 S.2.1 dX8_mixes_157 rfl (lv_at hl 7 rfl) ?_
            refine n_lt (tgt := 193) S (by omega) (by omega) dX8_mixes_158 (by decide) (fun c11 => ?_) (fun c11 => ?_)
            · have hfar2 := farS_2 (mx := M 52) (kd := M 36) (w := M 38) (w1 := (M 38)) (h := x) (f := y) (by rw [hkx]; exact c5) (by rw [hkx]; exact if_neg (fun z => Int32.not_lt.mpr c6 z)) (by rw [hkx]; exact c7)
              have hfar : farS (M 52) (M 36) (M 38) x y = (some (y + 1), (M 38)) := hfar2.trans (by rw [hev, if_neg Bool.false_ne_true])
              have hE : mixMStep (M 52) (M 35) lo hi y (M 36, M 37, M 38) = (M 36, M 37, (M 38)) := by rw [mm_some (q := (M 36, M 37, M 38)) hbd c3, co_o (g := (y + 1)) (by rw [hfar]) (by omega), hfar]
              exact m_retv S hr hlocks hw dX8_mixes_193 ⟨(rfl : M 36 = M 36).trans (by rw [hE]), (rfl : M 37 = M 37).trans (by rw [hE]), (rfl : M 38 = M 38).trans (by rw [hE]), (fun k hk => rfl)⟩
            · refine lv_iload S.1 S.2.1 dX8_mixes_161 (lv_at hl 0 rfl) ?_
              refine lv_iload_n S.1 S.2.1 dX8_mixes_163 rfl (lv_at hl 8 rfl) ?_
              refine n_ge (tgt := 193) S (by omega) (by omega) dX8_mixes_164 (by decide) (fun c12 => ?_) (fun c12 => ?_)
              · have hfar2 := farS_2 (mx := M 52) (kd := M 36) (w := M 38) (w1 := (M 38)) (h := x) (f := y) (by rw [hkx]; exact c5) (by rw [hkx]; exact if_neg (fun z => Int32.not_lt.mpr c6 z)) (by rw [hkx]; exact c7)
                have hfar : farS (M 52) (M 36) (M 38) x y = (some (y + 1), (M 38)) := hfar2.trans (by rw [hev, if_neg Bool.false_ne_true])
                have hE : mixMStep (M 52) (M 35) lo hi y (M 36, M 37, M 38) = (M 36, M 37, (M 38)) := by rw [mm_some (q := (M 36, M 37, M 38)) hbd c3, co_o (g := (y + 1)) (by rw [hfar]) (by omega), hfar]
                exact m_retv S hr hlocks hw dX8_mixes_193 ⟨(rfl : M 36 = M 36).trans (by rw [hE]), (rfl : M 37 = M 37).trans (by rw [hE]), (rfl : M 38 = M 38).trans (by rw [hE]), (fun k hk => rfl)⟩
              · refine lv_aload_n S.1 S.2.1 dX8_mixes_167 rfl (lv_at hl 5 rfl) ?_
                refine lv_iload S.1 S.2.1 dX8_mixes_168 (lv_at hl 0 rfl) ?_
                refine r_VI (As := [.int (nI (y + 1))]) (rest := []) 34 S hw (by omega) rfl rfl (c_X8_isPure l G N K ad M h61 (y + 1) (by omega)) mf_X8_isPure wm_X8_146 ⟨by decide, by decide⟩ ⟨Nat.le_refl _, Nat.le_refl _⟩ hl.1 rfl (Nat.le_of_ble_eq_true rfl) dX8_mixes_170 (fun H locs hw => ?_)
                refine b_eq (tgt := 193) S dX8_mixes_173 (by decide) (fun c13 => ?_) (fun c13 => ?_)
                · have hpg : pureB (M 37) (y + 1) = false := c13
                  have hfar2 := farS_2 (mx := M 52) (kd := M 36) (w := M 38) (w1 := (M 38)) (h := x) (f := y) (by rw [hkx]; exact c5) (by rw [hkx]; exact if_neg (fun z => Int32.not_lt.mpr c6 z)) (by rw [hkx]; exact c7)
                  have hfar : farS (M 52) (M 36) (M 38) x y = (some (y + 1), (M 38)) := hfar2.trans (by rw [hev, if_neg Bool.false_ne_true])
                  have hE : mixMStep (M 52) (M 35) lo hi y (M 36, M 37, M 38) = (M 36, M 37, (M 38)) := by rw [mm_some (q := (M 36, M 37, M 38)) hbd c3, co_i (g := (y + 1)) (by rw [hfar]) (by omega), hfar]; exact mo_n1 hpg
                  exact m_retv S hr hlocks hw dX8_mixes_193 ⟨(rfl : M 36 = M 36).trans (by rw [hE]), (rfl : M 37 = M 37).trans (by rw [hE]), (rfl : M 38 = M 38).trans (by rw [hE]), (fun k hk => rfl)⟩
                · have hpg : pureB (M 37) (y + 1) = true := c13
                  refine lv_aload_n S.1 S.2.1 dX8_mixes_176 rfl (lv_at hl 5 rfl) ?_
                  refine m_getR 34 2 35 S hw (by omega) rfl rfl rfl in_X8 (by decide) wf_X8_16 dX8_mixes_177 ?_
                  refine lv_iload S.1 S.2.1 dX8_mixes_180 (lv_at hl 0 rfl) ?_
                  refine m_ald 35 (y + 1) S hw (by omega) rfl (by decide) (by omega) rfl dX8_mixes_182 ?_
                  refine lv_aload_n S.1 S.2.1 dX8_mixes_183 rfl (lv_at hl 5 rfl) ?_
                  refine m_getR 34 2 35 S hw (by omega) rfl rfl rfl in_X8 (by decide) wf_X8_16 dX8_mixes_184 ?_
                  refine lv_iload S.1 S.2.1 dX8_mixes_187 (lv_at hl 1 rfl) ?_
                  refine m_ald 35 y S hw (by omega) rfl (by decide) (by omega) rfl dX8_mixes_189 ?_
                  refine lv_icmp_eq (tgt := 194) S.1 S.2.1 dX8_mixes_190 (by decide) (fun c14 => ?_) (fun c14 => ?_)
                  · refine lv_aload_n S.1 S.2.1 dX8_mixes_194 rfl (lv_at hl 5 rfl) ?_
                    refine m_getR 34 3 36 S hw (by omega) rfl rfl rfl in_X8 (by decide) wf_X8_20 dX8_mixes_195 ?_
                    refine lv_iload S.1 S.2.1 dX8_mixes_198 (lv_at hl 4 rfl) ?_
                    refine m_ald 36 x S hw (by omega) rfl (by decide) (by omega) rfl dX8_mixes_200 ?_
                    refine m_top (show M 36 x = nI kh from hkh) ?_
                    refine lv_istore (lv' := [(9, .int (nI kh)), (8, .int (nI (y + 1))), (7, .int (nI y)), (6, .int (nI 0)), (5, .int (M 52 (kh * 8 + kf))), (4, .int (nI x)), (0, .ref (ad 34)), (1, .int (nI y)), (2, .int (nI lo)), (3, .int (nI hi))]) S.1 S.2.1 dX8_mixes_201 hl (by decide) rfl (fun ls hl => ?_)
                    refine lv_aload_n S.1 S.2.1 dX8_mixes_203 rfl (lv_at hl 6 rfl) ?_
                    refine m_getR 34 3 36 S hw (by omega) rfl rfl rfl in_X8 (by decide) wf_X8_20 dX8_mixes_204 ?_
                    refine lv_iload_n S.1 S.2.1 dX8_mixes_207 rfl (lv_at hl 7 rfl) ?_
                    refine m_ald 36 y S hw (by omega) rfl (by decide) (by omega) rfl dX8_mixes_208 ?_
                    refine m_top (show M 36 y = nI kf from hkf) ?_
                    refine lv_istore (lv' := [(10, .int (nI kf)), (9, .int (nI kh)), (8, .int (nI (y + 1))), (7, .int (nI y)), (6, .int (nI 0)), (5, .int (M 52 (kh * 8 + kf))), (4, .int (nI x)), (0, .ref (ad 34)), (1, .int (nI y)), (2, .int (nI lo)), (3, .int (nI hi))]) S.1 S.2.1 dX8_mixes_209 hl (by decide) rfl (fun ls hl => ?_)
                    refine lv_aload_n S.1 S.2.1 dX8_mixes_211 rfl (lv_at hl 7 rfl) ?_
                    refine m_getR 34 3 36 S hw (by omega) rfl rfl rfl in_X8 (by decide) wf_X8_20 dX8_mixes_212 ?_
                    refine lv_iload S.1 S.2.1 dX8_mixes_215 (lv_at hl 3 rfl) ?_
                    refine lv_iload S.1 S.2.1 dX8_mixes_217 (lv_at hl 1 rfl) ?_
                    refine n_ast 36 y S hw (by omega) rfl (by decide) (by omega) rfl dX8_mixes_219 (fun M15 H locs eM15 hw => ?_)
                    refine lv_aload_n S.1 S.2.1 dX8_mixes_220 rfl (lv_at hl 7 rfl) ?_
                    refine m_getR 34 4 37 S hw (by omega) rfl rfl rfl in_X8 (by decide) wf_X8_23 dX8_mixes_221 ?_
                    refine lv_iload S.1 S.2.1 dX8_mixes_224 (lv_at hl 3 rfl) ?_
                    refine lv_iload S.1 S.2.1 dX8_mixes_226 (lv_at hl 0 rfl) ?_
                    refine n_ast 37 y S hw (by omega) rfl (by decide) (by omega) rfl dX8_mixes_228 (fun M16 H locs eM16 hw => ?_)
                    refine lv_aload_n S.1 S.2.1 dX8_mixes_229 rfl (lv_at hl 7 rfl) ?_
                    refine m_getR 34 5 38 S hw (by omega) rfl rfl rfl in_X8 (by decide) wf_X8_26 dX8_mixes_230 ?_
                    refine lv_iload S.1 S.2.1 dX8_mixes_233 (lv_at hl 4 rfl) ?_
                    refine lv_if_eq (tgt := 242) S.1 S.2.1 dX8_mixes_235 (by decide) (fun c17 => ?_) (fun c17 => absurd c17 (fun z => z rfl))
                    refine lv_iload S.1 S.2.1 dX8_mixes_242 (lv_at hl 2 rfl) ?_
                    refine lv_iconst (v := nI 0) S.1 S.2.1 dX8_mixes_244 (by decide) ?_
                    refine n_ast 38 (y + 1) S hw (by omega) rfl (by decide) (by omega) rfl dX8_mixes_245 (fun M18 H locs eM18 hw => ?_)
                    have hq19 : M15 36 = upd (M 36) y (nI kh) := by rw [eM15, va_up_self]
                    have hq20 : M16 36 = upd (M 36) y (nI kh) := by rw [eM16, va_up_ne _ _ (by omega), hq19]
                    have hq21 : M18 36 = upd (M 36) y (nI kh) := by rw [eM18, va_up_ne _ _ (by omega), hq20]
                    have hq22 : M15 37 = M 37 := by rw [eM15, va_up_ne _ _ (by omega)]
                    have hq23 : M16 37 = upd (M 37) y (nI kf) := by rw [eM16, va_up_self, hq22]
                    have hq24 : M18 37 = upd (M 37) y (nI kf) := by rw [eM18, va_up_ne _ _ (by omega), hq23]
                    have hq25 : M15 38 = M 38 := by rw [eM15, va_up_ne _ _ (by omega)]
                    have hq26 : M16 38 = M 38 := by rw [eM16, va_up_ne _ _ (by omega), hq25]
                    have hq27 : M18 38 = upd (M 38) (y + 1) (nI 0) := by rw [eM18, va_up_self, hq26]
                    have hfar2 := farS_2 (mx := M 52) (kd := M 36) (w := M 38) (w1 := (M 38)) (h := x) (f := y) (by rw [hkx]; exact c5) (by rw [hkx]; exact if_neg (fun z => Int32.not_lt.mpr c6 z)) (by rw [hkx]; exact c7)
                    have hfar : farS (M 52) (M 36) (M 38) x y = (some (y + 1), (M 38)) := hfar2.trans (by rw [hev, if_neg Bool.false_ne_true])
                    have hE : mixMStep (M 52) (M 35) lo hi y (M 36, M 37, M 38) = (upd (M 36) y (nI kh), upd (M 37) y (nI kf), upd (M 38) (y + 1) (nI 0)) := by rw [mm_some (q := (M 36, M 37, M 38)) hbd c3, co_i (g := (y + 1)) (by rw [hfar]) (by omega), hfar, ← hkh, ← hkf]; exact mo_y2 hev hpg c14
                    exact m_retv S hr hlocks hw dX8_mixes_246 ⟨(hq21).trans (by rw [hE]), (hq24).trans (by rw [hE]), (hq27).trans (by rw [hE]), (fun k hk => ((show M18 k = M16 k by rw [eM18]; exact va_up_ne _ _ (by omega)).trans ((show M16 k = M15 k by rw [eM16]; exact va_up_ne _ _ (by omega)).trans (show M15 k = M k by rw [eM15]; exact va_up_ne _ _ (by omega)))))⟩
                  · have hfar2 := farS_2 (mx := M 52) (kd := M 36) (w := M 38) (w1 := (M 38)) (h := x) (f := y) (by rw [hkx]; exact c5) (by rw [hkx]; exact if_neg (fun z => Int32.not_lt.mpr c6 z)) (by rw [hkx]; exact c7)
                    have hfar : farS (M 52) (M 36) (M 38) x y = (some (y + 1), (M 38)) := hfar2.trans (by rw [hev, if_neg Bool.false_ne_true])
                    have hE : mixMStep (M 52) (M 35) lo hi y (M 36, M 37, M 38) = (M 36, M 37, (M 38)) := by rw [mm_some (q := (M 36, M 37, M 38)) hbd c3, co_i (g := (y + 1)) (by rw [hfar]) (by omega), hfar]; exact mo_n3 hev c14
                    exact m_retv S hr hlocks hw dX8_mixes_193 ⟨(rfl : M 36 = M 36).trans (by rw [hE]), (rfl : M 37 = M 37).trans (by rw [hE]), (rfl : M 38 = M 38).trans (by rw [hE]), (fun k hk => rfl)⟩
          · have hev : evB x y = true := evB_t (by omega) (by omega) c8
            refine lv_iconst (v := nI 1) S.1 S.2.1 dX8_mixes_118 (by decide) ?_
            refine lv_goto (tgt := 123) S.1 S.2.1 dX8_mixes_119 (by decide) ?_
            refine lv_istore (lv' := [(6, .int (nI 1)), (5, .int (M 52 (kh * 8 + kf))), (4, .int (nI x)), (0, .ref (ad 34)), (1, .int (nI y)), (2, .int (nI lo)), (3, .int (nI hi))]) S.1 S.2.1 dX8_mixes_123 hl (by decide) rfl (fun ls hl => ?_)
            refine lv_iload S.1 S.2.1 dX8_mixes_125 (lv_at hl 0 rfl) ?_
            refine lv_if_eq (tgt := 135) S.1 S.2.1 dX8_mixes_127 (by decide) (fun c28 => absurd c28 (by decide)) (fun c28 => ?_)
            refine lv_iload S.1 S.2.1 dX8_mixes_130 (lv_at hl 2 rfl) ?_
            refine lv_goto (tgt := 136) S.1 S.2.1 dX8_mixes_132 (by decide) ?_
            refine lv_istore (lv' := [(7, .int (nI x)), (6, .int (nI 1)), (5, .int (M 52 (kh * 8 + kf))), (4, .int (nI x)), (0, .ref (ad 34)), (1, .int (nI y)), (2, .int (nI lo)), (3, .int (nI hi))]) S.1 S.2.1 dX8_mixes_136 hl (by decide) rfl (fun ls hl => ?_)
            refine lv_iload S.1 S.2.1 dX8_mixes_138 (lv_at hl 1 rfl) ?_
            refine lv_if_eq (tgt := 150) S.1 S.2.1 dX8_mixes_140 (by decide) (fun c29 => absurd c29 (by decide)) (fun c29 => ?_)
            rcases Nat.eq_zero_or_pos x with hx0 | hx0
            · skip
              refine lv_iload S.1 S.2.1 dX8_mixes_143 (lv_at hl 3 rfl) ?_
              refine lv_iconst (v := nI 1) S.1 S.2.1 dX8_mixes_145 (by decide) ?_
              refine lv_isub S.1 S.2.1 dX8_mixes_146 ?_
              refine m_top (show (nI x) - (nI 1) = (-1) from by rw [hx0]; exact m1_eq) ?_
              refine lv_goto (tgt := 153) S.1 S.2.1 dX8_mixes_147 (by decide) ?_
              refine lv_istore (lv' := [(8, .int (-1)), (7, .int (nI x)), (6, .int (nI 1)), (5, .int (M 52 (kh * 8 + kf))), (4, .int (nI x)), (0, .ref (ad 34)), (1, .int (nI y)), (2, .int (nI lo)), (3, .int (nI hi))]) S.1 S.2.1 dX8_mixes_153 hl (by decide) rfl (fun ls hl => ?_)
              refine lv_iload S.1 S.2.1 dX8_mixes_155 (lv_at hl 0 rfl) ?_
              refine lv_iload_n S.1 S.2.1 dX8_mixes_157 rfl (lv_at hl 7 rfl) ?_
              refine lv_icmp_lt (tgt := 193) S.1 S.2.1 dX8_mixes_158 (by decide) (fun c30 => ?_) (fun c30 => absurd c30 (fun z => z (m1_lt_nI (by omega))))
              have hfar2 := farS_2 (mx := M 52) (kd := M 36) (w := M 38) (w1 := (M 38)) (h := x) (f := y) (by rw [hkx]; exact c5) (by rw [hkx]; exact if_neg (fun z => Int32.not_lt.mpr c6 z)) (by rw [hkx]; exact c7)
              have hfar : farS (M 52) (M 36) (M 38) x y = (none, (M 38)) := hfar2.trans (by rw [hev, if_pos rfl, if_pos hx0])
              have hE : mixMStep (M 52) (M 35) lo hi y (M 36, M 37, M 38) = (M 36, M 37, (M 38)) := by rw [mm_some (q := (M 36, M 37, M 38)) hbd c3, co_n' (by rw [hfar]), hfar]
              exact m_retv S hr hlocks hw dX8_mixes_193 ⟨(rfl : M 36 = M 36).trans (by rw [hE]), (rfl : M 37 = M 37).trans (by rw [hE]), (rfl : M 38 = M 38).trans (by rw [hE]), (fun k hk => rfl)⟩
            · skip
              refine lv_iload S.1 S.2.1 dX8_mixes_143 (lv_at hl 3 rfl) ?_
              refine lv_iconst (v := nI 1) S.1 S.2.1 dX8_mixes_145 (by decide) ?_
              refine lv_isub S.1 S.2.1 dX8_mixes_146 ?_
              refine m_top (show (nI x) - (nI 1) = nI (x - 1) from pk_sub (by omega)) ?_
              refine lv_goto (tgt := 153) S.1 S.2.1 dX8_mixes_147 (by decide) ?_
              refine lv_istore (lv' := [(8, .int (nI (x - 1))), (7, .int (nI x)), (6, .int (nI 1)), (5, .int (M 52 (kh * 8 + kf))), (4, .int (nI x)), (0, .ref (ad 34)), (1, .int (nI y)), (2, .int (nI lo)), (3, .int (nI hi))]) S.1 S.2.1 dX8_mixes_153 hl (by decide) rfl (fun ls hl => ?_)
              refine lv_iload S.1 S.2.1 dX8_mixes_155 (lv_at hl 0 rfl) ?_
              refine lv_iload_n S.1 S.2.1 dX8_mixes_157 rfl (lv_at hl 7 rfl) ?_
              refine n_lt (tgt := 193) S (by omega) (by omega) dX8_mixes_158 (by decide) (fun c31 => ?_) (fun c31 => ?_)
              · have hfar2 := farS_2 (mx := M 52) (kd := M 36) (w := M 38) (w1 := (M 38)) (h := x) (f := y) (by rw [hkx]; exact c5) (by rw [hkx]; exact if_neg (fun z => Int32.not_lt.mpr c6 z)) (by rw [hkx]; exact c7)
                have hfar : farS (M 52) (M 36) (M 38) x y = (some (x - 1), (M 38)) := hfar2.trans (by rw [hev, if_pos rfl, if_neg (by omega)])
                have hE : mixMStep (M 52) (M 35) lo hi y (M 36, M 37, M 38) = (M 36, M 37, (M 38)) := by rw [mm_some (q := (M 36, M 37, M 38)) hbd c3, co_o (g := (x - 1)) (by rw [hfar]) (by omega), hfar]
                exact m_retv S hr hlocks hw dX8_mixes_193 ⟨(rfl : M 36 = M 36).trans (by rw [hE]), (rfl : M 37 = M 37).trans (by rw [hE]), (rfl : M 38 = M 38).trans (by rw [hE]), (fun k hk => rfl)⟩
              · refine lv_iload S.1 S.2.1 dX8_mixes_161 (lv_at hl 0 rfl) ?_
                refine lv_iload_n S.1 S.2.1 dX8_mixes_163 rfl (lv_at hl 8 rfl) ?_
                refine n_ge (tgt := 193) S (by omega) (by omega) dX8_mixes_164 (by decide) (fun c32 => ?_) (fun c32 => ?_)
                · have hfar2 := farS_2 (mx := M 52) (kd := M 36) (w := M 38) (w1 := (M 38)) (h := x) (f := y) (by rw [hkx]; exact c5) (by rw [hkx]; exact if_neg (fun z => Int32.not_lt.mpr c6 z)) (by rw [hkx]; exact c7)
                  have hfar : farS (M 52) (M 36) (M 38) x y = (some (x - 1), (M 38)) := hfar2.trans (by rw [hev, if_pos rfl, if_neg (by omega)])
                  have hE : mixMStep (M 52) (M 35) lo hi y (M 36, M 37, M 38) = (M 36, M 37, (M 38)) := by rw [mm_some (q := (M 36, M 37, M 38)) hbd c3, co_o (g := (x - 1)) (by rw [hfar]) (by omega), hfar]
                  exact m_retv S hr hlocks hw dX8_mixes_193 ⟨(rfl : M 36 = M 36).trans (by rw [hE]), (rfl : M 37 = M 37).trans (by rw [hE]), (rfl : M 38 = M 38).trans (by rw [hE]), (fun k hk => rfl)⟩
                · refine lv_aload_n S.1 S.2.1 dX8_mixes_167 rfl (lv_at hl 5 rfl) ?_
                  refine lv_iload S.1 S.2.1 dX8_mixes_168 (lv_at hl 0 rfl) ?_
                  refine r_VI (As := [.int (nI (x - 1))]) (rest := []) 34 S hw (by omega) rfl rfl (c_X8_isPure l G N K ad M h61 (x - 1) (by omega)) mf_X8_isPure wm_X8_146 ⟨by decide, by decide⟩ ⟨Nat.le_refl _, Nat.le_refl _⟩ hl.1 rfl (Nat.le_of_ble_eq_true rfl) dX8_mixes_170 (fun H locs hw => ?_)
                  refine b_eq (tgt := 193) S dX8_mixes_173 (by decide) (fun c33 => ?_) (fun c33 => ?_)
                  · have hpg : pureB (M 37) (x - 1) = false := c33
                    have hfar2 := farS_2 (mx := M 52) (kd := M 36) (w := M 38) (w1 := (M 38)) (h := x) (f := y) (by rw [hkx]; exact c5) (by rw [hkx]; exact if_neg (fun z => Int32.not_lt.mpr c6 z)) (by rw [hkx]; exact c7)
                    have hfar : farS (M 52) (M 36) (M 38) x y = (some (x - 1), (M 38)) := hfar2.trans (by rw [hev, if_pos rfl, if_neg (by omega)])
                    have hE : mixMStep (M 52) (M 35) lo hi y (M 36, M 37, M 38) = (M 36, M 37, (M 38)) := by rw [mm_some (q := (M 36, M 37, M 38)) hbd c3, co_i (g := (x - 1)) (by rw [hfar]) (by omega), hfar]; exact mo_n1 hpg
                    exact m_retv S hr hlocks hw dX8_mixes_193 ⟨(rfl : M 36 = M 36).trans (by rw [hE]), (rfl : M 37 = M 37).trans (by rw [hE]), (rfl : M 38 = M 38).trans (by rw [hE]), (fun k hk => rfl)⟩
                  · have hpg : pureB (M 37) (x - 1) = true := c33
                    refine lv_aload_n S.1 S.2.1 dX8_mixes_176 rfl (lv_at hl 5 rfl) ?_
                    refine m_getR 34 2 35 S hw (by omega) rfl rfl rfl in_X8 (by decide) wf_X8_16 dX8_mixes_177 ?_
                    refine lv_iload S.1 S.2.1 dX8_mixes_180 (lv_at hl 0 rfl) ?_
                    refine m_ald 35 (x - 1) S hw (by omega) rfl (by decide) (by omega) rfl dX8_mixes_182 ?_
                    refine lv_aload_n S.1 S.2.1 dX8_mixes_183 rfl (lv_at hl 5 rfl) ?_
                    refine m_getR 34 2 35 S hw (by omega) rfl rfl rfl in_X8 (by decide) wf_X8_16 dX8_mixes_184 ?_
                    refine lv_iload S.1 S.2.1 dX8_mixes_187 (lv_at hl 1 rfl) ?_
                    refine m_ald 35 x S hw (by omega) rfl (by decide) (by omega) rfl dX8_mixes_189 ?_
                    refine lv_icmp_eq (tgt := 194) S.1 S.2.1 dX8_mixes_190 (by decide) (fun c34 => ?_) (fun c34 => ?_)
                    · refine lv_aload_n S.1 S.2.1 dX8_mixes_194 rfl (lv_at hl 5 rfl) ?_
                      refine m_getR 34 3 36 S hw (by omega) rfl rfl rfl in_X8 (by decide) wf_X8_20 dX8_mixes_195 ?_
                      refine lv_iload S.1 S.2.1 dX8_mixes_198 (lv_at hl 4 rfl) ?_
                      refine m_ald 36 x S hw (by omega) rfl (by decide) (by omega) rfl dX8_mixes_200 ?_
                      refine m_top (show M 36 x = nI kh from hkh) ?_
                      refine lv_istore (lv' := [(9, .int (nI kh)), (8, .int (nI (x - 1))), (7, .int (nI x)), (6, .int (nI 1)), (5, .int (M 52 (kh * 8 + kf))), (4, .int (nI x)), (0, .ref (ad 34)), (1, .int (nI y)), (2, .int (nI lo)), (3, .int (nI hi))]) S.1 S.2.1 dX8_mixes_201 hl (by decide) rfl (fun ls hl => ?_)
                      refine lv_aload_n S.1 S.2.1 dX8_mixes_203 rfl (lv_at hl 6 rfl) ?_
                      refine m_getR 34 3 36 S hw (by omega) rfl rfl rfl in_X8 (by decide) wf_X8_20 dX8_mixes_204 ?_
                      refine lv_iload_n S.1 S.2.1 dX8_mixes_207 rfl (lv_at hl 7 rfl) ?_
                      refine m_ald 36 y S hw (by omega) rfl (by decide) (by omega) rfl dX8_mixes_208 ?_
                      refine m_top (show M 36 y = nI kf from hkf) ?_
                      refine lv_istore (lv' := [(10, .int (nI kf)), (9, .int (nI kh)), (8, .int (nI (x - 1))), (7, .int (nI x)), (6, .int (nI 1)), (5, .int (M 52 (kh * 8 + kf))), (4, .int (nI x)), (0, .ref (ad 34)), (1, .int (nI y)), (2, .int (nI lo)), (3, .int (nI hi))]) S.1 S.2.1 dX8_mixes_209 hl (by decide) rfl (fun ls hl => ?_)
                      refine lv_aload_n S.1 S.2.1 dX8_mixes_211 rfl (lv_at hl 7 rfl) ?_
                      refine m_getR 34 3 36 S hw (by omega) rfl rfl rfl in_X8 (by decide) wf_X8_20 dX8_mixes_212 ?_
                      refine lv_iload S.1 S.2.1 dX8_mixes_215 (lv_at hl 3 rfl) ?_
                      refine lv_iload S.1 S.2.1 dX8_mixes_217 (lv_at hl 1 rfl) ?_
                      refine n_ast 36 x S hw (by omega) rfl (by decide) (by omega) rfl dX8_mixes_219 (fun M35 H locs eM35 hw => ?_)
                      refine lv_aload_n S.1 S.2.1 dX8_mixes_220 rfl (lv_at hl 7 rfl) ?_
                      refine m_getR 34 4 37 S hw (by omega) rfl rfl rfl in_X8 (by decide) wf_X8_23 dX8_mixes_221 ?_
                      refine lv_iload S.1 S.2.1 dX8_mixes_224 (lv_at hl 3 rfl) ?_
                      refine lv_iload S.1 S.2.1 dX8_mixes_226 (lv_at hl 0 rfl) ?_
                      refine n_ast 37 x S hw (by omega) rfl (by decide) (by omega) rfl dX8_mixes_228 (fun M36 H locs eM36 hw => ?_)
                      refine lv_aload_n S.1 S.2.1 dX8_mixes_229 rfl (lv_at hl 7 rfl) ?_
                      refine m_getR 34 5 38 S hw (by omega) rfl rfl rfl in_X8 (by decide) wf_X8_26 dX8_mixes_230 ?_
                      refine lv_iload S.1 S.2.1 dX8_mixes_233 (lv_at hl 4 rfl) ?_
                      refine lv_if_eq (tgt := 242) S.1 S.2.1 dX8_mixes_235 (by decide) (fun c37 => absurd c37 (by decide)) (fun c37 => ?_)
                      refine lv_iload_n S.1 S.2.1 dX8_mixes_238 rfl (lv_at hl 8 rfl) ?_
                      refine lv_goto (tgt := 244) S.1 S.2.1 dX8_mixes_239 (by decide) ?_
                      refine lv_iconst (v := nI 0) S.1 S.2.1 dX8_mixes_244 (by decide) ?_
                      refine n_ast 38 y S hw (by omega) rfl (by decide) (by omega) rfl dX8_mixes_245 (fun M38 H locs eM38 hw => ?_)
                      have hq39 : M35 36 = upd (M 36) x (nI kh) := by rw [eM35, va_up_self]
                      have hq40 : M36 36 = upd (M 36) x (nI kh) := by rw [eM36, va_up_ne _ _ (by omega), hq39]
                      have hq41 : M38 36 = upd (M 36) x (nI kh) := by rw [eM38, va_up_ne _ _ (by omega), hq40]
                      have hq42 : M35 37 = M 37 := by rw [eM35, va_up_ne _ _ (by omega)]
                      have hq43 : M36 37 = upd (M 37) x (nI kf) := by rw [eM36, va_up_self, hq42]
                      have hq44 : M38 37 = upd (M 37) x (nI kf) := by rw [eM38, va_up_ne _ _ (by omega), hq43]
                      have hq45 : M35 38 = M 38 := by rw [eM35, va_up_ne _ _ (by omega)]
                      have hq46 : M36 38 = M 38 := by rw [eM36, va_up_ne _ _ (by omega), hq45]
                      have hq47 : M38 38 = upd (M 38) y (nI 0) := by rw [eM38, va_up_self, hq46]
                      have hfar2 := farS_2 (mx := M 52) (kd := M 36) (w := M 38) (w1 := (M 38)) (h := x) (f := y) (by rw [hkx]; exact c5) (by rw [hkx]; exact if_neg (fun z => Int32.not_lt.mpr c6 z)) (by rw [hkx]; exact c7)
                      have hfar : farS (M 52) (M 36) (M 38) x y = (some (x - 1), (M 38)) := hfar2.trans (by rw [hev, if_pos rfl, if_neg (by omega)])
                      have hE : mixMStep (M 52) (M 35) lo hi y (M 36, M 37, M 38) = (upd (M 36) x (nI kh), upd (M 37) x (nI kf), upd (M 38) y (nI 0)) := by rw [mm_some (q := (M 36, M 37, M 38)) hbd c3, co_i (g := (x - 1)) (by rw [hfar]) (by omega), hfar, ← hkh, ← hkf]; exact mo_y1 hev hpg c34
                      exact m_retv S hr hlocks hw dX8_mixes_246 ⟨(hq41).trans (by rw [hE]), (hq44).trans (by rw [hE]), (hq47).trans (by rw [hE]), (fun k hk => ((show M38 k = M36 k by rw [eM38]; exact va_up_ne _ _ (by omega)).trans ((show M36 k = M35 k by rw [eM36]; exact va_up_ne _ _ (by omega)).trans (show M35 k = M k by rw [eM35]; exact va_up_ne _ _ (by omega)))))⟩
                    · have hfar2 := farS_2 (mx := M 52) (kd := M 36) (w := M 38) (w1 := (M 38)) (h := x) (f := y) (by rw [hkx]; exact c5) (by rw [hkx]; exact if_neg (fun z => Int32.not_lt.mpr c6 z)) (by rw [hkx]; exact c7)
                      have hfar : farS (M 52) (M 36) (M 38) x y = (some (x - 1), (M 38)) := hfar2.trans (by rw [hev, if_pos rfl, if_neg (by omega)])
                      have hE : mixMStep (M 52) (M 35) lo hi y (M 36, M 37, M 38) = (M 36, M 37, (M 38)) := by rw [mm_some (q := (M 36, M 37, M 38)) hbd c3, co_i (g := (x - 1)) (by rw [hfar]) (by omega), hfar]; exact mo_n2 hev c34
                      exact m_retv S hr hlocks hw dX8_mixes_193 ⟨(rfl : M 36 = M 36).trans (by rw [hE]), (rfl : M 37 = M 37).trans (by rw [hE]), (rfl : M 38 = M 38).trans (by rw [hE]), (fun k hk => rfl)⟩
        · refine lv_aload_n S.1 S.2.1 dX8_mixes_85 rfl (lv_at hl 2 rfl) ?_
          refine m_getR 34 5 38 S hw (by omega) rfl rfl rfl in_X8 (by decide) wf_X8_26 dX8_mixes_86 ?_
          refine lv_iload_n S.1 S.2.1 dX8_mixes_89 rfl (lv_at hl 3 rfl) ?_
          refine lv_dup2_11 S.1 S.2.1 dX8_mixes_90 rfl rfl ?_
          refine m_ald 38 y S hw (by omega) rfl (by decide) (by omega) rfl dX8_mixes_91 ?_
          refine lv_iconst (v := nI 1) S.1 S.2.1 dX8_mixes_92 (by decide) ?_
          refine lv_iadd S.1 S.2.1 dX8_mixes_93 ?_
          refine n_ast 38 y S hw (by omega) rfl (by decide) (by omega) rfl dX8_mixes_94 (fun M48 H locs eM48 hw => ?_)
          refine lv_aload_n S.1 S.2.1 dX8_mixes_95 rfl (lv_at hl 2 rfl) ?_
          refine m_getR 34 5 38 S hw (by omega) rfl rfl rfl in_X8 (by decide) wf_X8_26 dX8_mixes_96 ?_
          refine lv_iload_n S.1 S.2.1 dX8_mixes_99 rfl (lv_at hl 3 rfl) ?_
          refine m_ald 38 y S hw (by omega) rfl (by decide) (by omega) rfl dX8_mixes_100 ?_
          have hq49 : M48 38 = upd (M 38) y ((M 38 y) + (nI 1)) := by rw [eM48, va_up_self]
          refine m_top (show M48 38 y = (upd (M 38) y ((M 38 y) + (nI 1))) y from congrFun hq49 y) ?_
          refine m_top (show (upd (M 38) y ((M 38 y) + (nI 1))) y = (M 38 y) + (nI 1) from pk_us) ?_
          refine lv_iload S.1 S.2.1 dX8_mixes_101 (lv_at hl 0 rfl) ?_
          refine lv_icmp_ge (tgt := 107) S.1 S.2.1 dX8_mixes_103 (by decide) (fun c50 => ?_) (fun c50 => ?_)
          · refine lv_iload_n S.1 S.2.1 dX8_mixes_107 rfl (lv_at hl 3 rfl) ?_
            refine lv_iload S.1 S.2.1 dX8_mixes_108 (lv_at hl 1 rfl) ?_
            refine lv_isub S.1 S.2.1 dX8_mixes_110 ?_
            refine m_top (show (nI y) - (nI x) = nI (y - x) from pk_sub (by omega)) ?_
            refine lv_iconst (v := nI 1) S.1 S.2.1 dX8_mixes_111 (by decide) ?_
            refine lv_isub S.1 S.2.1 dX8_mixes_112 ?_
            refine m_top (show (nI (y - x)) - (nI 1) = nI ((y - x) - 1) from pk_sub (a := y - x) (b := 1) (by omega)) ?_
            refine lv_iconst (v := nI 2) S.1 S.2.1 dX8_mixes_113 (by decide) ?_
            refine lv_irem S.1 S.2.1 dX8_mixes_114 (by decide) ?_
            refine lv_if_ne (tgt := 122) S.1 S.2.1 dX8_mixes_115 (by decide) (fun c51 => ?_) (fun c51 => ?_)
            · have hev : evB x y = false := evB_f (by omega) (by omega) c51
              refine lv_iconst (v := nI 0) S.1 S.2.1 dX8_mixes_122 (by decide) ?_
              refine lv_istore (lv' := [(6, .int (nI 0)), (5, .int (M 52 (kh * 8 + kf))), (4, .int (nI x)), (0, .ref (ad 34)), (1, .int (nI y)), (2, .int (nI lo)), (3, .int (nI hi))]) S.1 S.2.1 dX8_mixes_123 hl (by decide) rfl (fun ls hl => ?_)
              refine lv_iload S.1 S.2.1 dX8_mixes_125 (lv_at hl 0 rfl) ?_
              refine lv_if_eq (tgt := 135) S.1 S.2.1 dX8_mixes_127 (by decide) (fun c52 => ?_) (fun c52 => absurd c52 (fun z => z rfl))
              refine lv_iload_n S.1 S.2.1 dX8_mixes_135 rfl (lv_at hl 4 rfl) ?_
              refine lv_istore (lv' := [(7, .int (nI y)), (6, .int (nI 0)), (5, .int (M 52 (kh * 8 + kf))), (4, .int (nI x)), (0, .ref (ad 34)), (1, .int (nI y)), (2, .int (nI lo)), (3, .int (nI hi))]) S.1 S.2.1 dX8_mixes_136 hl (by decide) rfl (fun ls hl => ?_)
              refine lv_iload S.1 S.2.1 dX8_mixes_138 (lv_at hl 1 rfl) ?_
              refine lv_if_eq (tgt := 150) S.1 S.2.1 dX8_mixes_140 (by decide) (fun c53 => ?_) (fun c53 => absurd c53 (fun z => z rfl))
              refine lv_iload_n S.1 S.2.1 dX8_mixes_150 rfl (lv_at hl 5 rfl) ?_
              refine lv_iconst (v := nI 1) S.1 S.2.1 dX8_mixes_151 (by decide) ?_
              refine lv_iadd S.1 S.2.1 dX8_mixes_152 ?_
              refine m_top (show (nI y) + (nI 1) = nI (y + 1) from nI_add _ _) ?_
              refine lv_istore (lv' := [(8, .int (nI (y + 1))), (7, .int (nI y)), (6, .int (nI 0)), (5, .int (M 52 (kh * 8 + kf))), (4, .int (nI x)), (0, .ref (ad 34)), (1, .int (nI y)), (2, .int (nI lo)), (3, .int (nI hi))]) S.1 S.2.1 dX8_mixes_153 hl (by decide) rfl (fun ls hl => ?_)
              refine lv_iload S.1 S.2.1 dX8_mixes_155 (lv_at hl 0 rfl) ?_
              refine lv_iload_n S.1 S.2.1 dX8_mixes_157 rfl (lv_at hl 7 rfl) ?_
              refine n_lt (tgt := 193) S (by omega) (by omega) dX8_mixes_158 (by decide) (fun c54 => ?_) (fun c54 => ?_)
              · have hq55 : M48 36 = M 36 := by rw [eM48, va_up_ne _ _ (by omega)]
                have hq56 : M48 37 = M 37 := by rw [eM48, va_up_ne _ _ (by omega)]
                have hfar2 := farS_2 (mx := M 52) (kd := M 36) (w := M 38) (w1 := (upd (M 38) y ((M 38 y) + (nI 1)))) (h := x) (f := y) (by rw [hkx]; exact c5) (by rw [hkx]; exact if_pos (Int32.not_le.mp c6)) (by rw [hkx]; simp only [pk_us]; exact c50)
                have hfar : farS (M 52) (M 36) (M 38) x y = (some (y + 1), (upd (M 38) y ((M 38 y) + (nI 1)))) := hfar2.trans (by rw [hev, if_neg Bool.false_ne_true])
                have hE : mixMStep (M 52) (M 35) lo hi y (M 36, M 37, M 38) = (M 36, M 37, (upd (M 38) y ((M 38 y) + (nI 1)))) := by rw [mm_some (q := (M 36, M 37, M 38)) hbd c3, co_o (g := (y + 1)) (by rw [hfar]) (by omega), hfar]
                exact m_retv S hr hlocks hw dX8_mixes_193 ⟨(hq55).trans (by rw [hE]), (hq56).trans (by rw [hE]), (hq49).trans (by rw [hE]), (fun k hk => (show M48 k = M k by rw [eM48]; exact va_up_ne _ _ (by omega)))⟩
              · refine lv_iload S.1 S.2.1 dX8_mixes_161 (lv_at hl 0 rfl) ?_
                refine lv_iload_n S.1 S.2.1 dX8_mixes_163 rfl (lv_at hl 8 rfl) ?_
                refine n_ge (tgt := 193) S (by omega) (by omega) dX8_mixes_164 (by decide) (fun c57 => ?_) (fun c57 => ?_)
                · have hq58 : M48 36 = M 36 := by rw [eM48, va_up_ne _ _ (by omega)]
                  have hq59 : M48 37 = M 37 := by rw [eM48, va_up_ne _ _ (by omega)]
                  have hfar2 := farS_2 (mx := M 52) (kd := M 36) (w := M 38) (w1 := (upd (M 38) y ((M 38 y) + (nI 1)))) (h := x) (f := y) (by rw [hkx]; exact c5) (by rw [hkx]; exact if_pos (Int32.not_le.mp c6)) (by rw [hkx]; simp only [pk_us]; exact c50)
                  have hfar : farS (M 52) (M 36) (M 38) x y = (some (y + 1), (upd (M 38) y ((M 38 y) + (nI 1)))) := hfar2.trans (by rw [hev, if_neg Bool.false_ne_true])
                  have hE : mixMStep (M 52) (M 35) lo hi y (M 36, M 37, M 38) = (M 36, M 37, (upd (M 38) y ((M 38 y) + (nI 1)))) := by rw [mm_some (q := (M 36, M 37, M 38)) hbd c3, co_o (g := (y + 1)) (by rw [hfar]) (by omega), hfar]
                  exact m_retv S hr hlocks hw dX8_mixes_193 ⟨(hq58).trans (by rw [hE]), (hq59).trans (by rw [hE]), (hq49).trans (by rw [hE]), (fun k hk => (show M48 k = M k by rw [eM48]; exact va_up_ne _ _ (by omega)))⟩
                · refine lv_aload_n S.1 S.2.1 dX8_mixes_167 rfl (lv_at hl 5 rfl) ?_
                  refine lv_iload S.1 S.2.1 dX8_mixes_168 (lv_at hl 0 rfl) ?_
                  refine r_VI (As := [.int (nI (y + 1))]) (rest := []) 34 S hw (by omega) rfl rfl (c_X8_isPure l G N K ad M48 h61 (y + 1) (by omega)) mf_X8_isPure wm_X8_146 ⟨by decide, by decide⟩ ⟨Nat.le_refl _, Nat.le_refl _⟩ hl.1 rfl (Nat.le_of_ble_eq_true rfl) dX8_mixes_170 (fun H locs hw => ?_)
                  refine b_eq (tgt := 193) S dX8_mixes_173 (by decide) (fun c60 => ?_) (fun c60 => ?_)
                  · have hq61 : M48 37 = M 37 := by rw [eM48, va_up_ne _ _ (by omega)]
                    have hpg : pureB (M 37) (y + 1) = false := by rw [← hq61]; exact c60
                    have hq62 : M48 36 = M 36 := by rw [eM48, va_up_ne _ _ (by omega)]
                    have hfar2 := farS_2 (mx := M 52) (kd := M 36) (w := M 38) (w1 := (upd (M 38) y ((M 38 y) + (nI 1)))) (h := x) (f := y) (by rw [hkx]; exact c5) (by rw [hkx]; exact if_pos (Int32.not_le.mp c6)) (by rw [hkx]; simp only [pk_us]; exact c50)
                    have hfar : farS (M 52) (M 36) (M 38) x y = (some (y + 1), (upd (M 38) y ((M 38 y) + (nI 1)))) := hfar2.trans (by rw [hev, if_neg Bool.false_ne_true])
                    have hE : mixMStep (M 52) (M 35) lo hi y (M 36, M 37, M 38) = (M 36, M 37, (upd (M 38) y ((M 38 y) + (nI 1)))) := by rw [mm_some (q := (M 36, M 37, M 38)) hbd c3, co_i (g := (y + 1)) (by rw [hfar]) (by omega), hfar]; exact mo_n1 hpg
                    exact m_retv S hr hlocks hw dX8_mixes_193 ⟨(hq62).trans (by rw [hE]), (hq61).trans (by rw [hE]), (hq49).trans (by rw [hE]), (fun k hk => (show M48 k = M k by rw [eM48]; exact va_up_ne _ _ (by omega)))⟩
                  · have hq63 : M48 37 = M 37 := by rw [eM48, va_up_ne _ _ (by omega)]
                    have hpg : pureB (M 37) (y + 1) = true := by rw [← hq63]; exact c60
                    refine lv_aload_n S.1 S.2.1 dX8_mixes_176 rfl (lv_at hl 5 rfl) ?_
                    refine m_getR 34 2 35 S hw (by omega) rfl rfl rfl in_X8 (by decide) wf_X8_16 dX8_mixes_177 ?_
                    refine lv_iload S.1 S.2.1 dX8_mixes_180 (lv_at hl 0 rfl) ?_
                    refine m_ald 35 (y + 1) S hw (by omega) rfl (by decide) (by omega) rfl dX8_mixes_182 ?_
                    have hq64 : M48 35 = M 35 := by rw [eM48, va_up_ne _ _ (by omega)]
                    refine m_top (show M48 35 (y + 1) = M 35 (y + 1) from congrFun hq64 (y + 1)) ?_
                    refine lv_aload_n S.1 S.2.1 dX8_mixes_183 rfl (lv_at hl 5 rfl) ?_
                    refine m_getR 34 2 35 S hw (by omega) rfl rfl rfl in_X8 (by decide) wf_X8_16 dX8_mixes_184 ?_
                    refine lv_iload S.1 S.2.1 dX8_mixes_187 (lv_at hl 1 rfl) ?_
                    refine m_ald 35 y S hw (by omega) rfl (by decide) (by omega) rfl dX8_mixes_189 ?_
                    refine m_top (show M48 35 y = M 35 y from congrFun hq64 y) ?_
                    refine lv_icmp_eq (tgt := 194) S.1 S.2.1 dX8_mixes_190 (by decide) (fun c65 => ?_) (fun c65 => ?_)
                    · refine lv_aload_n S.1 S.2.1 dX8_mixes_194 rfl (lv_at hl 5 rfl) ?_
                      refine m_getR 34 3 36 S hw (by omega) rfl rfl rfl in_X8 (by decide) wf_X8_20 dX8_mixes_195 ?_
                      refine lv_iload S.1 S.2.1 dX8_mixes_198 (lv_at hl 4 rfl) ?_
                      refine m_ald 36 x S hw (by omega) rfl (by decide) (by omega) rfl dX8_mixes_200 ?_
                      have hq66 : M48 36 = M 36 := by rw [eM48, va_up_ne _ _ (by omega)]
                      refine m_top (show M48 36 x = M 36 x from congrFun hq66 x) ?_
                      refine m_top (show M 36 x = nI kh from hkh) ?_
                      refine lv_istore (lv' := [(9, .int (nI kh)), (8, .int (nI (y + 1))), (7, .int (nI y)), (6, .int (nI 0)), (5, .int (M 52 (kh * 8 + kf))), (4, .int (nI x)), (0, .ref (ad 34)), (1, .int (nI y)), (2, .int (nI lo)), (3, .int (nI hi))]) S.1 S.2.1 dX8_mixes_201 hl (by decide) rfl (fun ls hl => ?_)
                      refine lv_aload_n S.1 S.2.1 dX8_mixes_203 rfl (lv_at hl 6 rfl) ?_
                      refine m_getR 34 3 36 S hw (by omega) rfl rfl rfl in_X8 (by decide) wf_X8_20 dX8_mixes_204 ?_
                      refine lv_iload_n S.1 S.2.1 dX8_mixes_207 rfl (lv_at hl 7 rfl) ?_
                      refine m_ald 36 y S hw (by omega) rfl (by decide) (by omega) rfl dX8_mixes_208 ?_
                      refine m_top (show M48 36 y = M 36 y from congrFun hq66 y) ?_
                      refine m_top (show M 36 y = nI kf from hkf) ?_
                      refine lv_istore (lv' := [(10, .int (nI kf)), (9, .int (nI kh)), (8, .int (nI (y + 1))), (7, .int (nI y)), (6, .int (nI 0)), (5, .int (M 52 (kh * 8 + kf))), (4, .int (nI x)), (0, .ref (ad 34)), (1, .int (nI y)), (2, .int (nI lo)), (3, .int (nI hi))]) S.1 S.2.1 dX8_mixes_209 hl (by decide) rfl (fun ls hl => ?_)
                      refine lv_aload_n S.1 S.2.1 dX8_mixes_211 rfl (lv_at hl 7 rfl) ?_
                      refine m_getR 34 3 36 S hw (by omega) rfl rfl rfl in_X8 (by decide) wf_X8_20 dX8_mixes_212 ?_
                      refine lv_iload S.1 S.2.1 dX8_mixes_215 (lv_at hl 3 rfl) ?_
                      refine lv_iload S.1 S.2.1 dX8_mixes_217 (lv_at hl 1 rfl) ?_
                      refine n_ast 36 y S hw (by omega) rfl (by decide) (by omega) rfl dX8_mixes_219 (fun M67 H locs eM67 hw => ?_)
                      refine lv_aload_n S.1 S.2.1 dX8_mixes_220 rfl (lv_at hl 7 rfl) ?_
                      refine m_getR 34 4 37 S hw (by omega) rfl rfl rfl in_X8 (by decide) wf_X8_23 dX8_mixes_221 ?_
                      refine lv_iload S.1 S.2.1 dX8_mixes_224 (lv_at hl 3 rfl) ?_
                      refine lv_iload S.1 S.2.1 dX8_mixes_226 (lv_at hl 0 rfl) ?_
                      refine n_ast 37 y S hw (by omega) rfl (by decide) (by omega) rfl dX8_mixes_228 (fun M68 H locs eM68 hw => ?_)
                      refine lv_aload_n S.1 S.2.1 dX8_mixes_229 rfl (lv_at hl 7 rfl) ?_
                      refine m_getR 34 5 38 S hw (by omega) rfl rfl rfl in_X8 (by decide) wf_X8_26 dX8_mixes_230 ?_
                      refine lv_iload S.1 S.2.1 dX8_mixes_233 (lv_at hl 4 rfl) ?_
                      refine lv_if_eq (tgt := 242) S.1 S.2.1 dX8_mixes_235 (by decide) (fun c69 => ?_) (fun c69 => absurd c69 (fun z => z rfl))
                      refine lv_iload S.1 S.2.1 dX8_mixes_242 (lv_at hl 2 rfl) ?_
                      refine lv_iconst (v := nI 0) S.1 S.2.1 dX8_mixes_244 (by decide) ?_
                      refine n_ast 38 (y + 1) S hw (by omega) rfl (by decide) (by omega) rfl dX8_mixes_245 (fun M70 H locs eM70 hw => ?_)
                      have hq71 : M67 36 = upd (M 36) y (nI kh) := by rw [eM67, va_up_self, hq66]
                      have hq72 : M68 36 = upd (M 36) y (nI kh) := by rw [eM68, va_up_ne _ _ (by omega), hq71]
                      have hq73 : M70 36 = upd (M 36) y (nI kh) := by rw [eM70, va_up_ne _ _ (by omega), hq72]
                      have hq74 : M67 37 = M 37 := by rw [eM67, va_up_ne _ _ (by omega), hq63]
                      have hq75 : M68 37 = upd (M 37) y (nI kf) := by rw [eM68, va_up_self, hq74]
                      have hq76 : M70 37 = upd (M 37) y (nI kf) := by rw [eM70, va_up_ne _ _ (by omega), hq75]
                      have hq77 : M67 38 = upd (M 38) y ((M 38 y) + (nI 1)) := by rw [eM67, va_up_ne _ _ (by omega), hq49]
                      have hq78 : M68 38 = upd (M 38) y ((M 38 y) + (nI 1)) := by rw [eM68, va_up_ne _ _ (by omega), hq77]
                      have hq79 : M70 38 = upd (upd (M 38) y ((M 38 y) + (nI 1))) (y + 1) (nI 0) := by rw [eM70, va_up_self, hq78]
                      have hfar2 := farS_2 (mx := M 52) (kd := M 36) (w := M 38) (w1 := (upd (M 38) y ((M 38 y) + (nI 1)))) (h := x) (f := y) (by rw [hkx]; exact c5) (by rw [hkx]; exact if_pos (Int32.not_le.mp c6)) (by rw [hkx]; simp only [pk_us]; exact c50)
                      have hfar : farS (M 52) (M 36) (M 38) x y = (some (y + 1), (upd (M 38) y ((M 38 y) + (nI 1)))) := hfar2.trans (by rw [hev, if_neg Bool.false_ne_true])
                      have hE : mixMStep (M 52) (M 35) lo hi y (M 36, M 37, M 38) = (upd (M 36) y (nI kh), upd (M 37) y (nI kf), upd (upd (M 38) y ((M 38 y) + (nI 1))) (y + 1) (nI 0)) := by rw [mm_some (q := (M 36, M 37, M 38)) hbd c3, co_i (g := (y + 1)) (by rw [hfar]) (by omega), hfar, ← hkh, ← hkf]; exact mo_y2 hev hpg c65
                      exact m_retv S hr hlocks hw dX8_mixes_246 ⟨(hq73).trans (by rw [hE]), (hq76).trans (by rw [hE]), (hq79).trans (by rw [hE]), (fun k hk => ((show M70 k = M68 k by rw [eM70]; exact va_up_ne _ _ (by omega)).trans ((show M68 k = M67 k by rw [eM68]; exact va_up_ne _ _ (by omega)).trans ((show M67 k = M48 k by rw [eM67]; exact va_up_ne _ _ (by omega)).trans (show M48 k = M k by rw [eM48]; exact va_up_ne _ _ (by omega))))))⟩
                    · have hq80 : M48 36 = M 36 := by rw [eM48, va_up_ne _ _ (by omega)]
                      have hfar2 := farS_2 (mx := M 52) (kd := M 36) (w := M 38) (w1 := (upd (M 38) y ((M 38 y) + (nI 1)))) (h := x) (f := y) (by rw [hkx]; exact c5) (by rw [hkx]; exact if_pos (Int32.not_le.mp c6)) (by rw [hkx]; simp only [pk_us]; exact c50)
                      have hfar : farS (M 52) (M 36) (M 38) x y = (some (y + 1), (upd (M 38) y ((M 38 y) + (nI 1)))) := hfar2.trans (by rw [hev, if_neg Bool.false_ne_true])
                      have hE : mixMStep (M 52) (M 35) lo hi y (M 36, M 37, M 38) = (M 36, M 37, (upd (M 38) y ((M 38 y) + (nI 1)))) := by rw [mm_some (q := (M 36, M 37, M 38)) hbd c3, co_i (g := (y + 1)) (by rw [hfar]) (by omega), hfar]; exact mo_n3 hev c65
                      exact m_retv S hr hlocks hw dX8_mixes_193 ⟨(hq80).trans (by rw [hE]), (hq63).trans (by rw [hE]), (hq49).trans (by rw [hE]), (fun k hk => (show M48 k = M k by rw [eM48]; exact va_up_ne _ _ (by omega)))⟩
            · have hev : evB x y = true := evB_t (by omega) (by omega) c51
              refine lv_iconst (v := nI 1) S.1 S.2.1 dX8_mixes_118 (by decide) ?_
              refine lv_goto (tgt := 123) S.1 S.2.1 dX8_mixes_119 (by decide) ?_
              refine lv_istore (lv' := [(6, .int (nI 1)), (5, .int (M 52 (kh * 8 + kf))), (4, .int (nI x)), (0, .ref (ad 34)), (1, .int (nI y)), (2, .int (nI lo)), (3, .int (nI hi))]) S.1 S.2.1 dX8_mixes_123 hl (by decide) rfl (fun ls hl => ?_)
              refine lv_iload S.1 S.2.1 dX8_mixes_125 (lv_at hl 0 rfl) ?_
              refine lv_if_eq (tgt := 135) S.1 S.2.1 dX8_mixes_127 (by decide) (fun c81 => absurd c81 (by decide)) (fun c81 => ?_)
              refine lv_iload S.1 S.2.1 dX8_mixes_130 (lv_at hl 2 rfl) ?_
              refine lv_goto (tgt := 136) S.1 S.2.1 dX8_mixes_132 (by decide) ?_
              refine lv_istore (lv' := [(7, .int (nI x)), (6, .int (nI 1)), (5, .int (M 52 (kh * 8 + kf))), (4, .int (nI x)), (0, .ref (ad 34)), (1, .int (nI y)), (2, .int (nI lo)), (3, .int (nI hi))]) S.1 S.2.1 dX8_mixes_136 hl (by decide) rfl (fun ls hl => ?_)
              refine lv_iload S.1 S.2.1 dX8_mixes_138 (lv_at hl 1 rfl) ?_
              refine lv_if_eq (tgt := 150) S.1 S.2.1 dX8_mixes_140 (by decide) (fun c82 => absurd c82 (by decide)) (fun c82 => ?_)
              rcases Nat.eq_zero_or_pos x with hx0 | hx0
              · skip
                refine lv_iload S.1 S.2.1 dX8_mixes_143 (lv_at hl 3 rfl) ?_
                refine lv_iconst (v := nI 1) S.1 S.2.1 dX8_mixes_145 (by decide) ?_
                refine lv_isub S.1 S.2.1 dX8_mixes_146 ?_
                refine m_top (show (nI x) - (nI 1) = (-1) from by rw [hx0]; exact m1_eq) ?_
                refine lv_goto (tgt := 153) S.1 S.2.1 dX8_mixes_147 (by decide) ?_
                refine lv_istore (lv' := [(8, .int (-1)), (7, .int (nI x)), (6, .int (nI 1)), (5, .int (M 52 (kh * 8 + kf))), (4, .int (nI x)), (0, .ref (ad 34)), (1, .int (nI y)), (2, .int (nI lo)), (3, .int (nI hi))]) S.1 S.2.1 dX8_mixes_153 hl (by decide) rfl (fun ls hl => ?_)
                refine lv_iload S.1 S.2.1 dX8_mixes_155 (lv_at hl 0 rfl) ?_
                refine lv_iload_n S.1 S.2.1 dX8_mixes_157 rfl (lv_at hl 7 rfl) ?_
                refine lv_icmp_lt (tgt := 193) S.1 S.2.1 dX8_mixes_158 (by decide) (fun c83 => ?_) (fun c83 => absurd c83 (fun z => z (m1_lt_nI (by omega))))
                have hq84 : M48 36 = M 36 := by rw [eM48, va_up_ne _ _ (by omega)]
                have hq85 : M48 37 = M 37 := by rw [eM48, va_up_ne _ _ (by omega)]
                have hfar2 := farS_2 (mx := M 52) (kd := M 36) (w := M 38) (w1 := (upd (M 38) y ((M 38 y) + (nI 1)))) (h := x) (f := y) (by rw [hkx]; exact c5) (by rw [hkx]; exact if_pos (Int32.not_le.mp c6)) (by rw [hkx]; simp only [pk_us]; exact c50)
                have hfar : farS (M 52) (M 36) (M 38) x y = (none, (upd (M 38) y ((M 38 y) + (nI 1)))) := hfar2.trans (by rw [hev, if_pos rfl, if_pos hx0])
                have hE : mixMStep (M 52) (M 35) lo hi y (M 36, M 37, M 38) = (M 36, M 37, (upd (M 38) y ((M 38 y) + (nI 1)))) := by rw [mm_some (q := (M 36, M 37, M 38)) hbd c3, co_n' (by rw [hfar]), hfar]
                exact m_retv S hr hlocks hw dX8_mixes_193 ⟨(hq84).trans (by rw [hE]), (hq85).trans (by rw [hE]), (hq49).trans (by rw [hE]), (fun k hk => (show M48 k = M k by rw [eM48]; exact va_up_ne _ _ (by omega)))⟩
              · skip
                refine lv_iload S.1 S.2.1 dX8_mixes_143 (lv_at hl 3 rfl) ?_
                refine lv_iconst (v := nI 1) S.1 S.2.1 dX8_mixes_145 (by decide) ?_
                refine lv_isub S.1 S.2.1 dX8_mixes_146 ?_
                refine m_top (show (nI x) - (nI 1) = nI (x - 1) from pk_sub (by omega)) ?_
                refine lv_goto (tgt := 153) S.1 S.2.1 dX8_mixes_147 (by decide) ?_
                refine lv_istore (lv' := [(8, .int (nI (x - 1))), (7, .int (nI x)), (6, .int (nI 1)), (5, .int (M 52 (kh * 8 + kf))), (4, .int (nI x)), (0, .ref (ad 34)), (1, .int (nI y)), (2, .int (nI lo)), (3, .int (nI hi))]) S.1 S.2.1 dX8_mixes_153 hl (by decide) rfl (fun ls hl => ?_)
                refine lv_iload S.1 S.2.1 dX8_mixes_155 (lv_at hl 0 rfl) ?_
                refine lv_iload_n S.1 S.2.1 dX8_mixes_157 rfl (lv_at hl 7 rfl) ?_
                refine n_lt (tgt := 193) S (by omega) (by omega) dX8_mixes_158 (by decide) (fun c86 => ?_) (fun c86 => ?_)
                · have hq87 : M48 36 = M 36 := by rw [eM48, va_up_ne _ _ (by omega)]
                  have hq88 : M48 37 = M 37 := by rw [eM48, va_up_ne _ _ (by omega)]
                  have hfar2 := farS_2 (mx := M 52) (kd := M 36) (w := M 38) (w1 := (upd (M 38) y ((M 38 y) + (nI 1)))) (h := x) (f := y) (by rw [hkx]; exact c5) (by rw [hkx]; exact if_pos (Int32.not_le.mp c6)) (by rw [hkx]; simp only [pk_us]; exact c50)
                  have hfar : farS (M 52) (M 36) (M 38) x y = (some (x - 1), (upd (M 38) y ((M 38 y) + (nI 1)))) := hfar2.trans (by rw [hev, if_pos rfl, if_neg (by omega)])
                  have hE : mixMStep (M 52) (M 35) lo hi y (M 36, M 37, M 38) = (M 36, M 37, (upd (M 38) y ((M 38 y) + (nI 1)))) := by rw [mm_some (q := (M 36, M 37, M 38)) hbd c3, co_o (g := (x - 1)) (by rw [hfar]) (by omega), hfar]
                  exact m_retv S hr hlocks hw dX8_mixes_193 ⟨(hq87).trans (by rw [hE]), (hq88).trans (by rw [hE]), (hq49).trans (by rw [hE]), (fun k hk => (show M48 k = M k by rw [eM48]; exact va_up_ne _ _ (by omega)))⟩
                · refine lv_iload S.1 S.2.1 dX8_mixes_161 (lv_at hl 0 rfl) ?_
                  refine lv_iload_n S.1 S.2.1 dX8_mixes_163 rfl (lv_at hl 8 rfl) ?_
                  refine n_ge (tgt := 193) S (by omega) (by omega) dX8_mixes_164 (by decide) (fun c89 => ?_) (fun c89 => ?_)
                  · have hq90 : M48 36 = M 36 := by rw [eM48, va_up_ne _ _ (by omega)]
                    have hq91 : M48 37 = M 37 := by rw [eM48, va_up_ne _ _ (by omega)]
                    have hfar2 := farS_2 (mx := M 52) (kd := M 36) (w := M 38) (w1 := (upd (M 38) y ((M 38 y) + (nI 1)))) (h := x) (f := y) (by rw [hkx]; exact c5) (by rw [hkx]; exact if_pos (Int32.not_le.mp c6)) (by rw [hkx]; simp only [pk_us]; exact c50)
                    have hfar : farS (M 52) (M 36) (M 38) x y = (some (x - 1), (upd (M 38) y ((M 38 y) + (nI 1)))) := hfar2.trans (by rw [hev, if_pos rfl, if_neg (by omega)])
                    have hE : mixMStep (M 52) (M 35) lo hi y (M 36, M 37, M 38) = (M 36, M 37, (upd (M 38) y ((M 38 y) + (nI 1)))) := by rw [mm_some (q := (M 36, M 37, M 38)) hbd c3, co_o (g := (x - 1)) (by rw [hfar]) (by omega), hfar]
                    exact m_retv S hr hlocks hw dX8_mixes_193 ⟨(hq90).trans (by rw [hE]), (hq91).trans (by rw [hE]), (hq49).trans (by rw [hE]), (fun k hk => (show M48 k = M k by rw [eM48]; exact va_up_ne _ _ (by omega)))⟩
                  · refine lv_aload_n S.1 S.2.1 dX8_mixes_167 rfl (lv_at hl 5 rfl) ?_
                    refine lv_iload S.1 S.2.1 dX8_mixes_168 (lv_at hl 0 rfl) ?_
                    refine r_VI (As := [.int (nI (x - 1))]) (rest := []) 34 S hw (by omega) rfl rfl (c_X8_isPure l G N K ad M48 h61 (x - 1) (by omega)) mf_X8_isPure wm_X8_146 ⟨by decide, by decide⟩ ⟨Nat.le_refl _, Nat.le_refl _⟩ hl.1 rfl (Nat.le_of_ble_eq_true rfl) dX8_mixes_170 (fun H locs hw => ?_)
                    refine b_eq (tgt := 193) S dX8_mixes_173 (by decide) (fun c92 => ?_) (fun c92 => ?_)
                    · have hq93 : M48 37 = M 37 := by rw [eM48, va_up_ne _ _ (by omega)]
                      have hpg : pureB (M 37) (x - 1) = false := by rw [← hq93]; exact c92
                      have hq94 : M48 36 = M 36 := by rw [eM48, va_up_ne _ _ (by omega)]
                      have hfar2 := farS_2 (mx := M 52) (kd := M 36) (w := M 38) (w1 := (upd (M 38) y ((M 38 y) + (nI 1)))) (h := x) (f := y) (by rw [hkx]; exact c5) (by rw [hkx]; exact if_pos (Int32.not_le.mp c6)) (by rw [hkx]; simp only [pk_us]; exact c50)
                      have hfar : farS (M 52) (M 36) (M 38) x y = (some (x - 1), (upd (M 38) y ((M 38 y) + (nI 1)))) := hfar2.trans (by rw [hev, if_pos rfl, if_neg (by omega)])
                      have hE : mixMStep (M 52) (M 35) lo hi y (M 36, M 37, M 38) = (M 36, M 37, (upd (M 38) y ((M 38 y) + (nI 1)))) := by rw [mm_some (q := (M 36, M 37, M 38)) hbd c3, co_i (g := (x - 1)) (by rw [hfar]) (by omega), hfar]; exact mo_n1 hpg
                      exact m_retv S hr hlocks hw dX8_mixes_193 ⟨(hq94).trans (by rw [hE]), (hq93).trans (by rw [hE]), (hq49).trans (by rw [hE]), (fun k hk => (show M48 k = M k by rw [eM48]; exact va_up_ne _ _ (by omega)))⟩
                    · have hq95 : M48 37 = M 37 := by rw [eM48, va_up_ne _ _ (by omega)]
                      have hpg : pureB (M 37) (x - 1) = true := by rw [← hq95]; exact c92
                      refine lv_aload_n S.1 S.2.1 dX8_mixes_176 rfl (lv_at hl 5 rfl) ?_
                      refine m_getR 34 2 35 S hw (by omega) rfl rfl rfl in_X8 (by decide) wf_X8_16 dX8_mixes_177 ?_
                      refine lv_iload S.1 S.2.1 dX8_mixes_180 (lv_at hl 0 rfl) ?_
                      refine m_ald 35 (x - 1) S hw (by omega) rfl (by decide) (by omega) rfl dX8_mixes_182 ?_
                      have hq96 : M48 35 = M 35 := by rw [eM48, va_up_ne _ _ (by omega)]
                      refine m_top (show M48 35 (x - 1) = M 35 (x - 1) from congrFun hq96 (x - 1)) ?_
                      refine lv_aload_n S.1 S.2.1 dX8_mixes_183 rfl (lv_at hl 5 rfl) ?_
                      refine m_getR 34 2 35 S hw (by omega) rfl rfl rfl in_X8 (by decide) wf_X8_16 dX8_mixes_184 ?_
                      refine lv_iload S.1 S.2.1 dX8_mixes_187 (lv_at hl 1 rfl) ?_
                      refine m_ald 35 x S hw (by omega) rfl (by decide) (by omega) rfl dX8_mixes_189 ?_
                      refine m_top (show M48 35 x = M 35 x from congrFun hq96 x) ?_
                      refine lv_icmp_eq (tgt := 194) S.1 S.2.1 dX8_mixes_190 (by decide) (fun c97 => ?_) (fun c97 => ?_)
                      · refine lv_aload_n S.1 S.2.1 dX8_mixes_194 rfl (lv_at hl 5 rfl) ?_
                        refine m_getR 34 3 36 S hw (by omega) rfl rfl rfl in_X8 (by decide) wf_X8_20 dX8_mixes_195 ?_
                        refine lv_iload S.1 S.2.1 dX8_mixes_198 (lv_at hl 4 rfl) ?_
                        refine m_ald 36 x S hw (by omega) rfl (by decide) (by omega) rfl dX8_mixes_200 ?_
                        have hq98 : M48 36 = M 36 := by rw [eM48, va_up_ne _ _ (by omega)]
                        refine m_top (show M48 36 x = M 36 x from congrFun hq98 x) ?_
                        refine m_top (show M 36 x = nI kh from hkh) ?_
                        refine lv_istore (lv' := [(9, .int (nI kh)), (8, .int (nI (x - 1))), (7, .int (nI x)), (6, .int (nI 1)), (5, .int (M 52 (kh * 8 + kf))), (4, .int (nI x)), (0, .ref (ad 34)), (1, .int (nI y)), (2, .int (nI lo)), (3, .int (nI hi))]) S.1 S.2.1 dX8_mixes_201 hl (by decide) rfl (fun ls hl => ?_)
                        refine lv_aload_n S.1 S.2.1 dX8_mixes_203 rfl (lv_at hl 6 rfl) ?_
                        refine m_getR 34 3 36 S hw (by omega) rfl rfl rfl in_X8 (by decide) wf_X8_20 dX8_mixes_204 ?_
                        refine lv_iload_n S.1 S.2.1 dX8_mixes_207 rfl (lv_at hl 7 rfl) ?_
                        refine m_ald 36 y S hw (by omega) rfl (by decide) (by omega) rfl dX8_mixes_208 ?_
                        refine m_top (show M48 36 y = M 36 y from congrFun hq98 y) ?_
                        refine m_top (show M 36 y = nI kf from hkf) ?_
                        refine lv_istore (lv' := [(10, .int (nI kf)), (9, .int (nI kh)), (8, .int (nI (x - 1))), (7, .int (nI x)), (6, .int (nI 1)), (5, .int (M 52 (kh * 8 + kf))), (4, .int (nI x)), (0, .ref (ad 34)), (1, .int (nI y)), (2, .int (nI lo)), (3, .int (nI hi))]) S.1 S.2.1 dX8_mixes_209 hl (by decide) rfl (fun ls hl => ?_)
                        refine lv_aload_n S.1 S.2.1 dX8_mixes_211 rfl (lv_at hl 7 rfl) ?_
                        refine m_getR 34 3 36 S hw (by omega) rfl rfl rfl in_X8 (by decide) wf_X8_20 dX8_mixes_212 ?_
                        refine lv_iload S.1 S.2.1 dX8_mixes_215 (lv_at hl 3 rfl) ?_
                        refine lv_iload S.1 S.2.1 dX8_mixes_217 (lv_at hl 1 rfl) ?_
                        refine n_ast 36 x S hw (by omega) rfl (by decide) (by omega) rfl dX8_mixes_219 (fun M99 H locs eM99 hw => ?_)
                        refine lv_aload_n S.1 S.2.1 dX8_mixes_220 rfl (lv_at hl 7 rfl) ?_
                        refine m_getR 34 4 37 S hw (by omega) rfl rfl rfl in_X8 (by decide) wf_X8_23 dX8_mixes_221 ?_
                        refine lv_iload S.1 S.2.1 dX8_mixes_224 (lv_at hl 3 rfl) ?_
                        refine lv_iload S.1 S.2.1 dX8_mixes_226 (lv_at hl 0 rfl) ?_
                        refine n_ast 37 x S hw (by omega) rfl (by decide) (by omega) rfl dX8_mixes_228 (fun M100 H locs eM100 hw => ?_)
                        refine lv_aload_n S.1 S.2.1 dX8_mixes_229 rfl (lv_at hl 7 rfl) ?_
                        refine m_getR 34 5 38 S hw (by omega) rfl rfl rfl in_X8 (by decide) wf_X8_26 dX8_mixes_230 ?_
                        refine lv_iload S.1 S.2.1 dX8_mixes_233 (lv_at hl 4 rfl) ?_
                        refine lv_if_eq (tgt := 242) S.1 S.2.1 dX8_mixes_235 (by decide) (fun c101 => absurd c101 (by decide)) (fun c101 => ?_)
                        refine lv_iload_n S.1 S.2.1 dX8_mixes_238 rfl (lv_at hl 8 rfl) ?_
                        refine lv_goto (tgt := 244) S.1 S.2.1 dX8_mixes_239 (by decide) ?_
                        refine lv_iconst (v := nI 0) S.1 S.2.1 dX8_mixes_244 (by decide) ?_
                        refine n_ast 38 y S hw (by omega) rfl (by decide) (by omega) rfl dX8_mixes_245 (fun M102 H locs eM102 hw => ?_)
                        have hq103 : M99 36 = upd (M 36) x (nI kh) := by rw [eM99, va_up_self, hq98]
                        have hq104 : M100 36 = upd (M 36) x (nI kh) := by rw [eM100, va_up_ne _ _ (by omega), hq103]
                        have hq105 : M102 36 = upd (M 36) x (nI kh) := by rw [eM102, va_up_ne _ _ (by omega), hq104]
                        have hq106 : M99 37 = M 37 := by rw [eM99, va_up_ne _ _ (by omega), hq95]
                        have hq107 : M100 37 = upd (M 37) x (nI kf) := by rw [eM100, va_up_self, hq106]
                        have hq108 : M102 37 = upd (M 37) x (nI kf) := by rw [eM102, va_up_ne _ _ (by omega), hq107]
                        have hq109 : M99 38 = upd (M 38) y ((M 38 y) + (nI 1)) := by rw [eM99, va_up_ne _ _ (by omega), hq49]
                        have hq110 : M100 38 = upd (M 38) y ((M 38 y) + (nI 1)) := by rw [eM100, va_up_ne _ _ (by omega), hq109]
                        have hq111 : M102 38 = upd (upd (M 38) y ((M 38 y) + (nI 1))) y (nI 0) := by rw [eM102, va_up_self, hq110]
                        have hfar2 := farS_2 (mx := M 52) (kd := M 36) (w := M 38) (w1 := (upd (M 38) y ((M 38 y) + (nI 1)))) (h := x) (f := y) (by rw [hkx]; exact c5) (by rw [hkx]; exact if_pos (Int32.not_le.mp c6)) (by rw [hkx]; simp only [pk_us]; exact c50)
                        have hfar : farS (M 52) (M 36) (M 38) x y = (some (x - 1), (upd (M 38) y ((M 38 y) + (nI 1)))) := hfar2.trans (by rw [hev, if_pos rfl, if_neg (by omega)])
                        have hE : mixMStep (M 52) (M 35) lo hi y (M 36, M 37, M 38) = (upd (M 36) x (nI kh), upd (M 37) x (nI kf), upd (upd (M 38) y ((M 38 y) + (nI 1))) y (nI 0)) := by rw [mm_some (q := (M 36, M 37, M 38)) hbd c3, co_i (g := (x - 1)) (by rw [hfar]) (by omega), hfar, ← hkh, ← hkf]; exact mo_y1 hev hpg c97
                        exact m_retv S hr hlocks hw dX8_mixes_246 ⟨(hq105).trans (by rw [hE]), (hq108).trans (by rw [hE]), (hq111).trans (by rw [hE]), (fun k hk => ((show M102 k = M100 k by rw [eM102]; exact va_up_ne _ _ (by omega)).trans ((show M100 k = M99 k by rw [eM100]; exact va_up_ne _ _ (by omega)).trans ((show M99 k = M48 k by rw [eM99]; exact va_up_ne _ _ (by omega)).trans (show M48 k = M k by rw [eM48]; exact va_up_ne _ _ (by omega))))))⟩
                      · have hq112 : M48 36 = M 36 := by rw [eM48, va_up_ne _ _ (by omega)]
                        have hfar2 := farS_2 (mx := M 52) (kd := M 36) (w := M 38) (w1 := (upd (M 38) y ((M 38 y) + (nI 1)))) (h := x) (f := y) (by rw [hkx]; exact c5) (by rw [hkx]; exact if_pos (Int32.not_le.mp c6)) (by rw [hkx]; simp only [pk_us]; exact c50)
                        have hfar : farS (M 52) (M 36) (M 38) x y = (some (x - 1), (upd (M 38) y ((M 38 y) + (nI 1)))) := hfar2.trans (by rw [hev, if_pos rfl, if_neg (by omega)])
                        have hE : mixMStep (M 52) (M 35) lo hi y (M 36, M 37, M 38) = (M 36, M 37, (upd (M 38) y ((M 38 y) + (nI 1)))) := by rw [mm_some (q := (M 36, M 37, M 38)) hbd c3, co_i (g := (x - 1)) (by rw [hfar]) (by omega), hfar]; exact mo_n2 hev c97
                        exact m_retv S hr hlocks hw dX8_mixes_193 ⟨(hq112).trans (by rw [hE]), (hq95).trans (by rw [hE]), (hq49).trans (by rw [hE]), (fun k hk => (show M48 k = M k by rw [eM48]; exact va_up_ne _ _ (by omega)))⟩
          · have hq113 : M48 36 = M 36 := by rw [eM48, va_up_ne _ _ (by omega)]
            have hq114 : M48 37 = M 37 := by rw [eM48, va_up_ne _ _ (by omega)]
            have hfar : farS (M 52) (M 36) (M 38) x y = (none, (upd (M 38) y ((M 38 y) + (nI 1)))) := farS_1 (by rw [hkx]; exact c5) (by rw [hkx]; exact if_pos (Int32.not_le.mp c6)) (by rw [hkx]; simp only [pk_us]; exact c50)
            have hE : mixMStep (M 52) (M 35) lo hi y (M 36, M 37, M 38) = (M 36, M 37, (upd (M 38) y ((M 38 y) + (nI 1)))) := by rw [mm_some (q := (M 36, M 37, M 38)) hbd c3, co_n' (by rw [hfar]), hfar]
            exact m_retv S hr hlocks hw dX8_mixes_106 ⟨(hq113).trans (by rw [hE]), (hq114).trans (by rw [hE]), (hq49).trans (by rw [hE]), (fun k hk => (show M48 k = M k by rw [eM48]; exact va_up_ne _ _ (by omega)))⟩
      · have hfar : farS (M 52) (M 36) (M 38) x y = (none, M 38) := farS_0 (by rw [hkx]; exact c5)
        have hE : mixMStep (M 52) (M 35) lo hi y (M 36, M 37, M 38) = (M 36, M 37, M 38) := by rw [mm_some (q := (M 36, M 37, M 38)) hbd c3, co_n' (by rw [hfar]), hfar]
        exact m_retv S hr hlocks hw dX8_mixes_49 ⟨(rfl : M 36 = M 36).trans (by rw [hE]), (rfl : M 37 = M 37).trans (by rw [hE]), (rfl : M 38 = M 38).trans (by rw [hE]), (fun k hk => rfl)⟩
