theorem sub_sub32 (a b c : Int32) : a - b - c = a - (b + c) := by
  rw [Int32.sub_eq_add_neg, Int32.sub_eq_add_neg, Int32.sub_eq_add_neg, Int32.neg_add, Int32.sub_eq_add_neg, Int32.add_assoc]
theorem left_le : ∀ a, a < 61 → ∀ b, b < 121 → a ≤ b → nI a - nI b ≤ 0 := by decide +kernel
theorem left_gt : ∀ a, a < 61 → ∀ b, b < 61 → b < a → ¬ nI a - nI b ≤ 0 := by decide +kernel
def waM (M : Mem) (w : Nat) : Int32 := if M 56 w ≤ M 50 (tn (M 55 w)) - M 58 w then 0 else 1
theorem hr_lo {R cc i : Nat} (h1 : 1 ≤ R) (h : i < (cc + R - 1) / R) : i * R < cc := by
  have h2 : (i + 1) * R ≤ cc + R - 1 := (Nat.le_div_iff_mul_le (by omega)).mp h
  rw [Nat.add_mul] at h2
  omega
theorem hr_hi {R cc : Nat} (h1 : 1 ≤ R) : cc ≤ (cc + R - 1) / R * R := by
  have h2 := Nat.lt_div_mul_add (a := cc + R - 1) (b := R) (by omega)
  omega
theorem hr_up {R cc : Nat} (h1 : 1 ≤ R) (h60 : R ≤ 60) (hc : cc ≤ 60) : (cc + R - 1) / R * R < 121 := by
  have h2 := Nat.div_mul_le_self (cc + R - 1) R
  omega

set_option maxHeartbeats 4000000 in
set_option maxRecDepth 100000 in
/-- reference: ends -/
theorem c_X8_ends (l : Launch) (G : GT) (N K : Nat) (ad : Nat → Nat) (M : Mem) (h61 : 61 ≤ N) (a b cc r1 r2 : Nat) (ha6 : a < 6) (hb6 : b < 6) (hcc : cc ≤ 60) (h1 : M 43 a = nI r1) (h1a : 1 ≤ r1) (h1b : r1 ≤ 60) (h2 : M 43 b = nI r2) (h2a : 1 ≤ r2) (h2b : r2 ≤ 60) (t : Nat) (ht : M 34 24 = nI t) (ht30 : t < 2 ^ 30) (Wn : Nat) (hWn : M 34 26 = nI Wn) (hW20 : Wn ≤ 20) (hwt : ∀ w, w < Wn → inB (M 55 w) 48 = true) : CmV l G N K ad yX8_ends cX8_ends 6 0 0 [.ref (ad 34), .int (nI a), .int (nI b), .int (nI cc)] M (fun M1 => M1 34 24 = nI (t + (hrS r1 r2 cc)) ∧ M1 34 25 = passC (M 54) t (M 34 25) (hrS r1 r2 cc) ∧ (∀ j, j ≠ 24 → j ≠ 25 → M1 34 j = M 34 j) ∧ M1 59 = keepF (M 59) (waM M) (nI (t + (hrS r1 r2 cc))) Wn ∧ (∀ k, k ≠ 34 ∧ k ≠ 59 → M1 k = M k)) := by
  refine cm_startV (by decide +kernel) (Nat.le_of_ble_eq_true rfl) ?_
  intro p e s m below meth c ls S hr hlocks hw hl
  have hl : lv_has ls 6 [(0, .ref (ad 34)), (1, .int (nI a)), (2, .int (nI b)), (3, .int (nI cc))] := hl
  generalize hAv : List.toArray ([.ref (ad 34), .int (nI a), .int (nI b), .int (nI cc)] : List Value) = A at S ⊢
  have loopB : ∀ (n' : Nat) (i : Nat), i + n' = Wn → ∀ (M2 : Mem) (H : Heap) (locs : List Loc) (ls : Array Slot), (M2 34 24 = nI (t + (hrS r1 r2 cc)) ∧ M2 34 25 = passC (M 54) t (M 34 25) (hrS r1 r2 cc) ∧ (∀ j, j ≠ 24 → j ≠ 25 → M2 34 j = M 34 j) ∧ M2 59 = keepF (M 59) (waM M) (nI (t + (hrS r1 r2 cc))) i ∧ (∀ k, k ≠ 34 ∧ k ≠ 59 → M2 k = M k)) → Wd G N K ad M2 s H locs → lv_has ls 6 [(0, .ref (ad 34)), (1, .int (nI a)), (2, .int (nI b)), (3, .int (nI cc)), (4, .int (nI (min r1 r2))), (5, .int (nI i))] → W p l e { frames := 0, cells := 0, slots := 0, locals := 0 } s m A below meth c H locs 0 0 (QmV G N K ad (fun M1 => M1 34 24 = nI (t + (hrS r1 r2 cc)) ∧ M1 34 25 = passC (M 54) t (M 34 25) (hrS r1 r2 cc) ∧ (∀ j, j ≠ 24 → j ≠ 25 → M1 34 j = M 34 j) ∧ M1 59 = keepF (M 59) (waM M) (nI (t + (hrS r1 r2 cc))) Wn ∧ (∀ k, k ≠ 34 ∧ k ≠ 59 → M1 k = M k)) below A s) (F0 m 84 ls []) := by
    intro n'
    induction n' with
    | zero =>
      intro i hi M2 H locs ls hv hw hl
      obtain ⟨i24, i25, iff, i59, ifr⟩ := hv
      have hW2 : M2 34 26 = nI Wn := (iff 26 (by decide) (by decide)).trans hWn
      refine lv_iload S.1 S.2.1 dX8_ends_84 (lv_at hl 5 rfl) ?_
      refine lv_aload_n S.1 S.2.1 dX8_ends_86 rfl (lv_at hl 0 rfl) ?_
      refine m_getI 34 26 S hw (by omega) rfl rfl rfl in_X8 (by decide) wf_X8_111 dX8_ends_87 ?_
      refine m_top (show M2 34 26 = nI Wn from hW2) ?_
      refine n_ge (tgt := 151) S (by omega) (by omega) dX8_ends_90 (by decide) (fun c1 => ?_) (fun c1 => absurd c1 (by omega))
      exact m_retv S hr hlocks hw dX8_ends_151 ⟨i24, i25, iff, by rw [i59, show i = Wn by omega], ifr⟩
    | succ n' ih =>
      intro i hi M2 H locs ls hv hw hl
      obtain ⟨i24, i25, iff, i59, ifr⟩ := hv
      have hW2 : M2 34 26 = nI Wn := (iff 26 (by decide) (by decide)).trans hWn
      obtain ⟨tk, htk48, htk0⟩ := inB_of (hwt i (by omega)) (by decide)
      have htk : M2 55 i = nI tk := (congrFun (ifr 55 (by omega)) i).trans htk0
      have ttk : tn (M 55 i) = tk := tn_of htk0 (by omega)
      have ek : M2 59 i = M 59 i := (congrFun i59 i).trans keepF_at
      refine lv_iload S.1 S.2.1 dX8_ends_84 (lv_at hl 5 rfl) ?_
      refine lv_aload_n S.1 S.2.1 dX8_ends_86 rfl (lv_at hl 0 rfl) ?_
      refine m_getI 34 26 S hw (by omega) rfl rfl rfl in_X8 (by decide) wf_X8_111 dX8_ends_87 ?_
      refine m_top (show M2 34 26 = nI Wn from hW2) ?_
      refine n_ge (tgt := 151) S (by omega) (by omega) dX8_ends_90 (by decide) (fun c21 => absurd c21 (by omega)) (fun c21 => ?_)
      refine lv_aload_n S.1 S.2.1 dX8_ends_93 rfl (lv_at hl 0 rfl) ?_
      refine m_getR 34 31 59 S hw (by omega) rfl rfl rfl in_X8 (by decide) wf_X8_93 dX8_ends_94 ?_
      refine lv_iload S.1 S.2.1 dX8_ends_97 (lv_at hl 5 rfl) ?_
      refine m_ald 59 i S hw (by omega) rfl (by decide) (by omega) rfl dX8_ends_99 ?_
      refine lv_iconst (v := (-1)) S.1 S.2.1 dX8_ends_100 (by decide) ?_
      refine lv_icmp_ne (tgt := 145) S.1 S.2.1 dX8_ends_101 (by decide) (fun c22 => ?_) (fun c22 => ?_)
      · refine lv_iinc (v := nI (i + 1)) (lv' := [(5, .int (nI (i + 1))), (0, .ref (ad 34)), (1, .int (nI a)), (2, .int (nI b)), (3, .int (nI cc)), (4, .int (nI (min r1 r2)))]) S.1 S.2.1 dX8_ends_145 hl (k := 5) rfl (iinc1 _) (by decide) rfl (fun ls hl => ?_)
        refine lv_goto (tgt := 84) S.1 S.2.1 dX8_ends_148 (by decide) ?_
        exact ih (i + 1) (by omega) _ _ _ ls ⟨i24, i25, iff, i59.trans (keepF_f (fun q => c22 (ek.trans q.1))).symm, ifr⟩ hw (lv_sub hl [1, 2, 3, 4, 5, 0] rfl)
      · refine lv_aload_n S.1 S.2.1 dX8_ends_104 rfl (lv_at hl 0 rfl) ?_
        refine m_getR 34 19 50 S hw (by omega) rfl rfl rfl in_X8 (by decide) wf_X8_66 dX8_ends_105 ?_
        refine lv_aload_n S.1 S.2.1 dX8_ends_108 rfl (lv_at hl 0 rfl) ?_
        refine m_getR 34 27 55 S hw (by omega) rfl rfl rfl in_X8 (by decide) wf_X8_81 dX8_ends_109 ?_
        refine lv_iload S.1 S.2.1 dX8_ends_112 (lv_at hl 5 rfl) ?_
        refine m_ald 55 i S hw (by omega) rfl (by decide) (by omega) rfl dX8_ends_114 ?_
        refine m_top (show M2 55 i = nI tk from htk) ?_
        refine m_ald 50 tk S hw (by omega) rfl (by decide) (by omega) rfl dX8_ends_115 ?_
        refine lv_aload_n S.1 S.2.1 dX8_ends_116 rfl (lv_at hl 0 rfl) ?_
        refine m_getR 34 30 58 S hw (by omega) rfl rfl rfl in_X8 (by decide) wf_X8_90 dX8_ends_117 ?_
        refine lv_iload S.1 S.2.1 dX8_ends_120 (lv_at hl 5 rfl) ?_
        refine m_ald 58 i S hw (by omega) rfl (by decide) (by omega) rfl dX8_ends_122 ?_
        refine lv_isub S.1 S.2.1 dX8_ends_123 ?_
        refine lv_aload_n S.1 S.2.1 dX8_ends_124 rfl (lv_at hl 0 rfl) ?_
        refine m_getR 34 28 56 S hw (by omega) rfl rfl rfl in_X8 (by decide) wf_X8_84 dX8_ends_125 ?_
        refine lv_iload S.1 S.2.1 dX8_ends_128 (lv_at hl 5 rfl) ?_
        refine m_ald 56 i S hw (by omega) rfl (by decide) (by omega) rfl dX8_ends_130 ?_
        refine lv_icmp_lt (tgt := 145) S.1 S.2.1 dX8_ends_131 (by decide) (fun c23 => ?_) (fun c23 => ?_)
        · refine lv_iinc (v := nI (i + 1)) (lv' := [(5, .int (nI (i + 1))), (0, .ref (ad 34)), (1, .int (nI a)), (2, .int (nI b)), (3, .int (nI cc)), (4, .int (nI (min r1 r2)))]) S.1 S.2.1 dX8_ends_145 hl (k := 5) rfl (iinc1 _) (by decide) rfl (fun ls hl => ?_)
          refine lv_goto (tgt := 84) S.1 S.2.1 dX8_ends_148 (by decide) ?_
          have hwa : waM M i = 1 := by unfold waM; rw [ttk, ← ifr 56 (by omega), ← ifr 50 (by omega), ← ifr 58 (by omega)]; exact if_neg (fun z => Int32.not_lt.mpr z c23)
          exact ih (i + 1) (by omega) _ _ _ ls ⟨i24, i25, iff, i59.trans (keepF_f (fun q => absurd (hwa.symm.trans q.2) (by decide))).symm, ifr⟩ hw (lv_sub hl [1, 2, 3, 4, 5, 0] rfl)
        · refine lv_aload_n S.1 S.2.1 dX8_ends_134 rfl (lv_at hl 0 rfl) ?_
          refine m_getR 34 31 59 S hw (by omega) rfl rfl rfl in_X8 (by decide) wf_X8_93 dX8_ends_135 ?_
          refine lv_iload S.1 S.2.1 dX8_ends_138 (lv_at hl 5 rfl) ?_
          refine lv_aload_n S.1 S.2.1 dX8_ends_140 rfl (lv_at hl 0 rfl) ?_
          refine m_getI 34 24 S hw (by omega) rfl rfl rfl in_X8 (by decide) wf_X8_114 dX8_ends_141 ?_
          refine n_ast 59 i S hw (by omega) rfl (by decide) (by omega) rfl dX8_ends_144 (fun M24 H locs eM24 hw => ?_)
          refine lv_iinc (v := nI (i + 1)) (lv' := [(5, .int (nI (i + 1))), (0, .ref (ad 34)), (1, .int (nI a)), (2, .int (nI b)), (3, .int (nI cc)), (4, .int (nI (min r1 r2)))]) S.1 S.2.1 dX8_ends_145 hl (k := 5) rfl (iinc1 _) (by decide) rfl (fun ls hl => ?_)
          refine lv_goto (tgt := 84) S.1 S.2.1 dX8_ends_148 (by decide) ?_
          have hk1 : M 59 i = -1 := ek.symm.trans c22
          have hwa : waM M i = 0 := by unfold waM; rw [ttk, ← ifr 56 (by omega), ← ifr 50 (by omega), ← ifr 58 (by omega)]; exact if_pos (Int32.not_lt.mp c23)
          have hq25 : M24 34 = M2 34 := by rw [eM24, va_up_ne _ _ (by omega)]
          have hq26 : M24 59 = upd (M2 59) i (M2 34 24) := by rw [eM24, va_up_self]
          exact ih (i + 1) (by omega) _ _ _ ls ⟨(congrFun hq25 24).trans i24, (congrFun hq25 25).trans i25, fun j q1 q2 => (congrFun hq25 j).trans (iff j q1 q2), hq26.trans (by rw [i59, i24]; exact (keepF_t hk1 hwa).symm), fun k hk => (show M24 k = M2 k by rw [eM24]; exact va_up_ne _ _ (by omega)).trans (ifr k hk)⟩ hw (lv_sub hl [1, 2, 3, 4, 5, 0] rfl)
  have loopA : ∀ (n' : Nat) (i : Nat), i + n' = (hrS r1 r2 cc) → ∀ (M2 : Mem) (H : Heap) (locs : List Loc) (ls : Array Slot), (M2 34 24 = nI (t + i) ∧ passC (M 54) t (M 34 25) (hrS r1 r2 cc) = passC (M 54) (t + i) (M2 34 25) n' ∧ (∀ j, j ≠ 24 → j ≠ 25 → M2 34 j = M 34 j) ∧ (∀ k, k ≠ 34 → M2 k = M k)) → Wd G N K ad M2 s H locs → lv_has ls 6 [(0, .ref (ad 34)), (1, .int (nI a)), (2, .int (nI b)), (3, .int (nI cc)), (4, .int (nI (min r1 r2))), (5, .int (nI cc - nI (i * (min r1 r2))))] → W p l e { frames := 0, cells := 0, slots := 0, locals := 0 } s m A below meth c H locs 0 0 (QmV G N K ad (fun M1 => M1 34 24 = nI (t + (hrS r1 r2 cc)) ∧ M1 34 25 = passC (M 54) t (M 34 25) (hrS r1 r2 cc) ∧ (∀ j, j ≠ 24 → j ≠ 25 → M1 34 j = M 34 j) ∧ M1 59 = keepF (M 59) (waM M) (nI (t + (hrS r1 r2 cc))) Wn ∧ (∀ k, k ≠ 34 ∧ k ≠ 59 → M1 k = M k)) below A s) (F0 m 35 ls []) := by
    intro n'
    induction n' with
    | zero =>
      intro i hi M2 H locs ls hv hw hl
      obtain ⟨i24, i25, iff, ifr⟩ := hv
      have hz : nI cc - nI (i * (min r1 r2)) ≤ 0 := left_le cc (by omega) _ (by rw [show i = (hrS r1 r2 cc) by omega]; exact hr_up (by omega) (by omega) hcc) (by rw [show i = (hrS r1 r2 cc) by omega]; exact hr_hi (by omega))
      refine lv_iload S.1 S.2.1 dX8_ends_35 (lv_at hl 5 rfl) ?_
      refine lv_if_le (tgt := 81) S.1 S.2.1 dX8_ends_37 (by decide) (fun c21 => ?_) (fun c21 => absurd c21 (fun z => z hz))
      refine lv_iconst (v := nI 0) S.1 S.2.1 dX8_ends_81 (by decide) ?_
      refine lv_istore (lv' := [(5, .int (nI 0)), (0, .ref (ad 34)), (1, .int (nI a)), (2, .int (nI b)), (3, .int (nI cc)), (4, .int (nI (min r1 r2)))]) S.1 S.2.1 dX8_ends_82 hl (by decide) rfl (fun ls hl => ?_)
      exact loopB Wn 0 (by omega) M2 _ _ ls ⟨by rw [i24, show i = (hrS r1 r2 cc) by omega], i25.symm, iff, (ifr 59 (by omega)).trans (keepF_0 _ _ _).symm, fun k hk => ifr k hk.1⟩ hw (lv_sub hl [1, 2, 3, 4, 5, 0] rfl)
    | succ n' ih =>
      intro i hi M2 H locs ls hv hw hl
      obtain ⟨i24, i25, iff, ifr⟩ := hv
      have hil : i < (cc + min r1 r2 - 1) / (min r1 r2) := by show i < (hrS r1 r2 cc); omega
      have hlt := hr_lo (R := min r1 r2) (by omega) hil
      have hhl := hrS_le (c := cc) h1a h2a
      have hz : ¬ nI cc - nI (i * (min r1 r2)) ≤ 0 := left_gt cc (by omega) _ (by omega) hlt
      refine lv_iload S.1 S.2.1 dX8_ends_35 (lv_at hl 5 rfl) ?_
      refine lv_if_le (tgt := 81) S.1 S.2.1 dX8_ends_37 (by decide) (fun c21 => absurd c21 hz) (fun c21 => ?_)
      refine lv_aload_n S.1 S.2.1 dX8_ends_40 rfl (lv_at hl 0 rfl) ?_
      refine lv_dup S.1 S.2.1 dX8_ends_41 rfl ?_
      refine m_getI 34 25 S hw (by omega) rfl rfl rfl in_X8 (by decide) wf_X8_117 dX8_ends_42 ?_
      refine lv_aload_n S.1 S.2.1 dX8_ends_45 rfl (lv_at hl 0 rfl) ?_
      refine m_getR 34 23 54 S hw (by omega) rfl rfl rfl in_X8 (by decide) wf_X8_78 dX8_ends_46 ?_
      refine lv_aload_n S.1 S.2.1 dX8_ends_49 rfl (lv_at hl 0 rfl) ?_
      refine m_getI 34 24 S hw (by omega) rfl rfl rfl in_X8 (by decide) wf_X8_114 dX8_ends_50 ?_
      refine m_top (show M2 34 24 = nI (t + i) from i24) ?_
      refine lv_bipush (v := nI 24) S.1 S.2.1 dX8_ends_53 (by decide) ?_
      refine lv_irem S.1 S.2.1 dX8_ends_55 (by decide) ?_
      refine m_top (show (nI (t + i)) - (nI (t + i)) / (nI 24) * (nI 24) = nI ((t + i) % 24) from pk_rem (by omega) (by decide) (by decide)) ?_
      refine m_ald 54 ((t + i) % 24) S hw (by omega) rfl (by decide) (Nat.mod_lt _ (by decide)) rfl dX8_ends_56 ?_
      refine lv_iadd S.1 S.2.1 dX8_ends_57 ?_
      refine n_putI 34 25 S hw (by omega) rfl rfl rfl in_X8 tyX8_ok nmX8 (by decide) rfl rfl wf_X8_117 dX8_ends_58 (fun M22 H locs eM22 hw => ?_)
      refine lv_aload_n S.1 S.2.1 dX8_ends_61 rfl (lv_at hl 0 rfl) ?_
      refine lv_dup S.1 S.2.1 dX8_ends_62 rfl ?_
      refine m_getI 34 24 S hw (by omega) rfl rfl rfl in_X8 (by decide) wf_X8_114 dX8_ends_63 ?_
      have hq23 : M22 34 = upd (M2 34) 25 ((M2 34 25) + (M2 54 ((t + i) % 24))) := by rw [eM22, va_up_self]
      refine m_top (show M22 34 24 = (upd (M2 34) 25 ((M2 34 25) + (M2 54 ((t + i) % 24)))) 24 from congrFun hq23 24) ?_
      refine m_top (show (upd (M2 34) 25 ((M2 34 25) + (M2 54 ((t + i) % 24)))) 24 = M2 34 24 from (pk_un (by decide))) ?_
      refine m_top (show M2 34 24 = nI (t + i) from i24) ?_
      refine lv_iconst (v := nI 1) S.1 S.2.1 dX8_ends_66 (by decide) ?_
      refine lv_iadd S.1 S.2.1 dX8_ends_67 ?_
      refine m_top (show (nI (t + i)) + (nI 1) = nI ((t + i) + 1) from nI_add _ _) ?_
      refine n_putI 34 24 S hw (by omega) rfl rfl rfl in_X8 tyX8_ok nmX8 (by decide) rfl rfl wf_X8_114 dX8_ends_68 (fun M24 H locs eM24 hw => ?_)
      refine lv_iload S.1 S.2.1 dX8_ends_71 (lv_at hl 5 rfl) ?_
      refine lv_iload S.1 S.2.1 dX8_ends_73 (lv_at hl 4 rfl) ?_
      refine lv_isub S.1 S.2.1 dX8_ends_75 ?_
      refine m_top (show (nI cc - nI (i * (min r1 r2))) - (nI (min r1 r2)) = nI cc - nI ((i + 1) * (min r1 r2)) from by rw [sub_sub32, nI_add, Nat.add_mul, Nat.one_mul]) ?_
      refine lv_istore (lv' := [(5, .int (nI cc - nI ((i + 1) * (min r1 r2)))), (0, .ref (ad 34)), (1, .int (nI a)), (2, .int (nI b)), (3, .int (nI cc)), (4, .int (nI (min r1 r2)))]) S.1 S.2.1 dX8_ends_76 hl (by decide) rfl (fun ls hl => ?_)
      refine lv_goto (tgt := 35) S.1 S.2.1 dX8_ends_78 (by decide) ?_
      have hq25 : M24 34 = upd (upd (M2 34) 25 ((M2 34 25) + (M2 54 ((t + i) % 24)))) 24 (nI ((t + i) + 1)) := by rw [eM24, va_up_self, hq23]
      refine ih (i + 1) (by omega) _ _ _ ls ⟨(Eq.trans (congrFun hq25 24) pk_us), ?_, fun j q1 q2 => ?_, fun k hk => ((show M24 k = M22 k by rw [eM24]; exact va_up_ne _ _ (by omega)).trans (show M22 k = M2 k by rw [eM22]; exact va_up_ne _ _ (by omega))).trans (ifr k hk)⟩ hw (lv_sub hl [1, 2, 3, 4, 5, 0] rfl)
      · rw [i25, (Eq.trans (congrFun hq25 25) ((pk_un (by decide)).trans pk_us)), ← ifr 54 (by omega)]; rfl
      · rw [hq25, pk_un (by omega), pk_un (by omega)]; exact iff j q1 q2
  refine lv_aload_n S.1 S.2.1 dX8_ends_0 rfl (lv_at hl 0 rfl) ?_
  refine m_getR 34 12 43 S hw (by omega) rfl rfl rfl in_X8 (by decide) wf_X8_44 dX8_ends_1 ?_
  refine lv_iload_n S.1 S.2.1 dX8_ends_4 rfl (lv_at hl 1 rfl) ?_
  refine m_ald 43 a S hw (by omega) rfl (by decide) (by omega) rfl dX8_ends_5 ?_
  refine m_top (show M 43 a = nI r1 from h1) ?_
  refine lv_aload_n S.1 S.2.1 dX8_ends_6 rfl (lv_at hl 0 rfl) ?_
  refine m_getR 34 12 43 S hw (by omega) rfl rfl rfl in_X8 (by decide) wf_X8_44 dX8_ends_7 ?_
  refine lv_iload_n S.1 S.2.1 dX8_ends_10 rfl (lv_at hl 2 rfl) ?_
  refine m_ald 43 b S hw (by omega) rfl (by decide) (by omega) rfl dX8_ends_11 ?_
  refine m_top (show M 43 b = nI r2 from h2) ?_
  refine n_ge (tgt := 24) S (by omega) (by omega) dX8_ends_12 (by decide) (fun c1 => ?_) (fun c1 => ?_)
  · refine lv_aload_n S.1 S.2.1 dX8_ends_24 rfl (lv_at hl 0 rfl) ?_
    refine m_getR 34 12 43 S hw (by omega) rfl rfl rfl in_X8 (by decide) wf_X8_44 dX8_ends_25 ?_
    refine lv_iload_n S.1 S.2.1 dX8_ends_28 rfl (lv_at hl 2 rfl) ?_
    refine m_ald 43 b S hw (by omega) rfl (by decide) (by omega) rfl dX8_ends_29 ?_
    refine m_top (show M 43 b = nI r2 from h2) ?_
    refine m_top (show nI r2 = nI (min r1 r2) from by rw [Nat.min_eq_right (by omega)]) ?_
    refine lv_istore (lv' := [(4, .int (nI (min r1 r2))), (0, .ref (ad 34)), (1, .int (nI a)), (2, .int (nI b)), (3, .int (nI cc))]) S.1 S.2.1 dX8_ends_30 hl (by decide) rfl (fun ls hl => ?_)
    refine lv_iload_n S.1 S.2.1 dX8_ends_32 rfl (lv_at hl 4 rfl) ?_
    refine lv_istore (lv' := [(5, .int (nI cc)), (4, .int (nI (min r1 r2))), (0, .ref (ad 34)), (1, .int (nI a)), (2, .int (nI b)), (3, .int (nI cc))]) S.1 S.2.1 dX8_ends_33 hl (by decide) rfl (fun ls hl => ?_)
    refine loopA (hrS r1 r2 cc) 0 (by omega) _ _ _ ls ⟨ht, rfl, fun _ _ _ => rfl, fun _ _ => rfl⟩ hw ?_
    have hcz : nI cc - nI (0 * (min r1 r2)) = nI cc := by rw [Nat.zero_mul]; exact Int32.sub_zero _
    rw [hcz]
    exact lv_sub hl [2, 3, 4, 5, 1, 0] rfl
  · refine lv_aload_n S.1 S.2.1 dX8_ends_15 rfl (lv_at hl 0 rfl) ?_
    refine m_getR 34 12 43 S hw (by omega) rfl rfl rfl in_X8 (by decide) wf_X8_44 dX8_ends_16 ?_
    refine lv_iload_n S.1 S.2.1 dX8_ends_19 rfl (lv_at hl 1 rfl) ?_
    refine m_ald 43 a S hw (by omega) rfl (by decide) (by omega) rfl dX8_ends_20 ?_
    refine m_top (show M 43 a = nI r1 from h1) ?_
    refine lv_goto (tgt := 30) S.1 S.2.1 dX8_ends_21 (by decide) ?_
    refine m_top (show nI r1 = nI (min r1 r2) from by rw [Nat.min_eq_left (by omega)]) ?_
    refine lv_istore (lv' := [(4, .int (nI (min r1 r2))), (0, .ref (ad 34)), (1, .int (nI a)), (2, .int (nI b)), (3, .int (nI cc))]) S.1 S.2.1 dX8_ends_30 hl (by decide) rfl (fun ls hl => ?_)
    refine lv_iload_n S.1 S.2.1 dX8_ends_32 rfl (lv_at hl 4 rfl) ?_
    refine lv_istore (lv' := [(5, .int (nI cc)), (4, .int (nI (min r1 r2))), (0, .ref (ad 34)), (1, .int (nI a)), (2, .int (nI b)), (3, .int (nI cc))]) S.1 S.2.1 dX8_ends_33 hl (by decide) rfl (fun ls hl => ?_)
    refine loopA (hrS r1 r2 cc) 0 (by omega) _ _ _ ls ⟨ht, rfl, fun _ _ _ => rfl, fun _ _ => rfl⟩ hw ?_
    have hcz : nI cc - nI (0 * (min r1 r2)) = nI cc := by rw [Nat.zero_mul]; exact Int32.sub_zero _
    rw [hcz]
    exact lv_sub hl [2, 3, 4, 5, 1, 0] rfl
