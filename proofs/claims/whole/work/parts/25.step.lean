theorem sk1 {T R : Mem} {d m ka : Nat} (e : tn (R 3 m) = ka) (hp : pureB (R 4) m = true) (h : T 9 (d * 8 + ka) = 0) : sinkS T R d m = none := by simp only [sinkS, hp, e, eqB_t h, if_true]
theorem sk2 {T R : Mem} {d m ka : Nat} (e : tn (R 3 m) = ka) (hp : pureB (R 4) m = true) (h : ¬ T 9 (d * 8 + ka) = 0) : sinkS T R d m = some (d * 8 + ka) := by simp [sinkS, hp, e, eqB_f h]
theorem sk3 {T R : Mem} {d m ka : Nat} (e : tn (R 3 m) = ka) (hp : pureB (R 4) m = false) (h : ¬ T 9 (d * 8 + ka) = 0) (hb : bearB (R 8) (R 7) (T 4 ka) (d * 8 + ka) = true) : sinkS T R d m = some (d * 8 + ka) := by simp [sinkS, hp, e, eqB_f h, hb]
theorem sk4 {T R : Mem} {d m ka kb : Nat} (e : tn (R 3 m) = ka) (e2 : tn (R 4 m) = kb) (hp : pureB (R 4) m = false) (h : T 9 (d * 8 + ka) = 0 ∨ bearB (R 8) (R 7) (T 4 ka) (d * 8 + ka) = false) (h2 : ¬ T 9 (d * 8 + kb) = 0) (hb : bearB (R 8) (R 7) (T 4 kb) (d * 8 + kb) = true) : sinkS T R d m = some (d * 8 + kb) := by
  have h' : (!eqB (T 9 (d * 8 + ka)) 0 && bearB (R 8) (R 7) (T 4 ka) (d * 8 + ka)) = false := by rcases h with h | h <;> simp [h, eqB]
  simp only [sinkS, hp, e, e2, h', Bool.false_eq_true, if_false]
  simp [eqB_f h2, hb]
theorem sk5 {T R : Mem} {d m ka kb : Nat} (e : tn (R 3 m) = ka) (e2 : tn (R 4 m) = kb) (hp : pureB (R 4) m = false) (h : T 9 (d * 8 + ka) = 0 ∨ bearB (R 8) (R 7) (T 4 ka) (d * 8 + ka) = false) (h2 : T 9 (d * 8 + kb) = 0 ∨ bearB (R 8) (R 7) (T 4 kb) (d * 8 + kb) = false) : sinkS T R d m = none := by
  have h' : (!eqB (T 9 (d * 8 + ka)) 0 && bearB (R 8) (R 7) (T 4 ka) (d * 8 + ka)) = false := by rcases h with h | h <;> simp [h, eqB]
  have h2' : (!eqB (T 9 (d * 8 + kb)) 0 && bearB (R 8) (R 7) (T 4 kb) (d * 8 + kb)) = false := by rcases h2 with h | h <;> simp [h, eqB]
  simp only [sinkS, hp, e, e2, h', h2', Bool.false_eq_true, if_false]
theorem sk_lt {T R : Mem} {d m t : Nat} (h : sinkS T R d m = some t) : (t = d * 8 + tn (R 3 m) ∨ (pureB (R 4) m = false ∧ t = d * 8 + tn (R 4 m))) ∧ ¬ T 9 t = 0 := by
  unfold sinkS at h
  by_cases hp : pureB (R 4) m = true
  · rw [if_pos hp] at h
    by_cases c : eqB (T 9 (d * 8 + tn (R 3 m))) 0 = true
    · rw [if_pos c] at h; cases h
    · rw [if_neg c] at h
      cases h
      exact ⟨Or.inl rfl, by simpa [eqB] using c⟩
  · rw [if_neg hp] at h
    by_cases c : (!eqB (T 9 (d * 8 + tn (R 3 m))) 0 && bearB (R 8) (R 7) (T 4 (tn (R 3 m))) (d * 8 + tn (R 3 m))) = true
    · rw [if_pos c] at h
      cases h
      simp [eqB] at c
      exact ⟨Or.inl rfl, c.1⟩
    · rw [if_neg c] at h
      by_cases c2 : (!eqB (T 9 (d * 8 + tn (R 4 m))) 0 && bearB (R 8) (R 7) (T 4 (tn (R 4 m))) (d * 8 + tn (R 4 m))) = true
      · rw [if_pos c2] at h
        cases h
        simp [eqB] at c2
        exact ⟨Or.inr ⟨by simpa using hp, rfl⟩, c2.1⟩
      · rw [if_neg c2] at h; cases h
theorem st_dry {mf : (Nat → Int32) → (Nat → Int32) → Nat → Nat → Pst → Pst} {T R : Mem} {lo hi src d k bn n : Nat} (h : dryB T R src = true) : stepS mf T lo hi src d k bn n R = (1, R) := by simp [stepS, h]
theorem st_full {mf : (Nat → Int32) → (Nat → Int32) → Nat → Nat → Pst → Pst} {T R : Mem} {lo hi src d k bn n : Nat} (h : dryB T R src = false) (h2 : fullB T R (sinkS T R d (hi - 1)) = true) : stepS mf T lo hi src d k bn n R = (2, R) := by simp [stepS, h, h2]
theorem st_go {mf : (Nat → Int32) → (Nat → Int32) → Nat → Nat → Pst → Pst} {T R : Mem} {lo hi src d k bn n : Nat} (h : dryB T R src = false) (h2 : fullB T R (sinkS T R d (hi - 1)) = false) : stepS mf T lo hi src d k bn n R = (if wrongB T (goR mf T lo hi src d k bn R) n lo hi then 3 else 0, goR mf T lo hi src d k bn R) := by simp [stepS, h, h2]
theorem dry_1 {T R : Mem} {src : Nat} (h : T 9 src = 0) : dryB T R src = true := by simp [dryB, eqB_t h]
theorem dry_2 {T R : Mem} {src : Nat} (h : ¬ T 10 src ≤ R 7 src - nI 1) : dryB T R src = true := by
  have : R 7 src - nI 1 < T 10 src := Int32.not_le.mp h
  simp [dryB, this]
theorem dry_n {T R : Mem} {src : Nat} (h0 : ¬ T 9 src = 0) (h : T 10 src ≤ R 7 src - nI 1) : dryB T R src = false := by
  have : ¬ R 7 src - nI 1 < T 10 src := Int32.not_lt.mpr h
  simp [dryB, eqB_f h0, this]
theorem full_y {T R : Mem} {t : Nat} (h : ¬ R 7 t + nI 1 ≤ T 11 t) : fullB T R (some t) = true := by
  have : T 11 t < R 7 t + nI 1 := Int32.not_le.mp h
  simp [fullB, this]
theorem full_n {T R : Mem} {t : Nat} (h : R 7 t + nI 1 ≤ T 11 t) : fullB T R (some t) = false := by
  have : ¬ T 11 t < R 7 t + nI 1 := Int32.not_lt.mpr h
  simp [fullB, this]

set_option maxHeartbeats 4000000 in
set_option maxRecDepth 100000 in
/-- Moment.sinkFor -/
theorem c_X1_sinkFor (l : Launch) (G : GT) (N K : Nat) (ad : Nat → Nat) (M : Mem) (h34 : 34 ≤ N) (mz d : Nat) (hm1 : mz < 120) (hd6 : d < 6) (ka : Nat) (hka : M 23 mz = nI ka) (hka8 : ka < 8) (kb : Nat) (hkb : pureB (M 24) mz = false → M 24 mz = nI kb) (hkb8 : kb < 8) : CrI l G N K ad yX1_sinkFor cX1_sinkFor 7 .int 1 22 [.ref (ad 20), .int (nI mz), .int (nI d), .ref (ad 6), .ref (ad 1)] M (enc (sinkS M (fun r => M (20 + r)) d mz)) := by
  refine cm_startI (by decide +kernel) (Nat.le_of_ble_eq_true rfl) ?_
  intro p e s m below meth c ls S hr hlocks hw hl
  have hl : lv_has ls 7 [(0, .ref (ad 20)), (1, .int (nI mz)), (2, .int (nI d)), (3, .ref (ad 6)), (4, .ref (ad 1))] := hl
  have et : tn (M 23 mz) = ka := by rw [hka]; exact tn_nI (by omega)
  refine lv_iload_n S.1 S.2.1 dX1_sinkFor_0 rfl (lv_at hl 2 rfl) ?_
  refine lv_aload_n S.1 S.2.1 dX1_sinkFor_1 rfl (lv_at hl 0 rfl) ?_
  refine m_getR 20 3 21 S hw (by omega) rfl rfl rfl in_X1 (by decide) wf_X1_24 dX1_sinkFor_2 ?_
  refine m_getR 21 2 23 S hw (by omega) rfl rfl rfl in_X2 (by decide) wf_X1_138 dX1_sinkFor_5 ?_
  refine lv_iload_n S.1 S.2.1 dX1_sinkFor_8 rfl (lv_at hl 1 rfl) ?_
  refine m_ald 23 mz S hw (by omega) rfl (by decide) (by omega) rfl dX1_sinkFor_9 ?_
  refine m_top (show M 23 mz = nI ka from hka) ?_
  refine r_NI (As := [.int (nI d), .int (nI ka)]) (rest := []) S hw (c_X7_tankNumber l G N K ad M d ka) mf_X7_tankNumber (List.mem_of_getElem? (i := 8) rfl) ⟨by decide, by decide⟩ ⟨Nat.le_refl _, Nat.le_refl _⟩ hl.1 rfl (Nat.le_of_ble_eq_true rfl) dX1_sinkFor_10 (fun H locs hw => ?_)
  refine lv_istore (lv' := [(5, .int (nI (d * 8 + ka))), (0, .ref (ad 20)), (1, .int (nI mz)), (2, .int (nI d)), (3, .ref (ad 6)), (4, .ref (ad 1))]) S.1 S.2.1 dX1_sinkFor_13 hl (by decide) rfl (fun ls hl => ?_)
  refine lv_aload_n S.1 S.2.1 dX1_sinkFor_15 rfl (lv_at hl 1 rfl) ?_
  refine m_getR 20 3 21 S hw (by omega) rfl rfl rfl in_X1 (by decide) wf_X1_24 dX1_sinkFor_16 ?_
  refine lv_iload_n S.1 S.2.1 dX1_sinkFor_19 rfl (lv_at hl 2 rfl) ?_
  refine r_VI (As := [.int (nI mz)]) (rest := []) 21 S hw (by omega) rfl rfl (c_X2_isPure l G N K ad M 20 (isM20 (by omega)) mz (by omega)) mf_X2_isPure wm_X1_130 ⟨by decide, by decide⟩ ⟨Nat.le_refl _, Nat.le_refl _⟩ hl.1 rfl (Nat.le_of_ble_eq_true rfl) dX1_sinkFor_20 (fun H locs hw => ?_)
  refine b_eq (tgt := 43) S dX1_sinkFor_23 (by decide) (fun c1 => ?_) (fun c1 => ?_)
  · refine lv_aload_n S.1 S.2.1 dX1_sinkFor_43 rfl (lv_at hl 4 rfl) ?_
    refine m_getR 6 3 9 S hw (by omega) rfl rfl rfl in_X0 (by decide) wf_X1_71 dX1_sinkFor_44 ?_
    refine lv_iload S.1 S.2.1 dX1_sinkFor_47 (lv_at hl 0 rfl) ?_
    refine m_zld 9 (d * 8 + ka) S hw (by omega) rfl (by decide) (by omega) rfl dX1_sinkFor_49 ?_
    refine lv_if_eq (tgt := 83) S.1 S.2.1 dX1_sinkFor_50 (by decide) (fun c2 => ?_) (fun c2 => ?_)
    · have hkb := hkb c1
      have et2 : tn (M 24 mz) = kb := by rw [hkb]; exact tn_nI (by omega)
      refine lv_iload_n S.1 S.2.1 dX1_sinkFor_83 rfl (lv_at hl 3 rfl) ?_
      refine lv_aload_n S.1 S.2.1 dX1_sinkFor_84 rfl (lv_at hl 1 rfl) ?_
      refine m_getR 20 3 21 S hw (by omega) rfl rfl rfl in_X1 (by decide) wf_X1_24 dX1_sinkFor_85 ?_
      refine m_getR 21 3 24 S hw (by omega) rfl rfl rfl in_X2 (by decide) wf_X1_154 dX1_sinkFor_88 ?_
      refine lv_iload_n S.1 S.2.1 dX1_sinkFor_91 rfl (lv_at hl 2 rfl) ?_
      refine m_ald 24 mz S hw (by omega) rfl (by decide) (by omega) rfl dX1_sinkFor_92 ?_
      refine m_top (show M 24 mz = nI kb from hkb) ?_
      refine r_NI (As := [.int (nI d), .int (nI kb)]) (rest := []) S hw (c_X7_tankNumber l G N K ad M d kb) mf_X7_tankNumber (List.mem_of_getElem? (i := 8) rfl) ⟨by decide, by decide⟩ ⟨Nat.le_refl _, Nat.le_refl _⟩ hl.1 rfl (Nat.le_of_ble_eq_true rfl) dX1_sinkFor_93 (fun H locs hw => ?_)
      refine lv_istore (lv' := [(6, .int (nI (d * 8 + kb))), (5, .int (nI (d * 8 + ka))), (0, .ref (ad 20)), (1, .int (nI mz)), (2, .int (nI d)), (3, .ref (ad 6)), (4, .ref (ad 1))]) S.1 S.2.1 dX1_sinkFor_96 hl (by decide) rfl (fun ls hl => ?_)
      refine lv_aload_n S.1 S.2.1 dX1_sinkFor_98 rfl (lv_at hl 5 rfl) ?_
      refine m_getR 6 3 9 S hw (by omega) rfl rfl rfl in_X0 (by decide) wf_X1_71 dX1_sinkFor_99 ?_
      refine lv_iload S.1 S.2.1 dX1_sinkFor_102 (lv_at hl 0 rfl) ?_
      refine m_zld 9 (d * 8 + kb) S hw (by omega) rfl (by decide) (by omega) rfl dX1_sinkFor_104 ?_
      refine lv_if_eq (tgt := 138) S.1 S.2.1 dX1_sinkFor_105 (by decide) (fun c3 => ?_) (fun c3 => ?_)
      · refine lv_iconst (v := (-1)) S.1 S.2.1 dX1_sinkFor_138 (by decide) ?_
        exact m_reti S hr hlocks hw dX1_sinkFor_139 ⟨by rw [sk5 (R := (fun r => M (20 + r))) et et2 c1 (Or.inl c2) (Or.inl c3)]; rfl, rfl⟩
      · refine lv_aload_n S.1 S.2.1 dX1_sinkFor_108 rfl (lv_at hl 2 rfl) ?_
        refine m_getR 20 4 26 S hw (by omega) rfl rfl rfl in_X1 (by decide) wf_X1_31 dX1_sinkFor_109 ?_
        refine lv_iload S.1 S.2.1 dX1_sinkFor_112 (lv_at hl 0 rfl) ?_
        refine lv_aload S.1 S.2.1 dX1_sinkFor_114 (lv_at hl 6 rfl) ?_
        refine m_getR 1 2 4 S hw (by omega) rfl rfl rfl in_X5 (by decide) wf_X1_145 dX1_sinkFor_116 ?_
        refine lv_aload_n S.1 S.2.1 dX1_sinkFor_119 rfl (lv_at hl 2 rfl) ?_
        refine m_getR 20 3 21 S hw (by omega) rfl rfl rfl in_X1 (by decide) wf_X1_24 dX1_sinkFor_120 ?_
        refine m_getR 21 3 24 S hw (by omega) rfl rfl rfl in_X2 (by decide) wf_X1_154 dX1_sinkFor_123 ?_
        refine lv_iload_n S.1 S.2.1 dX1_sinkFor_126 rfl (lv_at hl 3 rfl) ?_
        refine m_ald 24 mz S hw (by omega) rfl (by decide) (by omega) rfl dX1_sinkFor_127 ?_
        refine m_top (show M 24 mz = nI kb from hkb) ?_
        refine m_ald 4 kb S hw (by omega) rfl (by decide) (by omega) rfl dX1_sinkFor_128 ?_
        refine r_VI (As := [.int (nI (d * 8 + kb)), .int (M 4 kb)]) (rest := []) 26 S hw (by omega) rfl rfl (c_X4_bearsForeign l G N K ad M 20 (isM20 (by omega)) (d * 8 + kb) (by omega) (M 4 kb)) mf_X4_bearsForeign wm_X1_150 ⟨by decide, by decide⟩ ⟨Nat.le_refl _, Nat.le_refl _⟩ hl.1 rfl (Nat.le_of_ble_eq_true rfl) dX1_sinkFor_129 (fun H locs hw => ?_)
        refine b_eq (tgt := 138) S dX1_sinkFor_132 (by decide) (fun c4 => ?_) (fun c4 => ?_)
        · refine lv_iconst (v := (-1)) S.1 S.2.1 dX1_sinkFor_138 (by decide) ?_
          exact m_reti S hr hlocks hw dX1_sinkFor_139 ⟨by rw [sk5 (R := (fun r => M (20 + r))) et et2 c1 (Or.inl c2) (Or.inr c4)]; rfl, rfl⟩
        · refine lv_iload S.1 S.2.1 dX1_sinkFor_135 (lv_at hl 0 rfl) ?_
          exact m_reti S hr hlocks hw dX1_sinkFor_137 ⟨by rw [sk4 (R := (fun r => M (20 + r))) et et2 c1 (Or.inl c2) c3 c4]; rfl, rfl⟩
    · refine lv_aload_n S.1 S.2.1 dX1_sinkFor_53 rfl (lv_at hl 1 rfl) ?_
      refine m_getR 20 4 26 S hw (by omega) rfl rfl rfl in_X1 (by decide) wf_X1_31 dX1_sinkFor_54 ?_
      refine lv_iload S.1 S.2.1 dX1_sinkFor_57 (lv_at hl 0 rfl) ?_
      refine lv_aload S.1 S.2.1 dX1_sinkFor_59 (lv_at hl 5 rfl) ?_
      refine m_getR 1 2 4 S hw (by omega) rfl rfl rfl in_X5 (by decide) wf_X1_145 dX1_sinkFor_61 ?_
      refine lv_aload_n S.1 S.2.1 dX1_sinkFor_64 rfl (lv_at hl 1 rfl) ?_
      refine m_getR 20 3 21 S hw (by omega) rfl rfl rfl in_X1 (by decide) wf_X1_24 dX1_sinkFor_65 ?_
      refine m_getR 21 2 23 S hw (by omega) rfl rfl rfl in_X2 (by decide) wf_X1_138 dX1_sinkFor_68 ?_
      refine lv_iload_n S.1 S.2.1 dX1_sinkFor_71 rfl (lv_at hl 2 rfl) ?_
      refine m_ald 23 mz S hw (by omega) rfl (by decide) (by omega) rfl dX1_sinkFor_72 ?_
      refine m_top (show M 23 mz = nI ka from hka) ?_
      refine m_ald 4 ka S hw (by omega) rfl (by decide) (by omega) rfl dX1_sinkFor_73 ?_
      refine r_VI (As := [.int (nI (d * 8 + ka)), .int (M 4 ka)]) (rest := []) 26 S hw (by omega) rfl rfl (c_X4_bearsForeign l G N K ad M 20 (isM20 (by omega)) (d * 8 + ka) (by omega) (M 4 ka)) mf_X4_bearsForeign wm_X1_150 ⟨by decide, by decide⟩ ⟨Nat.le_refl _, Nat.le_refl _⟩ hl.1 rfl (Nat.le_of_ble_eq_true rfl) dX1_sinkFor_74 (fun H locs hw => ?_)
      refine b_eq (tgt := 83) S dX1_sinkFor_77 (by decide) (fun c5 => ?_) (fun c5 => ?_)
      · have hkb := hkb c1
        have et2 : tn (M 24 mz) = kb := by rw [hkb]; exact tn_nI (by omega)
        refine lv_iload_n S.1 S.2.1 dX1_sinkFor_83 rfl (lv_at hl 3 rfl) ?_
        refine lv_aload_n S.1 S.2.1 dX1_sinkFor_84 rfl (lv_at hl 1 rfl) ?_
        refine m_getR 20 3 21 S hw (by omega) rfl rfl rfl in_X1 (by decide) wf_X1_24 dX1_sinkFor_85 ?_
        refine m_getR 21 3 24 S hw (by omega) rfl rfl rfl in_X2 (by decide) wf_X1_154 dX1_sinkFor_88 ?_
        refine lv_iload_n S.1 S.2.1 dX1_sinkFor_91 rfl (lv_at hl 2 rfl) ?_
        refine m_ald 24 mz S hw (by omega) rfl (by decide) (by omega) rfl dX1_sinkFor_92 ?_
        refine m_top (show M 24 mz = nI kb from hkb) ?_
        refine r_NI (As := [.int (nI d), .int (nI kb)]) (rest := []) S hw (c_X7_tankNumber l G N K ad M d kb) mf_X7_tankNumber (List.mem_of_getElem? (i := 8) rfl) ⟨by decide, by decide⟩ ⟨Nat.le_refl _, Nat.le_refl _⟩ hl.1 rfl (Nat.le_of_ble_eq_true rfl) dX1_sinkFor_93 (fun H locs hw => ?_)
        refine lv_istore (lv' := [(6, .int (nI (d * 8 + kb))), (5, .int (nI (d * 8 + ka))), (0, .ref (ad 20)), (1, .int (nI mz)), (2, .int (nI d)), (3, .ref (ad 6)), (4, .ref (ad 1))]) S.1 S.2.1 dX1_sinkFor_96 hl (by decide) rfl (fun ls hl => ?_)
        refine lv_aload_n S.1 S.2.1 dX1_sinkFor_98 rfl (lv_at hl 5 rfl) ?_
        refine m_getR 6 3 9 S hw (by omega) rfl rfl rfl in_X0 (by decide) wf_X1_71 dX1_sinkFor_99 ?_
        refine lv_iload S.1 S.2.1 dX1_sinkFor_102 (lv_at hl 0 rfl) ?_
        refine m_zld 9 (d * 8 + kb) S hw (by omega) rfl (by decide) (by omega) rfl dX1_sinkFor_104 ?_
        refine lv_if_eq (tgt := 138) S.1 S.2.1 dX1_sinkFor_105 (by decide) (fun c6 => ?_) (fun c6 => ?_)
        · refine lv_iconst (v := (-1)) S.1 S.2.1 dX1_sinkFor_138 (by decide) ?_
          exact m_reti S hr hlocks hw dX1_sinkFor_139 ⟨by rw [sk5 (R := (fun r => M (20 + r))) et et2 c1 (Or.inr c5) (Or.inl c6)]; rfl, rfl⟩
        · refine lv_aload_n S.1 S.2.1 dX1_sinkFor_108 rfl (lv_at hl 2 rfl) ?_
          refine m_getR 20 4 26 S hw (by omega) rfl rfl rfl in_X1 (by decide) wf_X1_31 dX1_sinkFor_109 ?_
          refine lv_iload S.1 S.2.1 dX1_sinkFor_112 (lv_at hl 0 rfl) ?_
          refine lv_aload S.1 S.2.1 dX1_sinkFor_114 (lv_at hl 6 rfl) ?_
          refine m_getR 1 2 4 S hw (by omega) rfl rfl rfl in_X5 (by decide) wf_X1_145 dX1_sinkFor_116 ?_
          refine lv_aload_n S.1 S.2.1 dX1_sinkFor_119 rfl (lv_at hl 2 rfl) ?_
          refine m_getR 20 3 21 S hw (by omega) rfl rfl rfl in_X1 (by decide) wf_X1_24 dX1_sinkFor_120 ?_
          refine m_getR 21 3 24 S hw (by omega) rfl rfl rfl in_X2 (by decide) wf_X1_154 dX1_sinkFor_123 ?_
          refine lv_iload_n S.1 S.2.1 dX1_sinkFor_126 rfl (lv_at hl 3 rfl) ?_
          refine m_ald 24 mz S hw (by omega) rfl (by decide) (by omega) rfl dX1_sinkFor_127 ?_
          refine m_top (show M 24 mz = nI kb from hkb) ?_
          refine m_ald 4 kb S hw (by omega) rfl (by decide) (by omega) rfl dX1_sinkFor_128 ?_
          refine r_VI (As := [.int (nI (d * 8 + kb)), .int (M 4 kb)]) (rest := []) 26 S hw (by omega) rfl rfl (c_X4_bearsForeign l G N K ad M 20 (isM20 (by omega)) (d * 8 + kb) (by omega) (M 4 kb)) mf_X4_bearsForeign wm_X1_150 ⟨by decide, by decide⟩ ⟨Nat.le_refl _, Nat.le_refl _⟩ hl.1 rfl (Nat.le_of_ble_eq_true rfl) dX1_sinkFor_129 (fun H locs hw => ?_)
          refine b_eq (tgt := 138) S dX1_sinkFor_132 (by decide) (fun c7 => ?_) (fun c7 => ?_)
          · refine lv_iconst (v := (-1)) S.1 S.2.1 dX1_sinkFor_138 (by decide) ?_
            exact m_reti S hr hlocks hw dX1_sinkFor_139 ⟨by rw [sk5 (R := (fun r => M (20 + r))) et et2 c1 (Or.inr c5) (Or.inr c7)]; rfl, rfl⟩
          · refine lv_iload S.1 S.2.1 dX1_sinkFor_135 (lv_at hl 0 rfl) ?_
            exact m_reti S hr hlocks hw dX1_sinkFor_137 ⟨by rw [sk4 (R := (fun r => M (20 + r))) et et2 c1 (Or.inr c5) c6 c7]; rfl, rfl⟩
      · refine lv_iload S.1 S.2.1 dX1_sinkFor_80 (lv_at hl 0 rfl) ?_
        exact m_reti S hr hlocks hw dX1_sinkFor_82 ⟨by rw [sk3 (R := (fun r => M (20 + r))) et c1 c2 c5]; rfl, rfl⟩
  · refine lv_aload_n S.1 S.2.1 dX1_sinkFor_26 rfl (lv_at hl 4 rfl) ?_
    refine m_getR 6 3 9 S hw (by omega) rfl rfl rfl in_X0 (by decide) wf_X1_71 dX1_sinkFor_27 ?_
    refine lv_iload S.1 S.2.1 dX1_sinkFor_30 (lv_at hl 0 rfl) ?_
    refine m_zld 9 (d * 8 + ka) S hw (by omega) rfl (by decide) (by omega) rfl dX1_sinkFor_32 ?_
    refine lv_if_eq (tgt := 41) S.1 S.2.1 dX1_sinkFor_33 (by decide) (fun c8 => ?_) (fun c8 => ?_)
    · refine lv_iconst (v := (-1)) S.1 S.2.1 dX1_sinkFor_41 (by decide) ?_
      exact m_reti S hr hlocks hw dX1_sinkFor_42 ⟨by rw [sk1 (R := (fun r => M (20 + r))) et c1 c8]; rfl, rfl⟩
    · refine lv_iload S.1 S.2.1 dX1_sinkFor_36 (lv_at hl 0 rfl) ?_
      refine lv_goto (tgt := 42) S.1 S.2.1 dX1_sinkFor_38 (by decide) ?_
      exact m_reti S hr hlocks hw dX1_sinkFor_42 ⟨by rw [sk2 (R := (fun r => M (20 + r))) et c1 c8]; rfl, rfl⟩

set_option maxHeartbeats 4000000 in
set_option maxRecDepth 100000 in
/-- Moment.letOut -/
theorem c_X1_letOut (l : Launch) (G : GT) (N K : Nat) (ad : Nat → Nat) (M : Mem) (h34 : 34 ≤ N) (mz d : Nat) (hm1 : mz < 120) (hd6 : d < 6) (sk : Option Nat) (hsl : ∀ t, sk = some t → t < 48) (bm : Nat) (hbm : M 22 mz = nI bm) (hbm1 : bm < 200) : CmV l G N K ad yX1_letOut cX1_letOut 4 1 22 [.ref (ad 20), .int (nI mz), .int (enc sk), .int (nI d)] M (fun M1 => M1 27 = (outAm sk (M 27)) ∧ M1 28 = (outFr sk (pureB (M 24) mz) (M 28)) ∧ M1 29 = (outAm sk (M 29)) ∧ M1 30 = (outSl sk d (M 30)) ∧ M1 31 = (outWo (M 31) bm) ∧ Fr 26 32 M M1) := by
  refine cm_startV (by decide +kernel) (Nat.le_of_ble_eq_true rfl) ?_
  intro p e s m below meth c ls S hr hlocks hw hl
  have hl : lv_has ls 4 [(0, .ref (ad 20)), (1, .int (nI mz)), (2, .int (enc sk)), (3, .int (nI d))] := hl
  rcases opt_cases sk with rfl | ⟨t, rfl⟩
  · skip
    refine lv_aload_n S.1 S.2.1 dX1_letOut_0 rfl (lv_at hl 0 rfl) ?_
    refine m_getR 20 5 31 S hw (by omega) rfl rfl rfl in_X1 (by decide) wf_X1_35 dX1_letOut_1 ?_
    refine lv_aload_n S.1 S.2.1 dX1_letOut_4 rfl (lv_at hl 0 rfl) ?_
    refine m_getR 20 3 21 S hw (by omega) rfl rfl rfl in_X1 (by decide) wf_X1_24 dX1_letOut_5 ?_
    refine m_getR 21 1 22 S hw (by omega) rfl rfl rfl in_X2 (by decide) wf_X1_124 dX1_letOut_8 ?_
    refine lv_iload_n S.1 S.2.1 dX1_letOut_11 rfl (lv_at hl 1 rfl) ?_
    refine m_ald 22 mz S hw (by omega) rfl (by decide) (by omega) rfl dX1_letOut_12 ?_
    refine m_top (show M 22 mz = nI bm from hbm) ?_
    refine lv_dup2_11 S.1 S.2.1 dX1_letOut_13 rfl rfl ?_
    refine m_ald 31 bm S hw (by omega) rfl (by decide) (by omega) rfl dX1_letOut_14 ?_
    refine lv_iconst (v := nI 1) S.1 S.2.1 dX1_letOut_15 (by decide) ?_
    refine lv_iadd S.1 S.2.1 dX1_letOut_16 ?_
    refine n_ast 31 bm S hw (by omega) rfl (by decide) (by omega) rfl dX1_letOut_17 (fun M1 H locs eM1 hw => ?_)
    refine lv_iload_n S.1 S.2.1 dX1_letOut_18 rfl (lv_at hl 2 rfl) ?_
    refine m_top (show enc none = (-1) from rfl) ?_
    refine lv_iconst (v := (-1)) S.1 S.2.1 dX1_letOut_19 (by decide) ?_
    refine lv_icmp_ne (tgt := 39) S.1 S.2.1 dX1_letOut_20 (by decide) (fun c2 => absurd c2 (fun z => z rfl)) (fun c2 => ?_)
    refine lv_aload_n S.1 S.2.1 dX1_letOut_23 rfl (lv_at hl 0 rfl) ?_
    refine m_getR 20 4 26 S hw (by omega) rfl rfl rfl in_X1 (by decide) wf_X1_31 dX1_letOut_24 ?_
    refine m_getR 26 3 30 S hw (by omega) rfl rfl rfl in_X4 (by decide) wf_X1_127 dX1_letOut_27 ?_
    refine lv_iload_n S.1 S.2.1 dX1_letOut_30 rfl (lv_at hl 3 rfl) ?_
    refine lv_dup2_11 S.1 S.2.1 dX1_letOut_31 rfl rfl ?_
    refine m_ald 30 d S hw (by omega) rfl (by decide) (by omega) rfl dX1_letOut_32 ?_
    have hq3 : M1 30 = M 30 := by rw [eM1, va_up_ne _ _ (by omega)]
    refine m_top (show M1 30 d = M 30 d from congrFun hq3 d) ?_
    refine lv_iconst (v := nI 1) S.1 S.2.1 dX1_letOut_33 (by decide) ?_
    refine lv_iadd S.1 S.2.1 dX1_letOut_34 ?_
    refine n_ast 30 d S hw (by omega) rfl (by decide) (by omega) rfl dX1_letOut_35 (fun M4 H locs eM4 hw => ?_)
    refine lv_goto (tgt := 63) S.1 S.2.1 dX1_letOut_36 (by decide) ?_
    have hq5 : M1 27 = M 27 := by rw [eM1, va_up_ne _ _ (by omega)]
    have hq6 : M4 27 = M 27 := by rw [eM4, va_up_ne _ _ (by omega), hq5]
    have hq7 : M1 28 = M 28 := by rw [eM1, va_up_ne _ _ (by omega)]
    have hq8 : M4 28 = M 28 := by rw [eM4, va_up_ne _ _ (by omega), hq7]
    have hq9 : M1 29 = M 29 := by rw [eM1, va_up_ne _ _ (by omega)]
    have hq10 : M4 29 = M 29 := by rw [eM4, va_up_ne _ _ (by omega), hq9]
    have hq11 : M4 30 = upd (M 30) d ((M 30 d) + (nI 1)) := by rw [eM4, va_up_self, hq3]
    have hq12 : M1 31 = upd (M 31) bm ((M 31 bm) + (nI 1)) := by rw [eM1, va_up_self]
    have hq13 : M4 31 = upd (M 31) bm ((M 31 bm) + (nI 1)) := by rw [eM4, va_up_ne _ _ (by omega), hq12]
    exact m_retv S hr hlocks hw dX1_letOut_63 ⟨hq6, hq8, hq10, hq11, hq13, (by rw [eM4]; exact Fr.up (by rw [eM1]; exact Fr.up Fr.rf (by omega) (by omega)) (by omega) (by omega))⟩
  · have ht := hsl t rfl
    refine lv_aload_n S.1 S.2.1 dX1_letOut_0 rfl (lv_at hl 0 rfl) ?_
    refine m_getR 20 5 31 S hw (by omega) rfl rfl rfl in_X1 (by decide) wf_X1_35 dX1_letOut_1 ?_
    refine lv_aload_n S.1 S.2.1 dX1_letOut_4 rfl (lv_at hl 0 rfl) ?_
    refine m_getR 20 3 21 S hw (by omega) rfl rfl rfl in_X1 (by decide) wf_X1_24 dX1_letOut_5 ?_
    refine m_getR 21 1 22 S hw (by omega) rfl rfl rfl in_X2 (by decide) wf_X1_124 dX1_letOut_8 ?_
    refine lv_iload_n S.1 S.2.1 dX1_letOut_11 rfl (lv_at hl 1 rfl) ?_
    refine m_ald 22 mz S hw (by omega) rfl (by decide) (by omega) rfl dX1_letOut_12 ?_
    refine m_top (show M 22 mz = nI bm from hbm) ?_
    refine lv_dup2_11 S.1 S.2.1 dX1_letOut_13 rfl rfl ?_
    refine m_ald 31 bm S hw (by omega) rfl (by decide) (by omega) rfl dX1_letOut_14 ?_
    refine lv_iconst (v := nI 1) S.1 S.2.1 dX1_letOut_15 (by decide) ?_
    refine lv_iadd S.1 S.2.1 dX1_letOut_16 ?_
    refine n_ast 31 bm S hw (by omega) rfl (by decide) (by omega) rfl dX1_letOut_17 (fun M14 H locs eM14 hw => ?_)
    refine lv_iload_n S.1 S.2.1 dX1_letOut_18 rfl (lv_at hl 2 rfl) ?_
    refine m_top (show enc (some t) = nI t from rfl) ?_
    refine lv_iconst (v := (-1)) S.1 S.2.1 dX1_letOut_19 (by decide) ?_
    refine lv_icmp_ne (tgt := 39) S.1 S.2.1 dX1_letOut_20 (by decide) (fun c15 => ?_) (fun c15 => absurd c15 (enc_ne (by omega)))
    refine lv_aload_n S.1 S.2.1 dX1_letOut_39 rfl (lv_at hl 0 rfl) ?_
    refine m_getR 20 4 26 S hw (by omega) rfl rfl rfl in_X1 (by decide) wf_X1_31 dX1_letOut_40 ?_
    refine lv_iload_n S.1 S.2.1 dX1_letOut_43 rfl (lv_at hl 2 rfl) ?_
    refine m_top (show enc (some t) = nI t from rfl) ?_
    refine lv_aload_n S.1 S.2.1 dX1_letOut_44 rfl (lv_at hl 0 rfl) ?_
    refine m_getR 20 3 21 S hw (by omega) rfl rfl rfl in_X1 (by decide) wf_X1_24 dX1_letOut_45 ?_
    refine lv_iload_n S.1 S.2.1 dX1_letOut_48 rfl (lv_at hl 1 rfl) ?_
    refine r_VI (As := [.int (nI mz)]) (rest := [.int (nI t), .ref (ad 26)]) 21 S hw (by omega) rfl rfl (c_X2_isPure l G N K ad M14 20 (isM20 (by omega)) mz (by omega)) mf_X2_isPure wm_X1_130 ⟨by decide, by decide⟩ ⟨Nat.le_refl _, Nat.le_refl _⟩ hl.1 rfl (Nat.le_of_ble_eq_true rfl) dX1_letOut_49 (fun H locs hw => ?_)
    refine b_ne (tgt := 59) S dX1_letOut_52 (by decide) (fun c16 => ?_) (fun c16 => ?_)
    · refine lv_iconst (v := nI 0) S.1 S.2.1 dX1_letOut_59 (by decide) ?_
      refine m_VV (As := [.int (nI t), .int (nI 0)]) (rest := []) 26 S hw (by omega) rfl rfl (c_X4_putOne l G N K ad M14 20 (isM20 (by omega)) t (by omega) false) mf_X4_putOne wm_X1_134 ⟨by decide, by decide⟩ ⟨Nat.le_refl _, Nat.le_refl _⟩ hl.1 rfl (Nat.le_of_ble_eq_true rfl) dX1_letOut_60 (fun M17 H locs hp17 hw => ?_)
      have e27_17 : M17 27 = (upd (M14 27) t (M14 27 t + nI 1)) := hp17.1
      have e28_17 : M17 28 = (if false = true then upd (M14 28) t (M14 28 t + nI 1) else M14 28) := hp17.2.1
      have e29_17 : M17 29 = (upd (M14 29) t (M14 29 t + nI 1)) := hp17.2.2.1
      have e30_17 : M17 30 = (M14 30) := hp17.2.2.2.1
      have fr17 : Fr 26 31 M14 M17 := hp17.2.2.2.2
      have hq18 : M14 27 = M 27 := by rw [eM14, va_up_ne _ _ (by omega)]
      have hq19 : M17 27 = upd (M 27) t (M 27 t + nI 1) := by rw [e27_17, hq18]
      have hq20 : M14 28 = M 28 := by rw [eM14, va_up_ne _ _ (by omega)]
      have hq21 : M17 28 = if false = true then upd (M 28) t (M 28 t + nI 1) else M 28 := by rw [e28_17, hq20]
      have hq22 : M14 29 = M 29 := by rw [eM14, va_up_ne _ _ (by omega)]
      have hq23 : M17 29 = upd (M 29) t (M 29 t + nI 1) := by rw [e29_17, hq22]
      have hq24 : M14 30 = M 30 := by rw [eM14, va_up_ne _ _ (by omega)]
      have hq25 : M17 30 = M 30 := e30_17.trans hq24
      have hq26 : M14 31 = upd (M 31) bm ((M 31 bm) + (nI 1)) := by rw [eM14, va_up_self]
      have hq27 : M17 31 = upd (M 31) bm ((M 31 bm) + (nI 1)) := (fr17 31 (by omega)).trans hq26
      have hq28 : M14 24 = M 24 := by rw [eM14, va_up_ne _ _ (by omega)]
      have hpq : pureB (M 24) mz = true := by rw [← hq28]; exact c16
      exact m_retv S hr hlocks hw dX1_letOut_63 ⟨hq19, hq21.trans (by rw [outFr, hpq]; rfl), hq23, hq25, hq27, (Fr.tr (by rw [eM14]; exact Fr.up Fr.rf (by omega) (by omega)) fr17 (by omega) (by omega))⟩
    · refine lv_iconst (v := nI 1) S.1 S.2.1 dX1_letOut_55 (by decide) ?_
      refine lv_goto (tgt := 60) S.1 S.2.1 dX1_letOut_56 (by decide) ?_
      refine m_VV (As := [.int (nI t), .int (nI 1)]) (rest := []) 26 S hw (by omega) rfl rfl (c_X4_putOne l G N K ad M14 20 (isM20 (by omega)) t (by omega) true) mf_X4_putOne wm_X1_134 ⟨by decide, by decide⟩ ⟨Nat.le_refl _, Nat.le_refl _⟩ hl.1 rfl (Nat.le_of_ble_eq_true rfl) dX1_letOut_60 (fun M29 H locs hp29 hw => ?_)
      have e27_29 : M29 27 = (upd (M14 27) t (M14 27 t + nI 1)) := hp29.1
      have e28_29 : M29 28 = (if true = true then upd (M14 28) t (M14 28 t + nI 1) else M14 28) := hp29.2.1
      have e29_29 : M29 29 = (upd (M14 29) t (M14 29 t + nI 1)) := hp29.2.2.1
      have e30_29 : M29 30 = (M14 30) := hp29.2.2.2.1
      have fr29 : Fr 26 31 M14 M29 := hp29.2.2.2.2
      have hq30 : M14 27 = M 27 := by rw [eM14, va_up_ne _ _ (by omega)]
      have hq31 : M29 27 = upd (M 27) t (M 27 t + nI 1) := by rw [e27_29, hq30]
      have hq32 : M14 28 = M 28 := by rw [eM14, va_up_ne _ _ (by omega)]
      have hq33 : M29 28 = if true = true then upd (M 28) t (M 28 t + nI 1) else M 28 := by rw [e28_29, hq32]
      have hq34 : M14 29 = M 29 := by rw [eM14, va_up_ne _ _ (by omega)]
      have hq35 : M29 29 = upd (M 29) t (M 29 t + nI 1) := by rw [e29_29, hq34]
      have hq36 : M14 30 = M 30 := by rw [eM14, va_up_ne _ _ (by omega)]
      have hq37 : M29 30 = M 30 := e30_29.trans hq36
      have hq38 : M14 31 = upd (M 31) bm ((M 31 bm) + (nI 1)) := by rw [eM14, va_up_self]
      have hq39 : M29 31 = upd (M 31) bm ((M 31 bm) + (nI 1)) := (fr29 31 (by omega)).trans hq38
      have hq40 : M14 24 = M 24 := by rw [eM14, va_up_ne _ _ (by omega)]
      have hpq : pureB (M 24) mz = false := by rw [← hq40]; exact c16
      exact m_retv S hr hlocks hw dX1_letOut_63 ⟨hq31, hq33.trans (by rw [outFr, hpq]; rfl), hq35, hq37, hq39, (Fr.tr (by rw [eM14]; exact Fr.up Fr.rf (by omega) (by omega)) fr29 (by omega) (by omega))⟩

theorem go_2 {mf : (Nat → Int32) → (Nat → Int32) → Nat → Nat → Pst → Pst} {T R : Mem} {lo hi src d k bn : Nat} : goR mf T lo hi src d k bn R 2 = movF lo hi (nI bn) (R 2) := rfl

set_option maxHeartbeats 4000000 in
set_option maxRecDepth 100000 in
/-- Moment.step -/
theorem c_X1_step (l : Launch) (G : GT) (N K : Nat) (ad : Nat → Nat) (M : Mem) (h34 : 34 ≤ N) (n : Nat) (hn : M 21 0 = nI n) (hn1 : n ≤ 120) (bn : Nat) (hbn : M 20 2 = nI bn) (hbn1 : bn < 200) (lo hi d k a : Nat) (hlo : lo < hi) (hhi : hi ≤ n) (hd6 : d < 6) (hk8 : k < 8) (ha6 : a < 6) (pl0 : M 17 0 = nI k) (pl1 : M 17 1 = nI (a * 8 + k)) (pl2 : M 17 2 = nI d) (pl3 : M 17 3 = nI lo) (pl4 : M 17 4 = nI hi) (hz2 : Z01 (M 2) 64) (hvr : VR n 200 (fun r => M (20 + r))) : CmI l G N K ad yX1_step cX1_step 8 .int 3 76 [.ref (ad 20), .ref (ad 17), .ref (ad 6), .ref (ad 1)] M (fun r M1 => r = nI (stepS mfC M lo hi (a * 8 + k) d k bn n (fun r => M (20 + r))).1 ∧ ((stepS mfC M lo hi (a * 8 + k) d k bn n (fun r => M (20 + r))).1 = 0 → ∀ r, 2 ≤ r → r ≤ 11 → r ≠ 6 → M1 (20 + r) = (stepS mfC M lo hi (a * 8 + k) d k bn n (fun r => M (20 + r))).2 r) ∧ M1 20 = M 20 ∧ M1 21 = M 21 ∧ M1 32 = M 32 ∧ Fr 20 33 M M1) := by
  refine cm_startI (by decide +kernel) (Nat.le_of_ble_eq_true rfl) ?_
  intro p e s m below meth c ls S hr hlocks hw hl
  have hl : lv_has ls 8 [(0, .ref (ad 20)), (1, .ref (ad 17)), (2, .ref (ad 6)), (3, .ref (ad 1))] := hl
  refine lv_aload_n S.1 S.2.1 dX1_step_0 rfl (lv_at hl 1 rfl) ?_
  refine m_getI 17 1 S hw (by omega) rfl rfl rfl in_X3 (by decide) wf_X1_66 dX1_step_1 ?_
  refine m_top (show M 17 1 = nI (a * 8 + k) from pl1) ?_
  refine lv_istore (lv' := [(4, .int (nI (a * 8 + k))), (0, .ref (ad 20)), (1, .ref (ad 17)), (2, .ref (ad 6)), (3, .ref (ad 1))]) S.1 S.2.1 dX1_step_4 hl (by decide) rfl (fun ls hl => ?_)
  refine lv_aload_n S.1 S.2.1 dX1_step_6 rfl (lv_at hl 3 rfl) ?_
  refine m_getR 6 3 9 S hw (by omega) rfl rfl rfl in_X0 (by decide) wf_X1_71 dX1_step_7 ?_
  refine lv_iload S.1 S.2.1 dX1_step_10 (lv_at hl 0 rfl) ?_
  refine m_zld 9 (a * 8 + k) S hw (by omega) rfl (by decide) (by omega) rfl dX1_step_12 ?_
  refine lv_if_eq (tgt := 38) S.1 S.2.1 dX1_step_13 (by decide) (fun c1 => ?_) (fun c1 => ?_)
  · refine lv_iconst (v := nI 1) S.1 S.2.1 dX1_step_38 (by decide) ?_
    have hF : stepS mfC M lo hi (a * 8 + k) d k bn n (fun r => M (20 + r)) = _ := st_dry (R := (fun r => M (20 + r))) (dry_1 c1)
    exact m_reti S hr hlocks hw dX1_step_39 ⟨by rw [hF], (fun h => by rw [hF] at h; cases h), rfl, rfl, rfl, Fr.rf⟩
  · refine lv_aload_n S.1 S.2.1 dX1_step_16 rfl (lv_at hl 1 rfl) ?_
    refine m_getR 20 4 26 S hw (by omega) rfl rfl rfl in_X1 (by decide) wf_X1_31 dX1_step_17 ?_
    refine m_getR 26 0 27 S hw (by omega) rfl rfl rfl in_X4 (by decide) wf_X1_77 dX1_step_20 ?_
    refine lv_iload S.1 S.2.1 dX1_step_23 (lv_at hl 0 rfl) ?_
    refine m_ald 27 (a * 8 + k) S hw (by omega) rfl (by decide) (by omega) rfl dX1_step_25 ?_
    refine lv_iconst (v := nI 1) S.1 S.2.1 dX1_step_26 (by decide) ?_
    refine lv_isub S.1 S.2.1 dX1_step_27 ?_
    refine lv_aload_n S.1 S.2.1 dX1_step_28 rfl (lv_at hl 3 rfl) ?_
    refine m_getR 6 4 10 S hw (by omega) rfl rfl rfl in_X0 (by decide) wf_X1_80 dX1_step_29 ?_
    refine lv_iload S.1 S.2.1 dX1_step_32 (lv_at hl 0 rfl) ?_
    refine m_ald 10 (a * 8 + k) S hw (by omega) rfl (by decide) (by omega) rfl dX1_step_34 ?_
    refine lv_icmp_ge (tgt := 40) S.1 S.2.1 dX1_step_35 (by decide) (fun c2 => ?_) (fun c2 => ?_)
    · refine lv_aload_n S.1 S.2.1 dX1_step_40 rfl (lv_at hl 2 rfl) ?_
      refine m_getI 17 4 S hw (by omega) rfl rfl rfl in_X3 (by decide) wf_X1_83 dX1_step_41 ?_
      refine m_top (show M 17 4 = nI hi from pl4) ?_
      refine lv_iconst (v := nI 1) S.1 S.2.1 dX1_step_44 (by decide) ?_
      refine lv_isub S.1 S.2.1 dX1_step_45 ?_
      refine m_top (show (nI hi) - (nI 1) = nI (hi - 1) from pk_sub (b := 1) (by omega)) ?_
      refine lv_istore (lv' := [(5, .int (nI (hi - 1))), (4, .int (nI (a * 8 + k))), (0, .ref (ad 20)), (1, .ref (ad 17)), (2, .ref (ad 6)), (3, .ref (ad 1))]) S.1 S.2.1 dX1_step_46 hl (by decide) rfl (fun ls hl => ?_)
      obtain ⟨hv2, hv3, hv4, hv5⟩ := id hvr
      obtain ⟨ka, hka8, hka⟩ := inB_of (hv3 (hi - 1) (by omega)) (by decide)
      have hka : M 23 (hi - 1) = nI ka := hka
      obtain ⟨bm, hbm1, hbm⟩ := inB_of (hv2 (hi - 1) (by omega)) (by decide)
      have hbm : M 22 (hi - 1) = nI bm := hbm
      obtain ⟨kb, hkb8, hkb⟩ : ∃ kb, kb < 8 ∧ (pureB (M 24) (hi - 1) = false → M 24 (hi - 1) = nI kb) := by
        by_cases hp : pureB (M 24) (hi - 1) = false
        · obtain ⟨q, h1, h2⟩ := inB_of (hv4 (hi - 1) (by omega) hp) (by decide)
          exact ⟨q, h1, fun _ => h2⟩
        · exact ⟨0, by decide, fun h => absurd h hp⟩
      refine lv_aload_n S.1 S.2.1 dX1_step_48 rfl (lv_at hl 2 rfl) ?_
      refine lv_iload S.1 S.2.1 dX1_step_49 (lv_at hl 0 rfl) ?_
      refine lv_aload_n S.1 S.2.1 dX1_step_51 rfl (lv_at hl 3 rfl) ?_
      refine m_getI 17 2 S hw (by omega) rfl rfl rfl in_X3 (by decide) wf_X1_86 dX1_step_52 ?_
      refine m_top (show M 17 2 = nI d from pl2) ?_
      refine lv_aload_n S.1 S.2.1 dX1_step_55 rfl (lv_at hl 4 rfl) ?_
      refine lv_aload_n S.1 S.2.1 dX1_step_56 rfl (lv_at hl 5 rfl) ?_
      refine r_VI (As := [.int (nI (hi - 1)), .int (nI d), .ref (ad 6), .ref (ad 1)]) (rest := []) 20 S hw (by omega) rfl rfl (c_X1_sinkFor l G N K ad M h34 (hi - 1) d (by omega) (by omega) ka hka hka8 kb hkb hkb8) mf_X1_sinkFor wm_X1_89 ⟨by decide, by decide⟩ ⟨Nat.le_refl _, Nat.le_refl _⟩ hl.1 rfl (Nat.le_of_ble_eq_true rfl) dX1_step_57 (fun H locs hw => ?_)
      rcases opt_cases (sinkS M (fun r => M (20 + r)) d (hi - 1)) with hsk | ⟨t, hsk⟩
      · refine m_top (show enc (sinkS M (fun r => M (20 + r)) d (hi - 1)) = (-1) from enc_n hsk) ?_
        refine lv_istore (lv' := [(6, .int (-1)), (5, .int (nI (hi - 1))), (4, .int (nI (a * 8 + k))), (0, .ref (ad 20)), (1, .ref (ad 17)), (2, .ref (ad 6)), (3, .ref (ad 1))]) S.1 S.2.1 dX1_step_60 hl (by decide) rfl (fun ls hl => ?_)
        refine lv_iload S.1 S.2.1 dX1_step_62 (lv_at hl 0 rfl) ?_
        refine lv_iconst (v := (-1)) S.1 S.2.1 dX1_step_64 (by decide) ?_
        refine lv_icmp_eq (tgt := 92) S.1 S.2.1 dX1_step_65 (by decide) (fun c3 => ?_) (fun c3 => absurd c3 (fun z => z rfl))
        have hfull : fullB M (fun r => M (20 + r)) (sinkS M (fun r => M (20 + r)) d (hi - 1)) = false := by rw [hsk]; exact rfl
        have hdry : dryB M (fun r => M (20 + r)) (a * 8 + k) = false := dry_n c1 c2
        refine lv_aload_n S.1 S.2.1 dX1_step_92 rfl (lv_at hl 3 rfl) ?_
        refine lv_iload S.1 S.2.1 dX1_step_93 (lv_at hl 1 rfl) ?_
        refine lv_iload S.1 S.2.1 dX1_step_95 (lv_at hl 0 rfl) ?_
        refine lv_aload_n S.1 S.2.1 dX1_step_97 rfl (lv_at hl 4 rfl) ?_
        refine m_getI 17 2 S hw (by omega) rfl rfl rfl in_X3 (by decide) wf_X1_86 dX1_step_98 ?_
        refine m_top (show M 17 2 = nI d from pl2) ?_
        refine m_VV (As := [.int (nI (hi - 1)), .int (-1), .int (nI d)]) (rest := []) 20 S hw (by omega) rfl rfl (c_X1_letOut l G N K ad M h34 (hi - 1) d (by omega) (by omega) none (fun t ht => by cases ht) bm hbm hbm1) mf_X1_letOut wm_X1_96 ⟨by decide, by decide⟩ ⟨Nat.le_refl _, Nat.le_refl _⟩ hl.1 rfl (Nat.le_of_ble_eq_true rfl) dX1_step_101 (fun M4 H locs hp4 hw => ?_)
        have e27_4 : M4 27 = (outAm none (M 27)) := hp4.1
        have e28_4 : M4 28 = (outFr none (pureB (M 24) (hi - 1)) (M 28)) := hp4.2.1
        have e29_4 : M4 29 = (outAm none (M 29)) := hp4.2.2.1
        have e30_4 : M4 30 = (outSl none d (M 30)) := hp4.2.2.2.1
        have e31_4 : M4 31 = (outWo (M 31) bm) := hp4.2.2.2.2.1
        have fr4 : Fr 26 32 M M4 := hp4.2.2.2.2.2
        refine lv_aload_n S.1 S.2.1 dX1_step_104 rfl (lv_at hl 3 rfl) ?_
        refine m_getR 20 3 21 S hw (by omega) rfl rfl rfl in_X1 (by decide) wf_X1_24 dX1_step_105 ?_
        refine lv_aload_n S.1 S.2.1 dX1_step_108 rfl (lv_at hl 4 rfl) ?_
        refine m_getI 17 3 S hw (by omega) rfl rfl rfl in_X3 (by decide) wf_X1_100 dX1_step_109 ?_
        have hq5 : M4 17 = M 17 := fr4 17 (by omega)
        refine m_top (show M4 17 3 = M 17 3 from congrFun hq5 3) ?_
        refine m_top (show M 17 3 = nI lo from pl3) ?_
        refine lv_iload S.1 S.2.1 dX1_step_112 (lv_at hl 1 rfl) ?_
        refine m_VV (As := [.int (nI lo), .int (nI (hi - 1))]) (rest := []) 21 S hw (by omega) rfl rfl (c_X2_moveOn l G N K ad M4 20 (isM20 (by omega)) lo (hi - 1) (by omega) (by omega)) mf_X2_moveOn wm_X1_103 ⟨by decide, by decide⟩ ⟨Nat.le_refl _, Nat.le_refl _⟩ hl.1 rfl (Nat.le_of_ble_eq_true rfl) dX1_step_114 (fun M6 H locs hp6 hw => ?_)
        have e21_6 : M6 21 = (M4 21) := hp6.1
        have e22_6 : M6 22 = (va_cpy (M4 22) (M4 22) lo (lo + 1) ((hi - 1) - lo)) := hp6.2.1
        have e23_6 : M6 23 = (va_cpy (M4 23) (M4 23) lo (lo + 1) ((hi - 1) - lo)) := hp6.2.2.1
        have e24_6 : M6 24 = (va_cpy (M4 24) (M4 24) lo (lo + 1) ((hi - 1) - lo)) := hp6.2.2.2.1
        have e25_6 : M6 25 = (va_cpy (M4 25) (M4 25) lo (lo + 1) ((hi - 1) - lo)) := hp6.2.2.2.2.1
        have fr6 : Fr 21 26 M4 M6 := hp6.2.2.2.2.2
        refine lv_aload_n S.1 S.2.1 dX1_step_117 rfl (lv_at hl 3 rfl) ?_
        refine m_getR 20 3 21 S hw (by omega) rfl rfl rfl in_X1 (by decide) wf_X1_24 dX1_step_118 ?_
        refine lv_aload_n S.1 S.2.1 dX1_step_121 rfl (lv_at hl 4 rfl) ?_
        refine m_getI 17 3 S hw (by omega) rfl rfl rfl in_X3 (by decide) wf_X1_100 dX1_step_122 ?_
        have hq7 : M6 17 = M 17 := (fr6 17 (by omega)).trans hq5
        refine m_top (show M6 17 3 = M 17 3 from congrFun hq7 3) ?_
        refine m_top (show M 17 3 = nI lo from pl3) ?_
        refine lv_aload_n S.1 S.2.1 dX1_step_125 rfl (lv_at hl 3 rfl) ?_
        refine m_getI 20 2 S hw (by omega) rfl rfl rfl in_X1 (by decide) wf_X1_18 dX1_step_126 ?_
        have hq8 : M4 20 = M 20 := fr4 20 (by omega)
        have hq9 : M6 20 = M 20 := (fr6 20 (by omega)).trans hq8
        refine m_top (show M6 20 2 = M 20 2 from congrFun hq9 2) ?_
        refine m_top (show M 20 2 = nI bn from hbn) ?_
        refine lv_aload_n S.1 S.2.1 dX1_step_129 rfl (lv_at hl 4 rfl) ?_
        refine m_getI 17 0 S hw (by omega) rfl rfl rfl in_X3 (by decide) wf_X1_107 dX1_step_130 ?_
        refine m_top (show M6 17 0 = M 17 0 from congrFun hq7 0) ?_
        refine m_top (show M 17 0 = nI k from pl0) ?_
        refine m_VV (As := [.int (nI lo), .int (nI bn), .int (nI k)]) (rest := []) 21 S hw (by omega) rfl rfl (c_X2_put l G N K ad M6 20 (isM20 (by omega)) lo (by omega) (nI bn) (nI k)) mf_X2_put wm_X1_110 ⟨by decide, by decide⟩ ⟨Nat.le_refl _, Nat.le_refl _⟩ hl.1 rfl (Nat.le_of_ble_eq_true rfl) dX1_step_133 (fun M10 H locs hp10 hw => ?_)
        have e21_10 : M10 21 = (M6 21) := hp10.1
        have e22_10 : M10 22 = (upd (M6 22) lo (nI bn)) := hp10.2.1
        have e23_10 : M10 23 = (upd (M6 23) lo (nI k)) := hp10.2.2.1
        have e24_10 : M10 24 = (upd (M6 24) lo (-1)) := hp10.2.2.2.1
        have e25_10 : M10 25 = (upd (M6 25) lo (nI 0)) := hp10.2.2.2.2.1
        have fr10 : Fr 21 26 M6 M10 := hp10.2.2.2.2.2
        refine lv_aload_n S.1 S.2.1 dX1_step_136 rfl (lv_at hl 3 rfl) ?_
        refine m_getR 20 4 26 S hw (by omega) rfl rfl rfl in_X1 (by decide) wf_X1_31 dX1_step_137 ?_
        refine lv_iload S.1 S.2.1 dX1_step_140 (lv_at hl 2 rfl) ?_
        refine m_VV (As := [.int (nI (a * 8 + k))]) (rest := []) 26 S hw (by omega) rfl rfl (c_X4_takeOne l G N K ad M10 20 (isM20 (by omega)) (a * 8 + k) (by omega)) mf_X4_takeOne wm_X1_113 ⟨by decide, by decide⟩ ⟨Nat.le_refl _, Nat.le_refl _⟩ hl.1 rfl (Nat.le_of_ble_eq_true rfl) dX1_step_142 (fun M11 H locs hp11 hw => ?_)
        have e27_11 : M11 27 = (upd (M10 27) (a * 8 + k) (M10 27 (a * 8 + k) - nI 1)) := hp11.1
        have e28_11 : M11 28 = (upd (M10 28) (a * 8 + k) (if M10 27 (a * 8 + k) - nI 1 < M10 28 (a * 8 + k) then M10 27 (a * 8 + k) - nI 1 else M10 28 (a * 8 + k))) := hp11.2.1
        have e29_11 : M11 29 = (M10 29) := hp11.2.2.1
        have e30_11 : M11 30 = (M10 30) := hp11.2.2.2.1
        have fr11 : Fr 26 31 M10 M11 := hp11.2.2.2.2
        have hq12 : M4 23 = M 23 := fr4 23 (by omega)
        have hq13 : M6 23 = va_cpy (M 23) (M 23) lo (lo + 1) ((hi - 1) - lo) := by rw [e23_6, hq12]
        have hq14 : M10 23 = upd ((va_cpy (M 23) (M 23) lo (lo + 1) ((hi - 1) - lo))) lo (nI k) := by rw [e23_10, hq13]
        have hq15 : M11 23 = upd ((va_cpy (M 23) (M 23) lo (lo + 1) ((hi - 1) - lo))) lo (nI k) := (fr11 23 (by omega)).trans hq14
        have hkm : Kin (M11 23) hi := by rw [hq15]; exact fun j hj => kin_mov (fun i hi2 => hv3 i hi2) hk8 hlo j (by omega)
        refine lv_aload_n S.1 S.2.1 dX1_step_145 rfl (lv_at hl 3 rfl) ?_
        refine m_getR 20 3 21 S hw (by omega) rfl rfl rfl in_X1 (by decide) wf_X1_24 dX1_step_146 ?_
        refine lv_aload_n S.1 S.2.1 dX1_step_149 rfl (lv_at hl 4 rfl) ?_
        refine m_getI 17 3 S hw (by omega) rfl rfl rfl in_X3 (by decide) wf_X1_100 dX1_step_150 ?_
        have hq16 : M10 17 = M 17 := (fr10 17 (by omega)).trans hq7
        have hq17 : M11 17 = M 17 := (fr11 17 (by omega)).trans hq16
        refine m_top (show M11 17 3 = M 17 3 from congrFun hq17 3) ?_
        refine m_top (show M 17 3 = nI lo from pl3) ?_
        refine lv_aload_n S.1 S.2.1 dX1_step_153 rfl (lv_at hl 4 rfl) ?_
        refine m_getI 17 4 S hw (by omega) rfl rfl rfl in_X3 (by decide) wf_X1_83 dX1_step_154 ?_
        refine m_top (show M11 17 4 = M 17 4 from congrFun hq17 4) ?_
        refine m_top (show M 17 4 = nI hi from pl4) ?_
        refine lv_aload_n S.1 S.2.1 dX1_step_157 rfl (lv_at hl 6 rfl) ?_
        refine m_VV (As := [.int (nI lo), .int (nI hi), .ref (ad 1)]) (rest := []) 21 S hw (by omega) rfl rfl (c_X2_mixBorders l G N K ad M11 h34 20 (isM20 (by omega)) lo hi (by omega) (by omega) hkm) mf_X2_mixBorders wm_X1_116 ⟨by decide, by decide⟩ ⟨Nat.le_refl _, Nat.le_refl _⟩ hl.1 rfl (Nat.le_of_ble_eq_true rfl) dX1_step_158 (fun M18 H locs hp18 hw => ?_)
        have e23_18 : M18 23 = ((mixC (M11 3) (M11 22) lo hi (hi - lo) (none, (M11 23, M11 24, M11 25))).2.1) := hp18.1
        have e24_18 : M18 24 = ((mixC (M11 3) (M11 22) lo hi (hi - lo) (none, (M11 23, M11 24, M11 25))).2.2.1) := hp18.2.1
        have e25_18 : M18 25 = ((mixC (M11 3) (M11 22) lo hi (hi - lo) (none, (M11 23, M11 24, M11 25))).2.2.2) := hp18.2.2.1
        have e21_18 : M18 21 = (M11 21) := hp18.2.2.2.1
        have e22_18 : M18 22 = (M11 22) := hp18.2.2.2.2.1
        have fr18 : Fr 21 26 M11 M18 := hp18.2.2.2.2.2
        have hq19 : M4 22 = M 22 := fr4 22 (by omega)
        have hq20 : M6 22 = va_cpy (M 22) (M 22) lo (lo + 1) ((hi - 1) - lo) := by rw [e22_6, hq19]
        have hq21 : M10 22 = upd ((va_cpy (M 22) (M 22) lo (lo + 1) ((hi - 1) - lo))) lo (nI bn) := by rw [e22_10, hq20]
        have hq22 : M11 22 = upd ((va_cpy (M 22) (M 22) lo (lo + 1) ((hi - 1) - lo))) lo (nI bn) := (fr11 22 (by omega)).trans hq21
        have hq23 : M18 22 = upd ((va_cpy (M 22) (M 22) lo (lo + 1) ((hi - 1) - lo))) lo (nI bn) := e22_18.trans hq22
        have hq24 : M4 3 = M 3 := fr4 3 (by omega)
        have hq25 : M6 3 = M 3 := (fr6 3 (by omega)).trans hq24
        have hq26 : M10 3 = M 3 := (fr10 3 (by omega)).trans hq25
        have hq27 : M11 3 = M 3 := (fr11 3 (by omega)).trans hq26
        have hq28 : M4 24 = M 24 := fr4 24 (by omega)
        have hq29 : M6 24 = va_cpy (M 24) (M 24) lo (lo + 1) ((hi - 1) - lo) := by rw [e24_6, hq28]
        have hq30 : M10 24 = upd ((va_cpy (M 24) (M 24) lo (lo + 1) ((hi - 1) - lo))) lo (-1) := by rw [e24_10, hq29]
        have hq31 : M11 24 = upd ((va_cpy (M 24) (M 24) lo (lo + 1) ((hi - 1) - lo))) lo (-1) := (fr11 24 (by omega)).trans hq30
        have hq32 : M4 25 = M 25 := fr4 25 (by omega)
        have hq33 : M6 25 = va_cpy (M 25) (M 25) lo (lo + 1) ((hi - 1) - lo) := by rw [e25_6, hq32]
        have hq34 : M10 25 = upd ((va_cpy (M 25) (M 25) lo (lo + 1) ((hi - 1) - lo))) lo (nI 0) := by rw [e25_10, hq33]
        have hq35 : M11 25 = upd ((va_cpy (M 25) (M 25) lo (lo + 1) ((hi - 1) - lo))) lo (nI 0) := (fr11 25 (by omega)).trans hq34
        have hq36 : M18 23 = (mixC (M 3) ((upd ((va_cpy (M 22) (M 22) lo (lo + 1) ((hi - 1) - lo))) lo (nI bn))) lo hi (hi - lo) (none, ((upd ((va_cpy (M 23) (M 23) lo (lo + 1) ((hi - 1) - lo))) lo (nI k)), (upd ((va_cpy (M 24) (M 24) lo (lo + 1) ((hi - 1) - lo))) lo (-1)), (upd ((va_cpy (M 25) (M 25) lo (lo + 1) ((hi - 1) - lo))) lo (nI 0))))).2.1 := by rw [e23_18, hq27, hq22, hq15, hq31, hq35]
        have hq37 : M18 24 = (mixC (M 3) ((upd ((va_cpy (M 22) (M 22) lo (lo + 1) ((hi - 1) - lo))) lo (nI bn))) lo hi (hi - lo) (none, ((upd ((va_cpy (M 23) (M 23) lo (lo + 1) ((hi - 1) - lo))) lo (nI k)), (upd ((va_cpy (M 24) (M 24) lo (lo + 1) ((hi - 1) - lo))) lo (-1)), (upd ((va_cpy (M 25) (M 25) lo (lo + 1) ((hi - 1) - lo))) lo (nI 0))))).2.2.1 := by rw [e24_18, hq27, hq22, hq15, hq31, hq35]
        have hq38 : M18 25 = (mixC (M 3) ((upd ((va_cpy (M 22) (M 22) lo (lo + 1) ((hi - 1) - lo))) lo (nI bn))) lo hi (hi - lo) (none, ((upd ((va_cpy (M 23) (M 23) lo (lo + 1) ((hi - 1) - lo))) lo (nI k)), (upd ((va_cpy (M 24) (M 24) lo (lo + 1) ((hi - 1) - lo))) lo (-1)), (upd ((va_cpy (M 25) (M 25) lo (lo + 1) ((hi - 1) - lo))) lo (nI 0))))).2.2.2 := by rw [e25_18, hq27, hq22, hq15, hq31, hq35]
        have hq39 : M6 27 = outAm none (M 27) := (fr6 27 (by omega)).trans e27_4
        have hq40 : M10 27 = outAm none (M 27) := (fr10 27 (by omega)).trans hq39
        have hq41 : M11 27 = upd ((outAm none (M 27))) (a * 8 + k) ((outAm none (M 27)) (a * 8 + k) - nI 1) := by rw [e27_11, hq40]
        have hq42 : M18 27 = upd ((outAm none (M 27))) (a * 8 + k) ((outAm none (M 27)) (a * 8 + k) - nI 1) := (fr18 27 (by omega)).trans hq41
        have hq43 : M6 28 = outFr none (pureB (M 24) (hi - 1)) (M 28) := (fr6 28 (by omega)).trans e28_4
        have hq44 : M10 28 = outFr none (pureB (M 24) (hi - 1)) (M 28) := (fr10 28 (by omega)).trans hq43
        have hq45 : M11 28 = upd ((outFr none (pureB (M 24) (hi - 1)) (M 28))) (a * 8 + k) (if (outAm none (M 27)) (a * 8 + k) - nI 1 < (outFr none (pureB (M 24) (hi - 1)) (M 28)) (a * 8 + k) then (outAm none (M 27)) (a * 8 + k) - nI 1 else (outFr none (pureB (M 24) (hi - 1)) (M 28)) (a * 8 + k)) := by rw [e28_11, hq44, hq40]
        have hq46 : M18 28 = upd ((outFr none (pureB (M 24) (hi - 1)) (M 28))) (a * 8 + k) (if (outAm none (M 27)) (a * 8 + k) - nI 1 < (outFr none (pureB (M 24) (hi - 1)) (M 28)) (a * 8 + k) then (outAm none (M 27)) (a * 8 + k) - nI 1 else (outFr none (pureB (M 24) (hi - 1)) (M 28)) (a * 8 + k)) := (fr18 28 (by omega)).trans hq45
        have hq47 : M6 29 = outAm none (M 29) := (fr6 29 (by omega)).trans e29_4
        have hq48 : M10 29 = outAm none (M 29) := (fr10 29 (by omega)).trans hq47
        have hq49 : M11 29 = outAm none (M 29) := e29_11.trans hq48
        have hq50 : M18 29 = outAm none (M 29) := (fr18 29 (by omega)).trans hq49
        have hq51 : M6 30 = outSl none d (M 30) := (fr6 30 (by omega)).trans e30_4
        have hq52 : M10 30 = outSl none d (M 30) := (fr10 30 (by omega)).trans hq51
        have hq53 : M11 30 = outSl none d (M 30) := e30_11.trans hq52
        have hq54 : M18 30 = outSl none d (M 30) := (fr18 30 (by omega)).trans hq53
        have hq55 : M6 31 = outWo (M 31) bm := (fr6 31 (by omega)).trans e31_4
        have hq56 : M10 31 = outWo (M 31) bm := (fr10 31 (by omega)).trans hq55
        have hq57 : M11 31 = outWo (M 31) bm := (fr11 31 (by omega)).trans hq56
        have hq58 : M18 31 = outWo (M 31) bm := (fr18 31 (by omega)).trans hq57
        have g2 : M18 22 = goR mfC M lo hi (a * 8 + k) d k bn (fun r => M (20 + r)) 2 := hq23
        have g3 : M18 23 = goR mfC M lo hi (a * 8 + k) d k bn (fun r => M (20 + r)) 3 := hq36
        have g4 : M18 24 = goR mfC M lo hi (a * 8 + k) d k bn (fun r => M (20 + r)) 4 := hq37
        have g5 : M18 25 = goR mfC M lo hi (a * 8 + k) d k bn (fun r => M (20 + r)) 5 := hq38
        have g7 : M18 27 = goR mfC M lo hi (a * 8 + k) d k bn (fun r => M (20 + r)) 7 := hq42.trans (by show _ = upd (outAm (sinkS M (fun r => M (20 + r)) d (hi - 1)) (M 27)) (a * 8 + k) (outAm (sinkS M (fun r => M (20 + r)) d (hi - 1)) (M 27) (a * 8 + k) - nI 1); rw [hsk])
        have g8 : M18 28 = goR mfC M lo hi (a * 8 + k) d k bn (fun r => M (20 + r)) 8 := hq46.trans (by show _ = upd (outFr (sinkS M (fun r => M (20 + r)) d (hi - 1)) (pureB (M 24) (hi - 1)) (M 28)) (a * 8 + k) (if outAm (sinkS M (fun r => M (20 + r)) d (hi - 1)) (M 27) (a * 8 + k) - nI 1 < outFr (sinkS M (fun r => M (20 + r)) d (hi - 1)) (pureB (M 24) (hi - 1)) (M 28) (a * 8 + k) then outAm (sinkS M (fun r => M (20 + r)) d (hi - 1)) (M 27) (a * 8 + k) - nI 1 else outFr (sinkS M (fun r => M (20 + r)) d (hi - 1)) (pureB (M 24) (hi - 1)) (M 28) (a * 8 + k)); rw [hsk])
        have g9 : M18 29 = goR mfC M lo hi (a * 8 + k) d k bn (fun r => M (20 + r)) 9 := hq50.trans (by show _ = outAm (sinkS M (fun r => M (20 + r)) d (hi - 1)) (M 29); rw [hsk])
        have g10 : M18 30 = goR mfC M lo hi (a * 8 + k) d k bn (fun r => M (20 + r)) 10 := hq54.trans (by show _ = outSl (sinkS M (fun r => M (20 + r)) d (hi - 1)) d (M 30); rw [hsk])
        have g11 : M18 31 = goR mfC M lo hi (a * 8 + k) d k bn (fun r => M (20 + r)) 11 := hq58.trans (by show _ = outWo (M 31) (tn (M 22 (hi - 1))); rw [hbm, tn_nI (by omega)])
        have hq59 : M4 2 = M 2 := fr4 2 (by omega)
        have hq60 : M6 2 = M 2 := (fr6 2 (by omega)).trans hq59
        have hq61 : M10 2 = M 2 := (fr10 2 (by omega)).trans hq60
        have hq62 : M11 2 = M 2 := (fr11 2 (by omega)).trans hq61
        have hq63 : M18 2 = M 2 := (fr18 2 (by omega)).trans hq62
        have hq64 : M4 21 = M 21 := fr4 21 (by omega)
        have hq65 : M6 21 = M 21 := e21_6.trans hq64
        have hq66 : M10 21 = M 21 := e21_10.trans hq65
        have hq67 : M11 21 = M 21 := (fr11 21 (by omega)).trans hq66
        have hq68 : M18 21 = M 21 := e21_18.trans hq67
        have hn5 : M18 21 0 = nI n := by rw [hq68]; exact hn
        have hz5 : Z01 (M18 2) 64 := by rw [hq63]; exact hz2
        have hk5 : Kin (M18 23) n := by rw [g3]; exact kin_go hv3 hk8 hlo hhi
        have e2x : M18 2 = M 2 := hq63
        refine lv_aload_n S.1 S.2.1 dX1_step_161 rfl (lv_at hl 3 rfl) ?_
        refine m_getR 20 3 21 S hw (by omega) rfl rfl rfl in_X1 (by decide) wf_X1_24 dX1_step_162 ?_
        refine lv_aload_n S.1 S.2.1 dX1_step_165 rfl (lv_at hl 4 rfl) ?_
        refine m_getI 17 3 S hw (by omega) rfl rfl rfl in_X3 (by decide) wf_X1_100 dX1_step_166 ?_
        have hq69 : M18 17 = M 17 := (fr18 17 (by omega)).trans hq17
        refine m_top (show M18 17 3 = M 17 3 from congrFun hq69 3) ?_
        refine m_top (show M 17 3 = nI lo from pl3) ?_
        refine lv_aload_n S.1 S.2.1 dX1_step_169 rfl (lv_at hl 6 rfl) ?_
        refine r_VI (As := [.int (nI lo), .ref (ad 1)]) (rest := []) 21 S hw (by omega) rfl rfl (c_X2_clashesAt l G N K ad M18 h34 20 (isM20 (by omega)) n hn5 hn1 hk5 hz5 lo (by omega)) mf_X2_clashesAt wm_X1_120 ⟨by decide, by decide⟩ ⟨Nat.le_refl _, Nat.le_refl _⟩ hl.1 rfl (Nat.le_of_ble_eq_true rfl) dX1_step_170 (fun H locs hw => ?_)
        refine b_ne (tgt := 189) S dX1_step_173 (by decide) (fun c70 => ?_) (fun c70 => ?_)
        · refine lv_iconst (v := nI 1) S.1 S.2.1 dX1_step_189 (by decide) ?_
          refine lv_goto (tgt := 194) S.1 S.2.1 dX1_step_190 (by decide) ?_
          refine lv_istore (lv' := [(7, .int (nI 1)), (6, .int (-1)), (5, .int (nI (hi - 1))), (4, .int (nI (a * 8 + k))), (0, .ref (ad 20)), (1, .ref (ad 17)), (2, .ref (ad 6)), (3, .ref (ad 1))]) S.1 S.2.1 dX1_step_194 hl (by decide) rfl (fun ls hl => ?_)
          refine lv_iload S.1 S.2.1 dX1_step_196 (lv_at hl 0 rfl) ?_
          refine lv_if_eq (tgt := 205) S.1 S.2.1 dX1_step_198 (by decide) (fun c71 => absurd c71 (by decide)) (fun c71 => ?_)
          refine lv_iconst (v := nI 3) S.1 S.2.1 dX1_step_201 (by decide) ?_
          refine lv_goto (tgt := 206) S.1 S.2.1 dX1_step_202 (by decide) ?_
          have hq72 : M10 20 = M 20 := (fr10 20 (by omega)).trans hq9
          have hq73 : M11 20 = M 20 := (fr11 20 (by omega)).trans hq72
          have hq74 : M18 20 = M 20 := (fr18 20 (by omega)).trans hq73
          have hq75 : M4 32 = M 32 := fr4 32 (by omega)
          have hq76 : M6 32 = M 32 := (fr6 32 (by omega)).trans hq75
          have hq77 : M10 32 = M 32 := (fr10 32 (by omega)).trans hq76
          have hq78 : M11 32 = M 32 := (fr11 32 (by omega)).trans hq77
          have hq79 : M18 32 = M 32 := (fr18 32 (by omega)).trans hq78
          have hF : stepS mfC M lo hi (a * 8 + k) d k bn n (fun r => M (20 + r)) = _ := st_go hdry hfull
          have hwr : wrongB M (goR mfC M lo hi (a * 8 + k) d k bn (fun r => M (20 + r))) n lo hi = true := by rw [wrongB, ← g3, ← g4, ← e2x, c70]; rfl
          rw [hwr] at hF
          exact m_reti S hr hlocks hw dX1_step_206 ⟨by rw [hF]; rfl, (fun h => by rw [hF] at h; cases h), hq74, hq68, hq79, (Fr.tr (Fr.tr (Fr.tr (Fr.tr (Fr.tr Fr.rf fr4 (by omega) (by omega)) fr6 (by omega) (by omega)) fr10 (by omega) (by omega)) fr11 (by omega) (by omega)) fr18 (by omega) (by omega))⟩
        · refine lv_aload_n S.1 S.2.1 dX1_step_176 rfl (lv_at hl 3 rfl) ?_
          refine m_getR 20 3 21 S hw (by omega) rfl rfl rfl in_X1 (by decide) wf_X1_24 dX1_step_177 ?_
          refine lv_iload S.1 S.2.1 dX1_step_180 (lv_at hl 1 rfl) ?_
          refine lv_aload_n S.1 S.2.1 dX1_step_182 rfl (lv_at hl 6 rfl) ?_
          refine r_VI (As := [.int (nI (hi - 1)), .ref (ad 1)]) (rest := []) 21 S hw (by omega) rfl rfl (c_X2_clashesAt l G N K ad M18 h34 20 (isM20 (by omega)) n hn5 hn1 hk5 hz5 (hi - 1) (by omega)) mf_X2_clashesAt wm_X1_120 ⟨by decide, by decide⟩ ⟨Nat.le_refl _, Nat.le_refl _⟩ hl.1 rfl (Nat.le_of_ble_eq_true rfl) dX1_step_183 (fun H locs hw => ?_)
          refine b_eq (tgt := 193) S dX1_step_186 (by decide) (fun c80 => ?_) (fun c80 => ?_)
          · refine lv_iconst (v := nI 0) S.1 S.2.1 dX1_step_193 (by decide) ?_
            refine lv_istore (lv' := [(7, .int (nI 0)), (6, .int (-1)), (5, .int (nI (hi - 1))), (4, .int (nI (a * 8 + k))), (0, .ref (ad 20)), (1, .ref (ad 17)), (2, .ref (ad 6)), (3, .ref (ad 1))]) S.1 S.2.1 dX1_step_194 hl (by decide) rfl (fun ls hl => ?_)
            refine lv_iload S.1 S.2.1 dX1_step_196 (lv_at hl 0 rfl) ?_
            refine lv_if_eq (tgt := 205) S.1 S.2.1 dX1_step_198 (by decide) (fun c81 => ?_) (fun c81 => absurd c81 (by decide))
            refine lv_iconst (v := nI 0) S.1 S.2.1 dX1_step_205 (by decide) ?_
            have hq82 : M10 20 = M 20 := (fr10 20 (by omega)).trans hq9
            have hq83 : M11 20 = M 20 := (fr11 20 (by omega)).trans hq82
            have hq84 : M18 20 = M 20 := (fr18 20 (by omega)).trans hq83
            have hq85 : M4 32 = M 32 := fr4 32 (by omega)
            have hq86 : M6 32 = M 32 := (fr6 32 (by omega)).trans hq85
            have hq87 : M10 32 = M 32 := (fr10 32 (by omega)).trans hq86
            have hq88 : M11 32 = M 32 := (fr11 32 (by omega)).trans hq87
            have hq89 : M18 32 = M 32 := (fr18 32 (by omega)).trans hq88
            have hF : stepS mfC M lo hi (a * 8 + k) d k bn n (fun r => M (20 + r)) = _ := st_go hdry hfull
            have hwr : wrongB M (goR mfC M lo hi (a * 8 + k) d k bn (fun r => M (20 + r))) n lo hi = false := by rw [wrongB, ← g3, ← g4, ← e2x, c70, c80]; rfl
            rw [hwr] at hF
            have hrow : ∀ r, 2 ≤ r → r ≤ 11 → r ≠ 6 → M18 (20 + r) = (goR mfC M lo hi (a * 8 + k) d k bn (fun r => M (20 + r))) r := by
              intro r h1 h2 h3
              rcases (show r = 2 ∨ r = 3 ∨ r = 4 ∨ r = 5 ∨ r = 7 ∨ r = 8 ∨ r = 9 ∨ r = 10 ∨ r = 11 by omega) with rfl | rfl | rfl | rfl | rfl | rfl | rfl | rfl | rfl
              · exact g2
              · exact g3
              · exact g4
              · exact g5
              · exact g7
              · exact g8
              · exact g9
              · exact g10
              · exact g11
            exact m_reti S hr hlocks hw dX1_step_206 ⟨by rw [hF]; rfl, fun _ => by rw [hF]; exact hrow, hq84, hq68, hq89, (Fr.tr (Fr.tr (Fr.tr (Fr.tr (Fr.tr Fr.rf fr4 (by omega) (by omega)) fr6 (by omega) (by omega)) fr10 (by omega) (by omega)) fr11 (by omega) (by omega)) fr18 (by omega) (by omega))⟩
          · refine lv_iconst (v := nI 1) S.1 S.2.1 dX1_step_189 (by decide) ?_
            refine lv_goto (tgt := 194) S.1 S.2.1 dX1_step_190 (by decide) ?_
            refine lv_istore (lv' := [(7, .int (nI 1)), (6, .int (-1)), (5, .int (nI (hi - 1))), (4, .int (nI (a * 8 + k))), (0, .ref (ad 20)), (1, .ref (ad 17)), (2, .ref (ad 6)), (3, .ref (ad 1))]) S.1 S.2.1 dX1_step_194 hl (by decide) rfl (fun ls hl => ?_)
            refine lv_iload S.1 S.2.1 dX1_step_196 (lv_at hl 0 rfl) ?_
            refine lv_if_eq (tgt := 205) S.1 S.2.1 dX1_step_198 (by decide) (fun c90 => absurd c90 (by decide)) (fun c90 => ?_)
            refine lv_iconst (v := nI 3) S.1 S.2.1 dX1_step_201 (by decide) ?_
            refine lv_goto (tgt := 206) S.1 S.2.1 dX1_step_202 (by decide) ?_
            have hq91 : M10 20 = M 20 := (fr10 20 (by omega)).trans hq9
            have hq92 : M11 20 = M 20 := (fr11 20 (by omega)).trans hq91
            have hq93 : M18 20 = M 20 := (fr18 20 (by omega)).trans hq92
            have hq94 : M4 32 = M 32 := fr4 32 (by omega)
            have hq95 : M6 32 = M 32 := (fr6 32 (by omega)).trans hq94
            have hq96 : M10 32 = M 32 := (fr10 32 (by omega)).trans hq95
            have hq97 : M11 32 = M 32 := (fr11 32 (by omega)).trans hq96
            have hq98 : M18 32 = M 32 := (fr18 32 (by omega)).trans hq97
            have hF : stepS mfC M lo hi (a * 8 + k) d k bn n (fun r => M (20 + r)) = _ := st_go hdry hfull
            have hwr : wrongB M (goR mfC M lo hi (a * 8 + k) d k bn (fun r => M (20 + r))) n lo hi = true := by rw [wrongB, ← g3, ← g4, ← e2x, c70, c80]; rfl
            rw [hwr] at hF
            exact m_reti S hr hlocks hw dX1_step_206 ⟨by rw [hF]; rfl, (fun h => by rw [hF] at h; cases h), hq93, hq68, hq98, (Fr.tr (Fr.tr (Fr.tr (Fr.tr (Fr.tr Fr.rf fr4 (by omega) (by omega)) fr6 (by omega) (by omega)) fr10 (by omega) (by omega)) fr11 (by omega) (by omega)) fr18 (by omega) (by omega))⟩
      · have ht48 : t < 48 := by
          have et : tn (M (20 + 3) (hi - 1)) = ka := by rw [show M (20 + 3) (hi - 1) = nI ka from hka]; exact tn_nI (by omega)
          rcases (sk_lt hsk).1 with h | ⟨h0, h⟩
          · rw [et] at h; omega
          · rw [show tn (M (20 + 4) (hi - 1)) = kb by rw [show M (20 + 4) (hi - 1) = nI kb from hkb h0]; exact tn_nI (by omega)] at h; omega
        refine m_top (show enc (sinkS M (fun r => M (20 + r)) d (hi - 1)) = nI t from enc_s hsk) ?_
        refine lv_istore (lv' := [(6, .int (nI t)), (5, .int (nI (hi - 1))), (4, .int (nI (a * 8 + k))), (0, .ref (ad 20)), (1, .ref (ad 17)), (2, .ref (ad 6)), (3, .ref (ad 1))]) S.1 S.2.1 dX1_step_60 hl (by decide) rfl (fun ls hl => ?_)
        refine lv_iload S.1 S.2.1 dX1_step_62 (lv_at hl 0 rfl) ?_
        refine lv_iconst (v := (-1)) S.1 S.2.1 dX1_step_64 (by decide) ?_
        refine lv_icmp_eq (tgt := 92) S.1 S.2.1 dX1_step_65 (by decide) (fun c99 => absurd c99 (enc_ne (by omega))) (fun c99 => ?_)
        refine lv_aload_n S.1 S.2.1 dX1_step_68 rfl (lv_at hl 3 rfl) ?_
        refine m_getR 20 4 26 S hw (by omega) rfl rfl rfl in_X1 (by decide) wf_X1_31 dX1_step_69 ?_
        refine m_getR 26 0 27 S hw (by omega) rfl rfl rfl in_X4 (by decide) wf_X1_77 dX1_step_72 ?_
        refine lv_iload S.1 S.2.1 dX1_step_75 (lv_at hl 0 rfl) ?_
        refine m_ald 27 t S hw (by omega) rfl (by decide) (by omega) rfl dX1_step_77 ?_
        refine lv_iconst (v := nI 1) S.1 S.2.1 dX1_step_78 (by decide) ?_
        refine lv_iadd S.1 S.2.1 dX1_step_79 ?_
        refine lv_aload_n S.1 S.2.1 dX1_step_80 rfl (lv_at hl 5 rfl) ?_
        refine m_getR 6 5 11 S hw (by omega) rfl rfl rfl in_X0 (by decide) wf_X1_93 dX1_step_81 ?_
        refine lv_iload S.1 S.2.1 dX1_step_84 (lv_at hl 0 rfl) ?_
        refine m_ald 11 t S hw (by omega) rfl (by decide) (by omega) rfl dX1_step_86 ?_
        refine lv_icmp_le (tgt := 92) S.1 S.2.1 dX1_step_87 (by decide) (fun c100 => ?_) (fun c100 => ?_)
        · have hfull : fullB M (fun r => M (20 + r)) (sinkS M (fun r => M (20 + r)) d (hi - 1)) = false := by rw [hsk]; exact full_n c100
          have hdry : dryB M (fun r => M (20 + r)) (a * 8 + k) = false := dry_n c1 c2
          refine lv_aload_n S.1 S.2.1 dX1_step_92 rfl (lv_at hl 3 rfl) ?_
          refine lv_iload S.1 S.2.1 dX1_step_93 (lv_at hl 1 rfl) ?_
          refine lv_iload S.1 S.2.1 dX1_step_95 (lv_at hl 0 rfl) ?_
          refine lv_aload_n S.1 S.2.1 dX1_step_97 rfl (lv_at hl 4 rfl) ?_
          refine m_getI 17 2 S hw (by omega) rfl rfl rfl in_X3 (by decide) wf_X1_86 dX1_step_98 ?_
          refine m_top (show M 17 2 = nI d from pl2) ?_
          refine m_VV (As := [.int (nI (hi - 1)), .int (nI t), .int (nI d)]) (rest := []) 20 S hw (by omega) rfl rfl (c_X1_letOut l G N K ad M h34 (hi - 1) d (by omega) (by omega) (some t) (fun u hu => by cases hu; omega) bm hbm hbm1) mf_X1_letOut wm_X1_96 ⟨by decide, by decide⟩ ⟨Nat.le_refl _, Nat.le_refl _⟩ hl.1 rfl (Nat.le_of_ble_eq_true rfl) dX1_step_101 (fun M101 H locs hp101 hw => ?_)
          have e27_101 : M101 27 = (outAm (some t) (M 27)) := hp101.1
          have e28_101 : M101 28 = (outFr (some t) (pureB (M 24) (hi - 1)) (M 28)) := hp101.2.1
          have e29_101 : M101 29 = (outAm (some t) (M 29)) := hp101.2.2.1
          have e30_101 : M101 30 = (outSl (some t) d (M 30)) := hp101.2.2.2.1
          have e31_101 : M101 31 = (outWo (M 31) bm) := hp101.2.2.2.2.1
          have fr101 : Fr 26 32 M M101 := hp101.2.2.2.2.2
          refine lv_aload_n S.1 S.2.1 dX1_step_104 rfl (lv_at hl 3 rfl) ?_
          refine m_getR 20 3 21 S hw (by omega) rfl rfl rfl in_X1 (by decide) wf_X1_24 dX1_step_105 ?_
          refine lv_aload_n S.1 S.2.1 dX1_step_108 rfl (lv_at hl 4 rfl) ?_
          refine m_getI 17 3 S hw (by omega) rfl rfl rfl in_X3 (by decide) wf_X1_100 dX1_step_109 ?_
          have hq102 : M101 17 = M 17 := fr101 17 (by omega)
          refine m_top (show M101 17 3 = M 17 3 from congrFun hq102 3) ?_
          refine m_top (show M 17 3 = nI lo from pl3) ?_
          refine lv_iload S.1 S.2.1 dX1_step_112 (lv_at hl 1 rfl) ?_
          refine m_VV (As := [.int (nI lo), .int (nI (hi - 1))]) (rest := []) 21 S hw (by omega) rfl rfl (c_X2_moveOn l G N K ad M101 20 (isM20 (by omega)) lo (hi - 1) (by omega) (by omega)) mf_X2_moveOn wm_X1_103 ⟨by decide, by decide⟩ ⟨Nat.le_refl _, Nat.le_refl _⟩ hl.1 rfl (Nat.le_of_ble_eq_true rfl) dX1_step_114 (fun M103 H locs hp103 hw => ?_)
          have e21_103 : M103 21 = (M101 21) := hp103.1
          have e22_103 : M103 22 = (va_cpy (M101 22) (M101 22) lo (lo + 1) ((hi - 1) - lo)) := hp103.2.1
          have e23_103 : M103 23 = (va_cpy (M101 23) (M101 23) lo (lo + 1) ((hi - 1) - lo)) := hp103.2.2.1
          have e24_103 : M103 24 = (va_cpy (M101 24) (M101 24) lo (lo + 1) ((hi - 1) - lo)) := hp103.2.2.2.1
          have e25_103 : M103 25 = (va_cpy (M101 25) (M101 25) lo (lo + 1) ((hi - 1) - lo)) := hp103.2.2.2.2.1
          have fr103 : Fr 21 26 M101 M103 := hp103.2.2.2.2.2
          refine lv_aload_n S.1 S.2.1 dX1_step_117 rfl (lv_at hl 3 rfl) ?_
          refine m_getR 20 3 21 S hw (by omega) rfl rfl rfl in_X1 (by decide) wf_X1_24 dX1_step_118 ?_
          refine lv_aload_n S.1 S.2.1 dX1_step_121 rfl (lv_at hl 4 rfl) ?_
          refine m_getI 17 3 S hw (by omega) rfl rfl rfl in_X3 (by decide) wf_X1_100 dX1_step_122 ?_
          have hq104 : M103 17 = M 17 := (fr103 17 (by omega)).trans hq102
          refine m_top (show M103 17 3 = M 17 3 from congrFun hq104 3) ?_
          refine m_top (show M 17 3 = nI lo from pl3) ?_
          refine lv_aload_n S.1 S.2.1 dX1_step_125 rfl (lv_at hl 3 rfl) ?_
          refine m_getI 20 2 S hw (by omega) rfl rfl rfl in_X1 (by decide) wf_X1_18 dX1_step_126 ?_
          have hq105 : M101 20 = M 20 := fr101 20 (by omega)
          have hq106 : M103 20 = M 20 := (fr103 20 (by omega)).trans hq105
          refine m_top (show M103 20 2 = M 20 2 from congrFun hq106 2) ?_
          refine m_top (show M 20 2 = nI bn from hbn) ?_
          refine lv_aload_n S.1 S.2.1 dX1_step_129 rfl (lv_at hl 4 rfl) ?_
          refine m_getI 17 0 S hw (by omega) rfl rfl rfl in_X3 (by decide) wf_X1_107 dX1_step_130 ?_
          refine m_top (show M103 17 0 = M 17 0 from congrFun hq104 0) ?_
          refine m_top (show M 17 0 = nI k from pl0) ?_
          refine m_VV (As := [.int (nI lo), .int (nI bn), .int (nI k)]) (rest := []) 21 S hw (by omega) rfl rfl (c_X2_put l G N K ad M103 20 (isM20 (by omega)) lo (by omega) (nI bn) (nI k)) mf_X2_put wm_X1_110 ⟨by decide, by decide⟩ ⟨Nat.le_refl _, Nat.le_refl _⟩ hl.1 rfl (Nat.le_of_ble_eq_true rfl) dX1_step_133 (fun M107 H locs hp107 hw => ?_)
          have e21_107 : M107 21 = (M103 21) := hp107.1
          have e22_107 : M107 22 = (upd (M103 22) lo (nI bn)) := hp107.2.1
          have e23_107 : M107 23 = (upd (M103 23) lo (nI k)) := hp107.2.2.1
          have e24_107 : M107 24 = (upd (M103 24) lo (-1)) := hp107.2.2.2.1
          have e25_107 : M107 25 = (upd (M103 25) lo (nI 0)) := hp107.2.2.2.2.1
          have fr107 : Fr 21 26 M103 M107 := hp107.2.2.2.2.2
          refine lv_aload_n S.1 S.2.1 dX1_step_136 rfl (lv_at hl 3 rfl) ?_
          refine m_getR 20 4 26 S hw (by omega) rfl rfl rfl in_X1 (by decide) wf_X1_31 dX1_step_137 ?_
          refine lv_iload S.1 S.2.1 dX1_step_140 (lv_at hl 2 rfl) ?_
          refine m_VV (As := [.int (nI (a * 8 + k))]) (rest := []) 26 S hw (by omega) rfl rfl (c_X4_takeOne l G N K ad M107 20 (isM20 (by omega)) (a * 8 + k) (by omega)) mf_X4_takeOne wm_X1_113 ⟨by decide, by decide⟩ ⟨Nat.le_refl _, Nat.le_refl _⟩ hl.1 rfl (Nat.le_of_ble_eq_true rfl) dX1_step_142 (fun M108 H locs hp108 hw => ?_)
          have e27_108 : M108 27 = (upd (M107 27) (a * 8 + k) (M107 27 (a * 8 + k) - nI 1)) := hp108.1
          have e28_108 : M108 28 = (upd (M107 28) (a * 8 + k) (if M107 27 (a * 8 + k) - nI 1 < M107 28 (a * 8 + k) then M107 27 (a * 8 + k) - nI 1 else M107 28 (a * 8 + k))) := hp108.2.1
          have e29_108 : M108 29 = (M107 29) := hp108.2.2.1
          have e30_108 : M108 30 = (M107 30) := hp108.2.2.2.1
          have fr108 : Fr 26 31 M107 M108 := hp108.2.2.2.2
          have hq109 : M101 23 = M 23 := fr101 23 (by omega)
          have hq110 : M103 23 = va_cpy (M 23) (M 23) lo (lo + 1) ((hi - 1) - lo) := by rw [e23_103, hq109]
          have hq111 : M107 23 = upd ((va_cpy (M 23) (M 23) lo (lo + 1) ((hi - 1) - lo))) lo (nI k) := by rw [e23_107, hq110]
          have hq112 : M108 23 = upd ((va_cpy (M 23) (M 23) lo (lo + 1) ((hi - 1) - lo))) lo (nI k) := (fr108 23 (by omega)).trans hq111
          have hkm : Kin (M108 23) hi := by rw [hq112]; exact fun j hj => kin_mov (fun i hi2 => hv3 i hi2) hk8 hlo j (by omega)
          refine lv_aload_n S.1 S.2.1 dX1_step_145 rfl (lv_at hl 3 rfl) ?_
          refine m_getR 20 3 21 S hw (by omega) rfl rfl rfl in_X1 (by decide) wf_X1_24 dX1_step_146 ?_
          refine lv_aload_n S.1 S.2.1 dX1_step_149 rfl (lv_at hl 4 rfl) ?_
          refine m_getI 17 3 S hw (by omega) rfl rfl rfl in_X3 (by decide) wf_X1_100 dX1_step_150 ?_
          have hq113 : M107 17 = M 17 := (fr107 17 (by omega)).trans hq104
          have hq114 : M108 17 = M 17 := (fr108 17 (by omega)).trans hq113
          refine m_top (show M108 17 3 = M 17 3 from congrFun hq114 3) ?_
          refine m_top (show M 17 3 = nI lo from pl3) ?_
          refine lv_aload_n S.1 S.2.1 dX1_step_153 rfl (lv_at hl 4 rfl) ?_
          refine m_getI 17 4 S hw (by omega) rfl rfl rfl in_X3 (by decide) wf_X1_83 dX1_step_154 ?_
          refine m_top (show M108 17 4 = M 17 4 from congrFun hq114 4) ?_
          refine m_top (show M 17 4 = nI hi from pl4) ?_
          refine lv_aload_n S.1 S.2.1 dX1_step_157 rfl (lv_at hl 6 rfl) ?_
          refine m_VV (As := [.int (nI lo), .int (nI hi), .ref (ad 1)]) (rest := []) 21 S hw (by omega) rfl rfl (c_X2_mixBorders l G N K ad M108 h34 20 (isM20 (by omega)) lo hi (by omega) (by omega) hkm) mf_X2_mixBorders wm_X1_116 ⟨by decide, by decide⟩ ⟨Nat.le_refl _, Nat.le_refl _⟩ hl.1 rfl (Nat.le_of_ble_eq_true rfl) dX1_step_158 (fun M115 H locs hp115 hw => ?_)
          have e23_115 : M115 23 = ((mixC (M108 3) (M108 22) lo hi (hi - lo) (none, (M108 23, M108 24, M108 25))).2.1) := hp115.1
          have e24_115 : M115 24 = ((mixC (M108 3) (M108 22) lo hi (hi - lo) (none, (M108 23, M108 24, M108 25))).2.2.1) := hp115.2.1
          have e25_115 : M115 25 = ((mixC (M108 3) (M108 22) lo hi (hi - lo) (none, (M108 23, M108 24, M108 25))).2.2.2) := hp115.2.2.1
          have e21_115 : M115 21 = (M108 21) := hp115.2.2.2.1
          have e22_115 : M115 22 = (M108 22) := hp115.2.2.2.2.1
          have fr115 : Fr 21 26 M108 M115 := hp115.2.2.2.2.2
          have hq116 : M101 22 = M 22 := fr101 22 (by omega)
          have hq117 : M103 22 = va_cpy (M 22) (M 22) lo (lo + 1) ((hi - 1) - lo) := by rw [e22_103, hq116]
          have hq118 : M107 22 = upd ((va_cpy (M 22) (M 22) lo (lo + 1) ((hi - 1) - lo))) lo (nI bn) := by rw [e22_107, hq117]
          have hq119 : M108 22 = upd ((va_cpy (M 22) (M 22) lo (lo + 1) ((hi - 1) - lo))) lo (nI bn) := (fr108 22 (by omega)).trans hq118
          have hq120 : M115 22 = upd ((va_cpy (M 22) (M 22) lo (lo + 1) ((hi - 1) - lo))) lo (nI bn) := e22_115.trans hq119
          have hq121 : M101 3 = M 3 := fr101 3 (by omega)
          have hq122 : M103 3 = M 3 := (fr103 3 (by omega)).trans hq121
          have hq123 : M107 3 = M 3 := (fr107 3 (by omega)).trans hq122
          have hq124 : M108 3 = M 3 := (fr108 3 (by omega)).trans hq123
          have hq125 : M101 24 = M 24 := fr101 24 (by omega)
          have hq126 : M103 24 = va_cpy (M 24) (M 24) lo (lo + 1) ((hi - 1) - lo) := by rw [e24_103, hq125]
          have hq127 : M107 24 = upd ((va_cpy (M 24) (M 24) lo (lo + 1) ((hi - 1) - lo))) lo (-1) := by rw [e24_107, hq126]
          have hq128 : M108 24 = upd ((va_cpy (M 24) (M 24) lo (lo + 1) ((hi - 1) - lo))) lo (-1) := (fr108 24 (by omega)).trans hq127
          have hq129 : M101 25 = M 25 := fr101 25 (by omega)
          have hq130 : M103 25 = va_cpy (M 25) (M 25) lo (lo + 1) ((hi - 1) - lo) := by rw [e25_103, hq129]
          have hq131 : M107 25 = upd ((va_cpy (M 25) (M 25) lo (lo + 1) ((hi - 1) - lo))) lo (nI 0) := by rw [e25_107, hq130]
          have hq132 : M108 25 = upd ((va_cpy (M 25) (M 25) lo (lo + 1) ((hi - 1) - lo))) lo (nI 0) := (fr108 25 (by omega)).trans hq131
          have hq133 : M115 23 = (mixC (M 3) ((upd ((va_cpy (M 22) (M 22) lo (lo + 1) ((hi - 1) - lo))) lo (nI bn))) lo hi (hi - lo) (none, ((upd ((va_cpy (M 23) (M 23) lo (lo + 1) ((hi - 1) - lo))) lo (nI k)), (upd ((va_cpy (M 24) (M 24) lo (lo + 1) ((hi - 1) - lo))) lo (-1)), (upd ((va_cpy (M 25) (M 25) lo (lo + 1) ((hi - 1) - lo))) lo (nI 0))))).2.1 := by rw [e23_115, hq124, hq119, hq112, hq128, hq132]
          have hq134 : M115 24 = (mixC (M 3) ((upd ((va_cpy (M 22) (M 22) lo (lo + 1) ((hi - 1) - lo))) lo (nI bn))) lo hi (hi - lo) (none, ((upd ((va_cpy (M 23) (M 23) lo (lo + 1) ((hi - 1) - lo))) lo (nI k)), (upd ((va_cpy (M 24) (M 24) lo (lo + 1) ((hi - 1) - lo))) lo (-1)), (upd ((va_cpy (M 25) (M 25) lo (lo + 1) ((hi - 1) - lo))) lo (nI 0))))).2.2.1 := by rw [e24_115, hq124, hq119, hq112, hq128, hq132]
          have hq135 : M115 25 = (mixC (M 3) ((upd ((va_cpy (M 22) (M 22) lo (lo + 1) ((hi - 1) - lo))) lo (nI bn))) lo hi (hi - lo) (none, ((upd ((va_cpy (M 23) (M 23) lo (lo + 1) ((hi - 1) - lo))) lo (nI k)), (upd ((va_cpy (M 24) (M 24) lo (lo + 1) ((hi - 1) - lo))) lo (-1)), (upd ((va_cpy (M 25) (M 25) lo (lo + 1) ((hi - 1) - lo))) lo (nI 0))))).2.2.2 := by rw [e25_115, hq124, hq119, hq112, hq128, hq132]
          have hq136 : M103 27 = outAm (some t) (M 27) := (fr103 27 (by omega)).trans e27_101
          have hq137 : M107 27 = outAm (some t) (M 27) := (fr107 27 (by omega)).trans hq136
          have hq138 : M108 27 = upd ((outAm (some t) (M 27))) (a * 8 + k) ((outAm (some t) (M 27)) (a * 8 + k) - nI 1) := by rw [e27_108, hq137]
          have hq139 : M115 27 = upd ((outAm (some t) (M 27))) (a * 8 + k) ((outAm (some t) (M 27)) (a * 8 + k) - nI 1) := (fr115 27 (by omega)).trans hq138
          have hq140 : M103 28 = outFr (some t) (pureB (M 24) (hi - 1)) (M 28) := (fr103 28 (by omega)).trans e28_101
          have hq141 : M107 28 = outFr (some t) (pureB (M 24) (hi - 1)) (M 28) := (fr107 28 (by omega)).trans hq140
          have hq142 : M108 28 = upd ((outFr (some t) (pureB (M 24) (hi - 1)) (M 28))) (a * 8 + k) (if (outAm (some t) (M 27)) (a * 8 + k) - nI 1 < (outFr (some t) (pureB (M 24) (hi - 1)) (M 28)) (a * 8 + k) then (outAm (some t) (M 27)) (a * 8 + k) - nI 1 else (outFr (some t) (pureB (M 24) (hi - 1)) (M 28)) (a * 8 + k)) := by rw [e28_108, hq141, hq137]
          have hq143 : M115 28 = upd ((outFr (some t) (pureB (M 24) (hi - 1)) (M 28))) (a * 8 + k) (if (outAm (some t) (M 27)) (a * 8 + k) - nI 1 < (outFr (some t) (pureB (M 24) (hi - 1)) (M 28)) (a * 8 + k) then (outAm (some t) (M 27)) (a * 8 + k) - nI 1 else (outFr (some t) (pureB (M 24) (hi - 1)) (M 28)) (a * 8 + k)) := (fr115 28 (by omega)).trans hq142
          have hq144 : M103 29 = outAm (some t) (M 29) := (fr103 29 (by omega)).trans e29_101
          have hq145 : M107 29 = outAm (some t) (M 29) := (fr107 29 (by omega)).trans hq144
          have hq146 : M108 29 = outAm (some t) (M 29) := e29_108.trans hq145
          have hq147 : M115 29 = outAm (some t) (M 29) := (fr115 29 (by omega)).trans hq146
          have hq148 : M103 30 = outSl (some t) d (M 30) := (fr103 30 (by omega)).trans e30_101
          have hq149 : M107 30 = outSl (some t) d (M 30) := (fr107 30 (by omega)).trans hq148
          have hq150 : M108 30 = outSl (some t) d (M 30) := e30_108.trans hq149
          have hq151 : M115 30 = outSl (some t) d (M 30) := (fr115 30 (by omega)).trans hq150
          have hq152 : M103 31 = outWo (M 31) bm := (fr103 31 (by omega)).trans e31_101
          have hq153 : M107 31 = outWo (M 31) bm := (fr107 31 (by omega)).trans hq152
          have hq154 : M108 31 = outWo (M 31) bm := (fr108 31 (by omega)).trans hq153
          have hq155 : M115 31 = outWo (M 31) bm := (fr115 31 (by omega)).trans hq154
          have g2 : M115 22 = goR mfC M lo hi (a * 8 + k) d k bn (fun r => M (20 + r)) 2 := hq120
          have g3 : M115 23 = goR mfC M lo hi (a * 8 + k) d k bn (fun r => M (20 + r)) 3 := hq133
          have g4 : M115 24 = goR mfC M lo hi (a * 8 + k) d k bn (fun r => M (20 + r)) 4 := hq134
          have g5 : M115 25 = goR mfC M lo hi (a * 8 + k) d k bn (fun r => M (20 + r)) 5 := hq135
          have g7 : M115 27 = goR mfC M lo hi (a * 8 + k) d k bn (fun r => M (20 + r)) 7 := hq139.trans (by show _ = upd (outAm (sinkS M (fun r => M (20 + r)) d (hi - 1)) (M 27)) (a * 8 + k) (outAm (sinkS M (fun r => M (20 + r)) d (hi - 1)) (M 27) (a * 8 + k) - nI 1); rw [hsk])
          have g8 : M115 28 = goR mfC M lo hi (a * 8 + k) d k bn (fun r => M (20 + r)) 8 := hq143.trans (by show _ = upd (outFr (sinkS M (fun r => M (20 + r)) d (hi - 1)) (pureB (M 24) (hi - 1)) (M 28)) (a * 8 + k) (if outAm (sinkS M (fun r => M (20 + r)) d (hi - 1)) (M 27) (a * 8 + k) - nI 1 < outFr (sinkS M (fun r => M (20 + r)) d (hi - 1)) (pureB (M 24) (hi - 1)) (M 28) (a * 8 + k) then outAm (sinkS M (fun r => M (20 + r)) d (hi - 1)) (M 27) (a * 8 + k) - nI 1 else outFr (sinkS M (fun r => M (20 + r)) d (hi - 1)) (pureB (M 24) (hi - 1)) (M 28) (a * 8 + k)); rw [hsk])
          have g9 : M115 29 = goR mfC M lo hi (a * 8 + k) d k bn (fun r => M (20 + r)) 9 := hq147.trans (by show _ = outAm (sinkS M (fun r => M (20 + r)) d (hi - 1)) (M 29); rw [hsk])
          have g10 : M115 30 = goR mfC M lo hi (a * 8 + k) d k bn (fun r => M (20 + r)) 10 := hq151.trans (by show _ = outSl (sinkS M (fun r => M (20 + r)) d (hi - 1)) d (M 30); rw [hsk])
          have g11 : M115 31 = goR mfC M lo hi (a * 8 + k) d k bn (fun r => M (20 + r)) 11 := hq155.trans (by show _ = outWo (M 31) (tn (M 22 (hi - 1))); rw [hbm, tn_nI (by omega)])
          have hq156 : M101 2 = M 2 := fr101 2 (by omega)
          have hq157 : M103 2 = M 2 := (fr103 2 (by omega)).trans hq156
          have hq158 : M107 2 = M 2 := (fr107 2 (by omega)).trans hq157
          have hq159 : M108 2 = M 2 := (fr108 2 (by omega)).trans hq158
          have hq160 : M115 2 = M 2 := (fr115 2 (by omega)).trans hq159
          have hq161 : M101 21 = M 21 := fr101 21 (by omega)
          have hq162 : M103 21 = M 21 := e21_103.trans hq161
          have hq163 : M107 21 = M 21 := e21_107.trans hq162
          have hq164 : M108 21 = M 21 := (fr108 21 (by omega)).trans hq163
          have hq165 : M115 21 = M 21 := e21_115.trans hq164
          have hn5 : M115 21 0 = nI n := by rw [hq165]; exact hn
          have hz5 : Z01 (M115 2) 64 := by rw [hq160]; exact hz2
          have hk5 : Kin (M115 23) n := by rw [g3]; exact kin_go hv3 hk8 hlo hhi
          have e2x : M115 2 = M 2 := hq160
          refine lv_aload_n S.1 S.2.1 dX1_step_161 rfl (lv_at hl 3 rfl) ?_
          refine m_getR 20 3 21 S hw (by omega) rfl rfl rfl in_X1 (by decide) wf_X1_24 dX1_step_162 ?_
          refine lv_aload_n S.1 S.2.1 dX1_step_165 rfl (lv_at hl 4 rfl) ?_
          refine m_getI 17 3 S hw (by omega) rfl rfl rfl in_X3 (by decide) wf_X1_100 dX1_step_166 ?_
          have hq166 : M115 17 = M 17 := (fr115 17 (by omega)).trans hq114
          refine m_top (show M115 17 3 = M 17 3 from congrFun hq166 3) ?_
          refine m_top (show M 17 3 = nI lo from pl3) ?_
          refine lv_aload_n S.1 S.2.1 dX1_step_169 rfl (lv_at hl 6 rfl) ?_
          refine r_VI (As := [.int (nI lo), .ref (ad 1)]) (rest := []) 21 S hw (by omega) rfl rfl (c_X2_clashesAt l G N K ad M115 h34 20 (isM20 (by omega)) n hn5 hn1 hk5 hz5 lo (by omega)) mf_X2_clashesAt wm_X1_120 ⟨by decide, by decide⟩ ⟨Nat.le_refl _, Nat.le_refl _⟩ hl.1 rfl (Nat.le_of_ble_eq_true rfl) dX1_step_170 (fun H locs hw => ?_)
          refine b_ne (tgt := 189) S dX1_step_173 (by decide) (fun c167 => ?_) (fun c167 => ?_)
          · refine lv_iconst (v := nI 1) S.1 S.2.1 dX1_step_189 (by decide) ?_
            refine lv_goto (tgt := 194) S.1 S.2.1 dX1_step_190 (by decide) ?_
            refine lv_istore (lv' := [(7, .int (nI 1)), (6, .int (nI t)), (5, .int (nI (hi - 1))), (4, .int (nI (a * 8 + k))), (0, .ref (ad 20)), (1, .ref (ad 17)), (2, .ref (ad 6)), (3, .ref (ad 1))]) S.1 S.2.1 dX1_step_194 hl (by decide) rfl (fun ls hl => ?_)
            refine lv_iload S.1 S.2.1 dX1_step_196 (lv_at hl 0 rfl) ?_
            refine lv_if_eq (tgt := 205) S.1 S.2.1 dX1_step_198 (by decide) (fun c168 => absurd c168 (by decide)) (fun c168 => ?_)
            refine lv_iconst (v := nI 3) S.1 S.2.1 dX1_step_201 (by decide) ?_
            refine lv_goto (tgt := 206) S.1 S.2.1 dX1_step_202 (by decide) ?_
            have hq169 : M107 20 = M 20 := (fr107 20 (by omega)).trans hq106
            have hq170 : M108 20 = M 20 := (fr108 20 (by omega)).trans hq169
            have hq171 : M115 20 = M 20 := (fr115 20 (by omega)).trans hq170
            have hq172 : M101 32 = M 32 := fr101 32 (by omega)
            have hq173 : M103 32 = M 32 := (fr103 32 (by omega)).trans hq172
            have hq174 : M107 32 = M 32 := (fr107 32 (by omega)).trans hq173
            have hq175 : M108 32 = M 32 := (fr108 32 (by omega)).trans hq174
            have hq176 : M115 32 = M 32 := (fr115 32 (by omega)).trans hq175
            have hF : stepS mfC M lo hi (a * 8 + k) d k bn n (fun r => M (20 + r)) = _ := st_go hdry hfull
            have hwr : wrongB M (goR mfC M lo hi (a * 8 + k) d k bn (fun r => M (20 + r))) n lo hi = true := by rw [wrongB, ← g3, ← g4, ← e2x, c167]; rfl
            rw [hwr] at hF
            exact m_reti S hr hlocks hw dX1_step_206 ⟨by rw [hF]; rfl, (fun h => by rw [hF] at h; cases h), hq171, hq165, hq176, (Fr.tr (Fr.tr (Fr.tr (Fr.tr (Fr.tr Fr.rf fr101 (by omega) (by omega)) fr103 (by omega) (by omega)) fr107 (by omega) (by omega)) fr108 (by omega) (by omega)) fr115 (by omega) (by omega))⟩
          · refine lv_aload_n S.1 S.2.1 dX1_step_176 rfl (lv_at hl 3 rfl) ?_
            refine m_getR 20 3 21 S hw (by omega) rfl rfl rfl in_X1 (by decide) wf_X1_24 dX1_step_177 ?_
            refine lv_iload S.1 S.2.1 dX1_step_180 (lv_at hl 1 rfl) ?_
            refine lv_aload_n S.1 S.2.1 dX1_step_182 rfl (lv_at hl 6 rfl) ?_
            refine r_VI (As := [.int (nI (hi - 1)), .ref (ad 1)]) (rest := []) 21 S hw (by omega) rfl rfl (c_X2_clashesAt l G N K ad M115 h34 20 (isM20 (by omega)) n hn5 hn1 hk5 hz5 (hi - 1) (by omega)) mf_X2_clashesAt wm_X1_120 ⟨by decide, by decide⟩ ⟨Nat.le_refl _, Nat.le_refl _⟩ hl.1 rfl (Nat.le_of_ble_eq_true rfl) dX1_step_183 (fun H locs hw => ?_)
            refine b_eq (tgt := 193) S dX1_step_186 (by decide) (fun c177 => ?_) (fun c177 => ?_)
            · refine lv_iconst (v := nI 0) S.1 S.2.1 dX1_step_193 (by decide) ?_
              refine lv_istore (lv' := [(7, .int (nI 0)), (6, .int (nI t)), (5, .int (nI (hi - 1))), (4, .int (nI (a * 8 + k))), (0, .ref (ad 20)), (1, .ref (ad 17)), (2, .ref (ad 6)), (3, .ref (ad 1))]) S.1 S.2.1 dX1_step_194 hl (by decide) rfl (fun ls hl => ?_)
              refine lv_iload S.1 S.2.1 dX1_step_196 (lv_at hl 0 rfl) ?_
              refine lv_if_eq (tgt := 205) S.1 S.2.1 dX1_step_198 (by decide) (fun c178 => ?_) (fun c178 => absurd c178 (by decide))
              refine lv_iconst (v := nI 0) S.1 S.2.1 dX1_step_205 (by decide) ?_
              have hq179 : M107 20 = M 20 := (fr107 20 (by omega)).trans hq106
              have hq180 : M108 20 = M 20 := (fr108 20 (by omega)).trans hq179
              have hq181 : M115 20 = M 20 := (fr115 20 (by omega)).trans hq180
              have hq182 : M101 32 = M 32 := fr101 32 (by omega)
              have hq183 : M103 32 = M 32 := (fr103 32 (by omega)).trans hq182
              have hq184 : M107 32 = M 32 := (fr107 32 (by omega)).trans hq183
              have hq185 : M108 32 = M 32 := (fr108 32 (by omega)).trans hq184
              have hq186 : M115 32 = M 32 := (fr115 32 (by omega)).trans hq185
              have hF : stepS mfC M lo hi (a * 8 + k) d k bn n (fun r => M (20 + r)) = _ := st_go hdry hfull
              have hwr : wrongB M (goR mfC M lo hi (a * 8 + k) d k bn (fun r => M (20 + r))) n lo hi = false := by rw [wrongB, ← g3, ← g4, ← e2x, c167, c177]; rfl
              rw [hwr] at hF
              have hrow : ∀ r, 2 ≤ r → r ≤ 11 → r ≠ 6 → M115 (20 + r) = (goR mfC M lo hi (a * 8 + k) d k bn (fun r => M (20 + r))) r := by
                intro r h1 h2 h3
                rcases (show r = 2 ∨ r = 3 ∨ r = 4 ∨ r = 5 ∨ r = 7 ∨ r = 8 ∨ r = 9 ∨ r = 10 ∨ r = 11 by omega) with rfl | rfl | rfl | rfl | rfl | rfl | rfl | rfl | rfl
                · exact g2
                · exact g3
                · exact g4
                · exact g5
                · exact g7
                · exact g8
                · exact g9
                · exact g10
                · exact g11
              exact m_reti S hr hlocks hw dX1_step_206 ⟨by rw [hF]; rfl, fun _ => by rw [hF]; exact hrow, hq181, hq165, hq186, (Fr.tr (Fr.tr (Fr.tr (Fr.tr (Fr.tr Fr.rf fr101 (by omega) (by omega)) fr103 (by omega) (by omega)) fr107 (by omega) (by omega)) fr108 (by omega) (by omega)) fr115 (by omega) (by omega))⟩
            · refine lv_iconst (v := nI 1) S.1 S.2.1 dX1_step_189 (by decide) ?_
              refine lv_goto (tgt := 194) S.1 S.2.1 dX1_step_190 (by decide) ?_
              refine lv_istore (lv' := [(7, .int (nI 1)), (6, .int (nI t)), (5, .int (nI (hi - 1))), (4, .int (nI (a * 8 + k))), (0, .ref (ad 20)), (1, .ref (ad 17)), (2, .ref (ad 6)), (3, .ref (ad 1))]) S.1 S.2.1 dX1_step_194 hl (by decide) rfl (fun ls hl => ?_)
              refine lv_iload S.1 S.2.1 dX1_step_196 (lv_at hl 0 rfl) ?_
              refine lv_if_eq (tgt := 205) S.1 S.2.1 dX1_step_198 (by decide) (fun c187 => absurd c187 (by decide)) (fun c187 => ?_)
              refine lv_iconst (v := nI 3) S.1 S.2.1 dX1_step_201 (by decide) ?_
              refine lv_goto (tgt := 206) S.1 S.2.1 dX1_step_202 (by decide) ?_
              have hq188 : M107 20 = M 20 := (fr107 20 (by omega)).trans hq106
              have hq189 : M108 20 = M 20 := (fr108 20 (by omega)).trans hq188
              have hq190 : M115 20 = M 20 := (fr115 20 (by omega)).trans hq189
              have hq191 : M101 32 = M 32 := fr101 32 (by omega)
              have hq192 : M103 32 = M 32 := (fr103 32 (by omega)).trans hq191
              have hq193 : M107 32 = M 32 := (fr107 32 (by omega)).trans hq192
              have hq194 : M108 32 = M 32 := (fr108 32 (by omega)).trans hq193
              have hq195 : M115 32 = M 32 := (fr115 32 (by omega)).trans hq194
              have hF : stepS mfC M lo hi (a * 8 + k) d k bn n (fun r => M (20 + r)) = _ := st_go hdry hfull
              have hwr : wrongB M (goR mfC M lo hi (a * 8 + k) d k bn (fun r => M (20 + r))) n lo hi = true := by rw [wrongB, ← g3, ← g4, ← e2x, c167, c177]; rfl
              rw [hwr] at hF
              exact m_reti S hr hlocks hw dX1_step_206 ⟨by rw [hF]; rfl, (fun h => by rw [hF] at h; cases h), hq190, hq165, hq195, (Fr.tr (Fr.tr (Fr.tr (Fr.tr (Fr.tr Fr.rf fr101 (by omega) (by omega)) fr103 (by omega) (by omega)) fr107 (by omega) (by omega)) fr108 (by omega) (by omega)) fr115 (by omega) (by omega))⟩
        · refine lv_iconst (v := nI 2) S.1 S.2.1 dX1_step_90 (by decide) ?_
          have hF : stepS mfC M lo hi (a * 8 + k) d k bn n (fun r => M (20 + r)) = _ := st_full (R := (fun r => M (20 + r))) (dry_n c1 c2) (by rw [hsk]; exact full_y c100)
          exact m_reti S hr hlocks hw dX1_step_91 ⟨by rw [hF], (fun h => by rw [hF] at h; cases h), rfl, rfl, rfl, Fr.rf⟩
    · refine lv_iconst (v := nI 1) S.1 S.2.1 dX1_step_38 (by decide) ?_
      have hF : stepS mfC M lo hi (a * 8 + k) d k bn n (fun r => M (20 + r)) = _ := st_dry (R := (fun r => M (20 + r))) (dry_2 c2)
      exact m_reti S hr hlocks hw dX1_step_39 ⟨by rw [hF], (fun h => by rw [hF] at h; cases h), rfl, rfl, rfl, Fr.rf⟩
