set_option maxHeartbeats 4000000 in
set_option maxRecDepth 100000 in
theorem c_X2_init (l : Launch) (G : GT) (N : Nat) (ad : Nat → Nat) (C : Nat → va_E) (h : Nat) (hh : h < N) (hC : C h = .inr (2, [.int 0, .null, .null, .null, .null])) : CgV l G yX2_init cX2_init 1 1 20 4 480 [.ref (ad h)] (N, ad, C) (fun u => u.1 = (N + 4) ∧ (∀ i, i < N → u.2.1 i = ad i) ∧ (∀ i, i < N → i ≠ h → u.2.2 i = C i) ∧ u.2.2 h = .inr (2, [.int (nI 0), .ref (u.2.1 N), .ref (u.2.1 (N + 1)), .ref (u.2.1 (N + 2)), .ref (u.2.1 (N + 3))]) ∧ u.2.2 N = .inl (G.2.2.1, 120, .inl (fun _ => 0)) ∧ u.2.2 (N + 1) = .inl (G.2.2.1, 120, .inl (fun _ => 0)) ∧ u.2.2 (N + 2) = .inl (G.2.2.1, 120, .inl (fun _ => 0)) ∧ u.2.2 (N + 3) = .inl (G.2.2.1, 120, .inl (fun _ => 0))) := by
  refine cg_startV (by decide +kernel) (Nat.le_of_ble_eq_true rfl) ?_
  intro p e s m below meth c ls S hr hlocks hini hw hl
  have hini : meth.name = "<init>" := hini
  have hw : Wg G N ad C s s.heap [] := hw
  have hl : lv_has ls 1 [(0, .ref (ad h))] := hl
  refine lv_aload_n S.1 S.2.1 dX2_init_0 rfl (lv_at hl 0 rfl) ?_
  refine x_oi S wm_X2_3 hl.1 dX2_init_1 (by decide) (by decide) ?_
  refine lv_aload_n S.1 S.2.1 dX2_init_4 rfl (lv_at hl 0 rfl) ?_
  refine lv_iconst (v := nI 0) S.1 S.2.1 dX2_init_5 (by decide) ?_
  refine x_put (fs' := [.int (nI 0), .null, .null, .null, .null]) S hw h rfl (by omega) hC rfl in_X2 tyX2_ok nmX2 0 (by decide) wf_X2_9 rfl rfl rfl (by show 0 < 5; decide) rfl dX2_init_6 (fun C1 H locs eC1 hw => ?_)
  have hC1_h : C1 h = .inr (2, [.int (nI 0), .null, .null, .null, .null]) := by rw [eC1]; exact va_up_self _ _ _
  have hfC1 : ∀ i, i < N → i ≠ h → C1 i = C i := fun i hi hne => by rw [eC1, va_up_ne _ _ (by omega)]
  refine lv_aload_n S.1 S.2.1 dX2_init_9 rfl (lv_at hl 0 rfl) ?_
  refine lv_bipush (v := nI 120) S.1 S.2.1 dX2_init_10 (by decide) ?_
  refine x_newI (N' := 120) S hw (by decide) (by decide) (by decide) (by decide) (by decide) rfl dX2_init_12 (fun q2 ad2 C2 H ead2 eC2 hw => ?_)
  have hC2_h : C2 h = .inr (2, [.int (nI 0), .null, .null, .null, .null]) := by rw [eC2, va_up_ne _ _ (by omega)]; exact hC1_h
  have hC2_0 : C2 N = .inl (G.2.2.1, 120, .inl (fun _ => 0)) := by rw [eC2]; exact va_up_self _ _ _
  have hfC2 : ∀ i, i < N → i ≠ h → C2 i = C i := fun i hi hne => by rw [eC2, va_up_ne _ _ (by omega)]; exact hfC1 i hi hne
  have ha2_h : ad2 h = (ad h) := by rw [ead2, va_up_ne _ _ (by omega)]
  have ha2_0 : ad2 N = q2 := by rw [ead2]; exact va_up_self _ _ _
  have hfa2 : ∀ i, i < N → ad2 i = ad i := fun i hi => by rw [ead2, va_up_ne _ _ (by omega)]
  refine x_putF (fs' := [.int (nI 0), .ref q2, .null, .null, .null]) S hw h ha2_h (by omega) hC2_h rfl in_X2 tyX2_ok nmX2 1 (by decide) wf_X2_15 rfl hini rfl rfl rfl (by show 1 < 5; decide) rfl dX2_init_14 (fun C3 H locs eC3 hw => ?_)
  have hC3_h : C3 h = .inr (2, [.int (nI 0), .ref q2, .null, .null, .null]) := by rw [eC3]; exact va_up_self _ _ _
  have hC3_0 : C3 N = .inl (G.2.2.1, 120, .inl (fun _ => 0)) := by rw [eC3, va_up_ne _ _ (by omega)]; exact hC2_0
  have hfC3 : ∀ i, i < N → i ≠ h → C3 i = C i := fun i hi hne => by rw [eC3, va_up_ne _ _ (by omega)]; exact hfC2 i hi hne
  refine lv_aload_n S.1 S.2.1 dX2_init_17 rfl (lv_at hl 0 rfl) ?_
  refine lv_bipush (v := nI 120) S.1 S.2.1 dX2_init_18 (by decide) ?_
  refine x_newI (N' := 120) S hw (by decide) (by decide) (by decide) (by decide) (by decide) rfl dX2_init_20 (fun q4 ad4 C4 H ead4 eC4 hw => ?_)
  have hC4_h : C4 h = .inr (2, [.int (nI 0), .ref q2, .null, .null, .null]) := by rw [eC4, va_up_ne _ _ (by omega)]; exact hC3_h
  have hC4_0 : C4 N = .inl (G.2.2.1, 120, .inl (fun _ => 0)) := by rw [eC4, va_up_ne _ _ (by omega)]; exact hC3_0
  have hC4_1 : C4 (N + 1) = .inl (G.2.2.1, 120, .inl (fun _ => 0)) := by rw [eC4]; exact va_up_self _ _ _
  have hfC4 : ∀ i, i < N → i ≠ h → C4 i = C i := fun i hi hne => by rw [eC4, va_up_ne _ _ (by omega)]; exact hfC3 i hi hne
  have ha4_h : ad4 h = (ad h) := by rw [ead4, va_up_ne _ _ (by omega)]; exact ha2_h
  have ha4_0 : ad4 N = q2 := by rw [ead4, va_up_ne _ _ (by omega)]; exact ha2_0
  have ha4_1 : ad4 (N + 1) = q4 := by rw [ead4]; exact va_up_self _ _ _
  have hfa4 : ∀ i, i < N → ad4 i = ad i := fun i hi => by rw [ead4, va_up_ne _ _ (by omega)]; exact hfa2 i hi
  refine x_putF (fs' := [.int (nI 0), .ref q2, .ref q4, .null, .null]) S hw h ha4_h (by omega) hC4_h rfl in_X2 tyX2_ok nmX2 2 (by decide) wf_X2_19 rfl hini rfl rfl rfl (by show 2 < 5; decide) rfl dX2_init_22 (fun C5 H locs eC5 hw => ?_)
  have hC5_h : C5 h = .inr (2, [.int (nI 0), .ref q2, .ref q4, .null, .null]) := by rw [eC5]; exact va_up_self _ _ _
  have hC5_0 : C5 N = .inl (G.2.2.1, 120, .inl (fun _ => 0)) := by rw [eC5, va_up_ne _ _ (by omega)]; exact hC4_0
  have hC5_1 : C5 (N + 1) = .inl (G.2.2.1, 120, .inl (fun _ => 0)) := by rw [eC5, va_up_ne _ _ (by omega)]; exact hC4_1
  have hfC5 : ∀ i, i < N → i ≠ h → C5 i = C i := fun i hi hne => by rw [eC5, va_up_ne _ _ (by omega)]; exact hfC4 i hi hne
  refine lv_aload_n S.1 S.2.1 dX2_init_25 rfl (lv_at hl 0 rfl) ?_
  refine lv_bipush (v := nI 120) S.1 S.2.1 dX2_init_26 (by decide) ?_
  refine x_newI (N' := 120) S hw (by decide) (by decide) (by decide) (by decide) (by decide) rfl dX2_init_28 (fun q6 ad6 C6 H ead6 eC6 hw => ?_)
  have hC6_h : C6 h = .inr (2, [.int (nI 0), .ref q2, .ref q4, .null, .null]) := by rw [eC6, va_up_ne _ _ (by omega)]; exact hC5_h
  have hC6_0 : C6 N = .inl (G.2.2.1, 120, .inl (fun _ => 0)) := by rw [eC6, va_up_ne _ _ (by omega)]; exact hC5_0
  have hC6_1 : C6 (N + 1) = .inl (G.2.2.1, 120, .inl (fun _ => 0)) := by rw [eC6, va_up_ne _ _ (by omega)]; exact hC5_1
  have hC6_2 : C6 (N + 2) = .inl (G.2.2.1, 120, .inl (fun _ => 0)) := by rw [eC6]; exact va_up_self _ _ _
  have hfC6 : ∀ i, i < N → i ≠ h → C6 i = C i := fun i hi hne => by rw [eC6, va_up_ne _ _ (by omega)]; exact hfC5 i hi hne
  have ha6_h : ad6 h = (ad h) := by rw [ead6, va_up_ne _ _ (by omega)]; exact ha4_h
  have ha6_0 : ad6 N = q2 := by rw [ead6, va_up_ne _ _ (by omega)]; exact ha4_0
  have ha6_1 : ad6 (N + 1) = q4 := by rw [ead6, va_up_ne _ _ (by omega)]; exact ha4_1
  have ha6_2 : ad6 (N + 2) = q6 := by rw [ead6]; exact va_up_self _ _ _
  have hfa6 : ∀ i, i < N → ad6 i = ad i := fun i hi => by rw [ead6, va_up_ne _ _ (by omega)]; exact hfa4 i hi
  refine x_putF (fs' := [.int (nI 0), .ref q2, .ref q4, .ref q6, .null]) S hw h ha6_h (by omega) hC6_h rfl in_X2 tyX2_ok nmX2 3 (by decide) wf_X2_22 rfl hini rfl rfl rfl (by show 3 < 5; decide) rfl dX2_init_30 (fun C7 H locs eC7 hw => ?_)
  have hC7_h : C7 h = .inr (2, [.int (nI 0), .ref q2, .ref q4, .ref q6, .null]) := by rw [eC7]; exact va_up_self _ _ _
  have hC7_0 : C7 N = .inl (G.2.2.1, 120, .inl (fun _ => 0)) := by rw [eC7, va_up_ne _ _ (by omega)]; exact hC6_0
  have hC7_1 : C7 (N + 1) = .inl (G.2.2.1, 120, .inl (fun _ => 0)) := by rw [eC7, va_up_ne _ _ (by omega)]; exact hC6_1
  have hC7_2 : C7 (N + 2) = .inl (G.2.2.1, 120, .inl (fun _ => 0)) := by rw [eC7, va_up_ne _ _ (by omega)]; exact hC6_2
  have hfC7 : ∀ i, i < N → i ≠ h → C7 i = C i := fun i hi hne => by rw [eC7, va_up_ne _ _ (by omega)]; exact hfC6 i hi hne
  refine lv_aload_n S.1 S.2.1 dX2_init_33 rfl (lv_at hl 0 rfl) ?_
  refine lv_bipush (v := nI 120) S.1 S.2.1 dX2_init_34 (by decide) ?_
  refine x_newI (N' := 120) S hw (by decide) (by decide) (by decide) (by decide) (by decide) rfl dX2_init_36 (fun q8 ad8 C8 H ead8 eC8 hw => ?_)
  have hC8_h : C8 h = .inr (2, [.int (nI 0), .ref q2, .ref q4, .ref q6, .null]) := by rw [eC8, va_up_ne _ _ (by omega)]; exact hC7_h
  have hC8_0 : C8 N = .inl (G.2.2.1, 120, .inl (fun _ => 0)) := by rw [eC8, va_up_ne _ _ (by omega)]; exact hC7_0
  have hC8_1 : C8 (N + 1) = .inl (G.2.2.1, 120, .inl (fun _ => 0)) := by rw [eC8, va_up_ne _ _ (by omega)]; exact hC7_1
  have hC8_2 : C8 (N + 2) = .inl (G.2.2.1, 120, .inl (fun _ => 0)) := by rw [eC8, va_up_ne _ _ (by omega)]; exact hC7_2
  have hC8_3 : C8 (N + 3) = .inl (G.2.2.1, 120, .inl (fun _ => 0)) := by rw [eC8]; exact va_up_self _ _ _
  have hfC8 : ∀ i, i < N → i ≠ h → C8 i = C i := fun i hi hne => by rw [eC8, va_up_ne _ _ (by omega)]; exact hfC7 i hi hne
  have ha8_h : ad8 h = (ad h) := by rw [ead8, va_up_ne _ _ (by omega)]; exact ha6_h
  have ha8_0 : ad8 N = q2 := by rw [ead8, va_up_ne _ _ (by omega)]; exact ha6_0
  have ha8_1 : ad8 (N + 1) = q4 := by rw [ead8, va_up_ne _ _ (by omega)]; exact ha6_1
  have ha8_2 : ad8 (N + 2) = q6 := by rw [ead8, va_up_ne _ _ (by omega)]; exact ha6_2
  have ha8_3 : ad8 (N + 3) = q8 := by rw [ead8]; exact va_up_self _ _ _
  have hfa8 : ∀ i, i < N → ad8 i = ad i := fun i hi => by rw [ead8, va_up_ne _ _ (by omega)]; exact hfa6 i hi
  refine x_putF (fs' := [.int (nI 0), .ref q2, .ref q4, .ref q6, .ref q8]) S hw h ha8_h (by omega) hC8_h rfl in_X2 tyX2_ok nmX2 4 (by decide) wf_X2_25 rfl hini rfl rfl rfl (by show 4 < 5; decide) rfl dX2_init_38 (fun C9 H locs eC9 hw => ?_)
  have hC9_h : C9 h = .inr (2, [.int (nI 0), .ref q2, .ref q4, .ref q6, .ref q8]) := by rw [eC9]; exact va_up_self _ _ _
  have hC9_0 : C9 N = .inl (G.2.2.1, 120, .inl (fun _ => 0)) := by rw [eC9, va_up_ne _ _ (by omega)]; exact hC8_0
  have hC9_1 : C9 (N + 1) = .inl (G.2.2.1, 120, .inl (fun _ => 0)) := by rw [eC9, va_up_ne _ _ (by omega)]; exact hC8_1
  have hC9_2 : C9 (N + 2) = .inl (G.2.2.1, 120, .inl (fun _ => 0)) := by rw [eC9, va_up_ne _ _ (by omega)]; exact hC8_2
  have hC9_3 : C9 (N + 3) = .inl (G.2.2.1, 120, .inl (fun _ => 0)) := by rw [eC9, va_up_ne _ _ (by omega)]; exact hC8_3
  have hfC9 : ∀ i, i < N → i ≠ h → C9 i = C i := fun i hi hne => by rw [eC9, va_up_ne _ _ (by omega)]; exact hfC8 i hi hne
  exact g_retv S hr hlocks hw ⟨rfl, hfa8, hfC9, by simp only [ha8_0, ha8_1, ha8_2, ha8_3]; exact hC9_h, by exact hC9_0, by exact hC9_1, by exact hC9_2, by exact hC9_3⟩ dX2_init_41

set_option maxHeartbeats 4000000 in
set_option maxRecDepth 100000 in
theorem c_X4_init (l : Launch) (G : GT) (N : Nat) (ad : Nat → Nat) (C : Nat → va_E) (h : Nat) (hh : h < N) (hC : C h = .inr (4, [.null, .null, .null, .null])) : CgV l G yX4_init cX4_init 1 1 20 4 150 [.ref (ad h)] (N, ad, C) (fun u => u.1 = (N + 4) ∧ (∀ i, i < N → u.2.1 i = ad i) ∧ (∀ i, i < N → i ≠ h → u.2.2 i = C i) ∧ u.2.2 h = .inr (4, [.ref (u.2.1 N), .ref (u.2.1 (N + 1)), .ref (u.2.1 (N + 2)), .ref (u.2.1 (N + 3))]) ∧ u.2.2 N = .inl (G.2.2.1, 48, .inl (fun _ => 0)) ∧ u.2.2 (N + 1) = .inl (G.2.2.1, 48, .inl (fun _ => 0)) ∧ u.2.2 (N + 2) = .inl (G.2.2.1, 48, .inl (fun _ => 0)) ∧ u.2.2 (N + 3) = .inl (G.2.2.1, 6, .inl (fun _ => 0))) := by
  refine cg_startV (by decide +kernel) (Nat.le_of_ble_eq_true rfl) ?_
  intro p e s m below meth c ls S hr hlocks hini hw hl
  have hini : meth.name = "<init>" := hini
  have hw : Wg G N ad C s s.heap [] := hw
  have hl : lv_has ls 1 [(0, .ref (ad h))] := hl
  refine lv_aload_n S.1 S.2.1 dX4_init_0 rfl (lv_at hl 0 rfl) ?_
  refine x_oi S wm_X4_3 hl.1 dX4_init_1 (by decide) (by decide) ?_
  refine lv_aload_n S.1 S.2.1 dX4_init_4 rfl (lv_at hl 0 rfl) ?_
  refine lv_bipush (v := nI 48) S.1 S.2.1 dX4_init_5 (by decide) ?_
  refine x_newI (N' := 48) S hw (by decide) (by decide) (by decide) (by decide) (by decide) rfl dX4_init_7 (fun q1 ad1 C1 H ead1 eC1 hw => ?_)
  have hC1_h : C1 h = .inr (4, [.null, .null, .null, .null]) := by rw [eC1, va_up_ne _ _ (by omega)]; exact hC
  have hC1_0 : C1 N = .inl (G.2.2.1, 48, .inl (fun _ => 0)) := by rw [eC1]; exact va_up_self _ _ _
  have hfC1 : ∀ i, i < N → i ≠ h → C1 i = C i := fun i hi hne => by rw [eC1, va_up_ne _ _ (by omega)]
  have ha1_h : ad1 h = (ad h) := by rw [ead1, va_up_ne _ _ (by omega)]
  have ha1_0 : ad1 N = q1 := by rw [ead1]; exact va_up_self _ _ _
  have hfa1 : ∀ i, i < N → ad1 i = ad i := fun i hi => by rw [ead1, va_up_ne _ _ (by omega)]
  refine x_putF (fs' := [.ref q1, .null, .null, .null]) S hw h ha1_h (by omega) hC1_h rfl in_X4 tyX4_ok nmX4 0 (by decide) wf_X4_9 rfl hini rfl rfl rfl (by show 0 < 4; decide) rfl dX4_init_9 (fun C2 H locs eC2 hw => ?_)
  have hC2_h : C2 h = .inr (4, [.ref q1, .null, .null, .null]) := by rw [eC2]; exact va_up_self _ _ _
  have hC2_0 : C2 N = .inl (G.2.2.1, 48, .inl (fun _ => 0)) := by rw [eC2, va_up_ne _ _ (by omega)]; exact hC1_0
  have hfC2 : ∀ i, i < N → i ≠ h → C2 i = C i := fun i hi hne => by rw [eC2, va_up_ne _ _ (by omega)]; exact hfC1 i hi hne
  refine lv_aload_n S.1 S.2.1 dX4_init_12 rfl (lv_at hl 0 rfl) ?_
  refine lv_bipush (v := nI 48) S.1 S.2.1 dX4_init_13 (by decide) ?_
  refine x_newI (N' := 48) S hw (by decide) (by decide) (by decide) (by decide) (by decide) rfl dX4_init_15 (fun q3 ad3 C3 H ead3 eC3 hw => ?_)
  have hC3_h : C3 h = .inr (4, [.ref q1, .null, .null, .null]) := by rw [eC3, va_up_ne _ _ (by omega)]; exact hC2_h
  have hC3_0 : C3 N = .inl (G.2.2.1, 48, .inl (fun _ => 0)) := by rw [eC3, va_up_ne _ _ (by omega)]; exact hC2_0
  have hC3_1 : C3 (N + 1) = .inl (G.2.2.1, 48, .inl (fun _ => 0)) := by rw [eC3]; exact va_up_self _ _ _
  have hfC3 : ∀ i, i < N → i ≠ h → C3 i = C i := fun i hi hne => by rw [eC3, va_up_ne _ _ (by omega)]; exact hfC2 i hi hne
  have ha3_h : ad3 h = (ad h) := by rw [ead3, va_up_ne _ _ (by omega)]; exact ha1_h
  have ha3_0 : ad3 N = q1 := by rw [ead3, va_up_ne _ _ (by omega)]; exact ha1_0
  have ha3_1 : ad3 (N + 1) = q3 := by rw [ead3]; exact va_up_self _ _ _
  have hfa3 : ∀ i, i < N → ad3 i = ad i := fun i hi => by rw [ead3, va_up_ne _ _ (by omega)]; exact hfa1 i hi
  refine x_putF (fs' := [.ref q1, .ref q3, .null, .null]) S hw h ha3_h (by omega) hC3_h rfl in_X4 tyX4_ok nmX4 1 (by decide) wf_X4_15 rfl hini rfl rfl rfl (by show 1 < 4; decide) rfl dX4_init_17 (fun C4 H locs eC4 hw => ?_)
  have hC4_h : C4 h = .inr (4, [.ref q1, .ref q3, .null, .null]) := by rw [eC4]; exact va_up_self _ _ _
  have hC4_0 : C4 N = .inl (G.2.2.1, 48, .inl (fun _ => 0)) := by rw [eC4, va_up_ne _ _ (by omega)]; exact hC3_0
  have hC4_1 : C4 (N + 1) = .inl (G.2.2.1, 48, .inl (fun _ => 0)) := by rw [eC4, va_up_ne _ _ (by omega)]; exact hC3_1
  have hfC4 : ∀ i, i < N → i ≠ h → C4 i = C i := fun i hi hne => by rw [eC4, va_up_ne _ _ (by omega)]; exact hfC3 i hi hne
  refine lv_aload_n S.1 S.2.1 dX4_init_20 rfl (lv_at hl 0 rfl) ?_
  refine lv_bipush (v := nI 48) S.1 S.2.1 dX4_init_21 (by decide) ?_
  refine x_newI (N' := 48) S hw (by decide) (by decide) (by decide) (by decide) (by decide) rfl dX4_init_23 (fun q5 ad5 C5 H ead5 eC5 hw => ?_)
  have hC5_h : C5 h = .inr (4, [.ref q1, .ref q3, .null, .null]) := by rw [eC5, va_up_ne _ _ (by omega)]; exact hC4_h
  have hC5_0 : C5 N = .inl (G.2.2.1, 48, .inl (fun _ => 0)) := by rw [eC5, va_up_ne _ _ (by omega)]; exact hC4_0
  have hC5_1 : C5 (N + 1) = .inl (G.2.2.1, 48, .inl (fun _ => 0)) := by rw [eC5, va_up_ne _ _ (by omega)]; exact hC4_1
  have hC5_2 : C5 (N + 2) = .inl (G.2.2.1, 48, .inl (fun _ => 0)) := by rw [eC5]; exact va_up_self _ _ _
  have hfC5 : ∀ i, i < N → i ≠ h → C5 i = C i := fun i hi hne => by rw [eC5, va_up_ne _ _ (by omega)]; exact hfC4 i hi hne
  have ha5_h : ad5 h = (ad h) := by rw [ead5, va_up_ne _ _ (by omega)]; exact ha3_h
  have ha5_0 : ad5 N = q1 := by rw [ead5, va_up_ne _ _ (by omega)]; exact ha3_0
  have ha5_1 : ad5 (N + 1) = q3 := by rw [ead5, va_up_ne _ _ (by omega)]; exact ha3_1
  have ha5_2 : ad5 (N + 2) = q5 := by rw [ead5]; exact va_up_self _ _ _
  have hfa5 : ∀ i, i < N → ad5 i = ad i := fun i hi => by rw [ead5, va_up_ne _ _ (by omega)]; exact hfa3 i hi
  refine x_putF (fs' := [.ref q1, .ref q3, .ref q5, .null]) S hw h ha5_h (by omega) hC5_h rfl in_X4 tyX4_ok nmX4 2 (by decide) wf_X4_18 rfl hini rfl rfl rfl (by show 2 < 4; decide) rfl dX4_init_25 (fun C6 H locs eC6 hw => ?_)
  have hC6_h : C6 h = .inr (4, [.ref q1, .ref q3, .ref q5, .null]) := by rw [eC6]; exact va_up_self _ _ _
  have hC6_0 : C6 N = .inl (G.2.2.1, 48, .inl (fun _ => 0)) := by rw [eC6, va_up_ne _ _ (by omega)]; exact hC5_0
  have hC6_1 : C6 (N + 1) = .inl (G.2.2.1, 48, .inl (fun _ => 0)) := by rw [eC6, va_up_ne _ _ (by omega)]; exact hC5_1
  have hC6_2 : C6 (N + 2) = .inl (G.2.2.1, 48, .inl (fun _ => 0)) := by rw [eC6, va_up_ne _ _ (by omega)]; exact hC5_2
  have hfC6 : ∀ i, i < N → i ≠ h → C6 i = C i := fun i hi hne => by rw [eC6, va_up_ne _ _ (by omega)]; exact hfC5 i hi hne
  refine lv_aload_n S.1 S.2.1 dX4_init_28 rfl (lv_at hl 0 rfl) ?_
  refine lv_bipush (v := nI 6) S.1 S.2.1 dX4_init_29 (by decide) ?_
  refine x_newI (N' := 6) S hw (by decide) (by decide) (by decide) (by decide) (by decide) rfl dX4_init_31 (fun q7 ad7 C7 H ead7 eC7 hw => ?_)
  have hC7_h : C7 h = .inr (4, [.ref q1, .ref q3, .ref q5, .null]) := by rw [eC7, va_up_ne _ _ (by omega)]; exact hC6_h
  have hC7_0 : C7 N = .inl (G.2.2.1, 48, .inl (fun _ => 0)) := by rw [eC7, va_up_ne _ _ (by omega)]; exact hC6_0
  have hC7_1 : C7 (N + 1) = .inl (G.2.2.1, 48, .inl (fun _ => 0)) := by rw [eC7, va_up_ne _ _ (by omega)]; exact hC6_1
  have hC7_2 : C7 (N + 2) = .inl (G.2.2.1, 48, .inl (fun _ => 0)) := by rw [eC7, va_up_ne _ _ (by omega)]; exact hC6_2
  have hC7_3 : C7 (N + 3) = .inl (G.2.2.1, 6, .inl (fun _ => 0)) := by rw [eC7]; exact va_up_self _ _ _
  have hfC7 : ∀ i, i < N → i ≠ h → C7 i = C i := fun i hi hne => by rw [eC7, va_up_ne _ _ (by omega)]; exact hfC6 i hi hne
  have ha7_h : ad7 h = (ad h) := by rw [ead7, va_up_ne _ _ (by omega)]; exact ha5_h
  have ha7_0 : ad7 N = q1 := by rw [ead7, va_up_ne _ _ (by omega)]; exact ha5_0
  have ha7_1 : ad7 (N + 1) = q3 := by rw [ead7, va_up_ne _ _ (by omega)]; exact ha5_1
  have ha7_2 : ad7 (N + 2) = q5 := by rw [ead7, va_up_ne _ _ (by omega)]; exact ha5_2
  have ha7_3 : ad7 (N + 3) = q7 := by rw [ead7]; exact va_up_self _ _ _
  have hfa7 : ∀ i, i < N → ad7 i = ad i := fun i hi => by rw [ead7, va_up_ne _ _ (by omega)]; exact hfa5 i hi
  refine x_putF (fs' := [.ref q1, .ref q3, .ref q5, .ref q7]) S hw h ha7_h (by omega) hC7_h rfl in_X4 tyX4_ok nmX4 3 (by decide) wf_X4_21 rfl hini rfl rfl rfl (by show 3 < 4; decide) rfl dX4_init_33 (fun C8 H locs eC8 hw => ?_)
  have hC8_h : C8 h = .inr (4, [.ref q1, .ref q3, .ref q5, .ref q7]) := by rw [eC8]; exact va_up_self _ _ _
  have hC8_0 : C8 N = .inl (G.2.2.1, 48, .inl (fun _ => 0)) := by rw [eC8, va_up_ne _ _ (by omega)]; exact hC7_0
  have hC8_1 : C8 (N + 1) = .inl (G.2.2.1, 48, .inl (fun _ => 0)) := by rw [eC8, va_up_ne _ _ (by omega)]; exact hC7_1
  have hC8_2 : C8 (N + 2) = .inl (G.2.2.1, 48, .inl (fun _ => 0)) := by rw [eC8, va_up_ne _ _ (by omega)]; exact hC7_2
  have hC8_3 : C8 (N + 3) = .inl (G.2.2.1, 6, .inl (fun _ => 0)) := by rw [eC8, va_up_ne _ _ (by omega)]; exact hC7_3
  have hfC8 : ∀ i, i < N → i ≠ h → C8 i = C i := fun i hi hne => by rw [eC8, va_up_ne _ _ (by omega)]; exact hfC7 i hi hne
  exact g_retv S hr hlocks hw ⟨rfl, hfa7, hfC8, by simp only [ha7_0, ha7_1, ha7_2, ha7_3]; exact hC8_h, by exact hC8_0, by exact hC8_1, by exact hC8_2, by exact hC8_3⟩ dX4_init_36

set_option maxHeartbeats 4000000 in
set_option maxRecDepth 100000 in
theorem c_X1_init (l : Launch) (G : GT) (N : Nat) (ad : Nat → Nat) (C : Nat → va_E) (h : Nat) (hh : h < N) (hC : C h = .inr (1, [.int 0, .int 0, .int 0, .null, .null, .null, .null])) : CgV l G yX1_init cX1_init 1 2 40 12 859 [.ref (ad h)] (N, ad, C) (fun u => u.1 = (N + 12) ∧ (∀ i, i < N → u.2.1 i = ad i) ∧ (∀ i, i < N → i ≠ h → u.2.2 i = C i) ∧ u.2.2 h = .inr (1, [.int (nI 0), .int (nI 0), .int (nI 1), .ref (u.2.1 N), .ref (u.2.1 (N + 5)), .ref (u.2.1 (N + 10)), .ref (u.2.1 (N + 11))]) ∧ u.2.2 N = .inr (2, [.int (nI 0), .ref (u.2.1 (N + 1)), .ref (u.2.1 (N + 2)), .ref (u.2.1 (N + 3)), .ref (u.2.1 (N + 4))]) ∧ u.2.2 (N + 1) = .inl (G.2.2.1, 120, .inl (fun _ => 0)) ∧ u.2.2 (N + 2) = .inl (G.2.2.1, 120, .inl (fun _ => 0)) ∧ u.2.2 (N + 3) = .inl (G.2.2.1, 120, .inl (fun _ => 0)) ∧ u.2.2 (N + 4) = .inl (G.2.2.1, 120, .inl (fun _ => 0)) ∧ u.2.2 (N + 5) = .inr (4, [.ref (u.2.1 (N + 6)), .ref (u.2.1 (N + 7)), .ref (u.2.1 (N + 8)), .ref (u.2.1 (N + 9))]) ∧ u.2.2 (N + 6) = .inl (G.2.2.1, 48, .inl (fun _ => 0)) ∧ u.2.2 (N + 7) = .inl (G.2.2.1, 48, .inl (fun _ => 0)) ∧ u.2.2 (N + 8) = .inl (G.2.2.1, 48, .inl (fun _ => 0)) ∧ u.2.2 (N + 9) = .inl (G.2.2.1, 6, .inl (fun _ => 0)) ∧ u.2.2 (N + 10) = .inl (G.2.2.1, 200, .inl (fun _ => 0)) ∧ u.2.2 (N + 11) = .inl (G.2.2.1, 20, .inl (fun _ => 0))) := by
  refine cg_startV (by decide +kernel) (Nat.le_of_ble_eq_true rfl) ?_
  intro p e s m below meth c ls S hr hlocks hini hw hl
  have hini : meth.name = "<init>" := hini
  have hw : Wg G N ad C s s.heap [] := hw
  have hl : lv_has ls 1 [(0, .ref (ad h))] := hl
  refine lv_aload_n S.1 S.2.1 dX1_init_0 rfl (lv_at hl 0 rfl) ?_
  refine x_oi S wm_X1_3 hl.1 dX1_init_1 (by decide) (by decide) ?_
  refine lv_aload_n S.1 S.2.1 dX1_init_4 rfl (lv_at hl 0 rfl) ?_
  refine lv_iconst (v := nI 0) S.1 S.2.1 dX1_init_5 (by decide) ?_
  refine x_put (fs' := [.int (nI 0), .int 0, .int 0, .null, .null, .null, .null]) S hw h rfl (by omega) hC rfl in_X1 tyX1_ok nmX1 0 (by decide) wf_X1_9 rfl rfl rfl (by show 0 < 7; decide) rfl dX1_init_6 (fun C1 H locs eC1 hw => ?_)
  have hC1_h : C1 h = .inr (1, [.int (nI 0), .int 0, .int 0, .null, .null, .null, .null]) := by rw [eC1]; exact va_up_self _ _ _
  have hfC1 : ∀ i, i < N → i ≠ h → C1 i = C i := fun i hi hne => by rw [eC1, va_up_ne _ _ (by omega)]
  refine lv_aload_n S.1 S.2.1 dX1_init_9 rfl (lv_at hl 0 rfl) ?_
  refine lv_iconst (v := nI 0) S.1 S.2.1 dX1_init_10 (by decide) ?_
  refine x_put (fs' := [.int (nI 0), .int (nI 0), .int 0, .null, .null, .null, .null]) S hw h rfl (by omega) hC1_h rfl in_X1 tyX1_ok nmX1 1 (by decide) wf_X1_15 rfl rfl rfl (by show 1 < 7; decide) rfl dX1_init_11 (fun C2 H locs eC2 hw => ?_)
  have hC2_h : C2 h = .inr (1, [.int (nI 0), .int (nI 0), .int 0, .null, .null, .null, .null]) := by rw [eC2]; exact va_up_self _ _ _
  have hfC2 : ∀ i, i < N → i ≠ h → C2 i = C i := fun i hi hne => by rw [eC2, va_up_ne _ _ (by omega)]; exact hfC1 i hi hne
  refine lv_aload_n S.1 S.2.1 dX1_init_14 rfl (lv_at hl 0 rfl) ?_
  refine lv_iconst (v := nI 1) S.1 S.2.1 dX1_init_15 (by decide) ?_
  refine x_put (fs' := [.int (nI 0), .int (nI 0), .int (nI 1), .null, .null, .null, .null]) S hw h rfl (by omega) hC2_h rfl in_X1 tyX1_ok nmX1 2 (by decide) wf_X1_18 rfl rfl rfl (by show 2 < 7; decide) rfl dX1_init_16 (fun C3 H locs eC3 hw => ?_)
  have hC3_h : C3 h = .inr (1, [.int (nI 0), .int (nI 0), .int (nI 1), .null, .null, .null, .null]) := by rw [eC3]; exact va_up_self _ _ _
  have hfC3 : ∀ i, i < N → i ≠ h → C3 i = C i := fun i hi hne => by rw [eC3, va_up_ne _ _ (by omega)]; exact hfC2 i hi hne
  refine lv_aload_n S.1 S.2.1 dX1_init_19 rfl (lv_at hl 0 rfl) ?_
  refine x_new (ci := 2) (fs := [.int 0, .null, .null, .null, .null]) S hw rfl in_X2 tyX2_ok wk_X1_21 wb_X2 wn_X2 (fun j hj => by rcases (show j = 0 ∨ j = 1 ∨ j = 2 ∨ j = 3 ∨ j = 4 by omega) with rfl | rfl | rfl | rfl | rfl <;> rfl) (by decide) (by decide) dX1_init_20 (fun q4 ad4 C4 H ead4 eC4 hw => ?_)
  have hC4_h : C4 h = .inr (1, [.int (nI 0), .int (nI 0), .int (nI 1), .null, .null, .null, .null]) := by rw [eC4, va_up_ne _ _ (by omega)]; exact hC3_h
  have hC4_0 : C4 N = .inr (2, [.int 0, .null, .null, .null, .null]) := by rw [eC4]; exact va_up_self _ _ _
  have hfC4 : ∀ i, i < N → i ≠ h → C4 i = C i := fun i hi hne => by rw [eC4, va_up_ne _ _ (by omega)]; exact hfC3 i hi hne
  have ha4_h : ad4 h = (ad h) := by rw [ead4, va_up_ne _ _ (by omega)]
  have ha4_0 : ad4 N = q4 := by rw [ead4]; exact va_up_self _ _ _
  have hfa4 : ∀ i, i < N → ad4 i = ad i := fun i hi => by rw [ead4, va_up_ne _ _ (by omega)]
  refine lv_dup S.1 S.2.1 dX1_init_23 rfl ?_
  have hM5 := c_X2_init l G (N + 1) ad4 C4 N (by omega) hC4_0
  rw [ha4_0] at hM5
  refine g_cIN (As := []) (rest := [.ref q4, .ref (ad h)]) S hw hM5 mf_X2_init (List.mem_of_getElem? (i := 4) rfl) ⟨by decide, by decide⟩ ⟨by decide, by decide⟩ hl.1 rfl (Nat.le_of_ble_eq_true rfl) dX1_init_24 (fun u5 H locs hp5 hw => ?_)
  obtain ⟨N5, ad5, C5⟩ := u5
  obtain ⟨eN5, pa5, pC5, ph5, pn5_0, pn5_1, pn5_2, pn5_3⟩ := hp5
  have eN5 : N5 = (N + 5) := eN5
  subst eN5
  have pa5 : ∀ i, i < (N + 1) → ad5 i = ad4 i := pa5
  have pC5 : ∀ i, i < (N + 1) → i ≠ N → C5 i = C4 i := pC5
  obtain ⟨q5_0, ha5_1⟩ : ∃ q, ad5 (N + 1) = q := ⟨_, rfl⟩
  obtain ⟨q5_1, ha5_2⟩ : ∃ q, ad5 (N + 2) = q := ⟨_, rfl⟩
  obtain ⟨q5_2, ha5_3⟩ : ∃ q, ad5 (N + 3) = q := ⟨_, rfl⟩
  obtain ⟨q5_3, ha5_4⟩ : ∃ q, ad5 (N + 4) = q := ⟨_, rfl⟩
  have hC5_h : C5 h = .inr (1, [.int (nI 0), .int (nI 0), .int (nI 1), .null, .null, .null, .null]) := (pC5 _ (by omega) (by omega)).trans hC4_h
  have ha5_h : ad5 h = (ad h) := (pa5 _ (by omega)).trans ha4_h
  have ha5_0 : ad5 N = q4 := (pa5 _ (by omega)).trans ha4_0
  have hC5_0 : C5 N = .inr (2, [.int (nI 0), .ref q5_0, .ref q5_1, .ref q5_2, .ref q5_3]) := by rw [← ha5_1, ← ha5_2, ← ha5_3, ← ha5_4]; exact ph5
  have hC5_1 : C5 (N + 1) = .inl (G.2.2.1, 120, .inl (fun _ => 0)) := by exact pn5_0
  have hC5_2 : C5 (N + 2) = .inl (G.2.2.1, 120, .inl (fun _ => 0)) := by exact pn5_1
  have hC5_3 : C5 (N + 3) = .inl (G.2.2.1, 120, .inl (fun _ => 0)) := by exact pn5_2
  have hC5_4 : C5 (N + 4) = .inl (G.2.2.1, 120, .inl (fun _ => 0)) := by exact pn5_3
  have hfC5 : ∀ i, i < N → i ≠ h → C5 i = C i := fun i hi hne => (pC5 i (by omega) (by omega)).trans (hfC4 i hi hne)
  have hfa5 : ∀ i, i < N → ad5 i = ad i := fun i hi => (pa5 i (by omega)).trans (hfa4 i hi)
  refine x_putF (fs' := [.int (nI 0), .int (nI 0), .int (nI 1), .ref q4, .null, .null, .null]) S hw h ha5_h (by omega) hC5_h rfl in_X1 tyX1_ok nmX1 3 (by decide) wf_X1_24 rfl hini rfl rfl rfl (by show 3 < 7; decide) rfl dX1_init_27 (fun C6 H locs eC6 hw => ?_)
  have hC6_h : C6 h = .inr (1, [.int (nI 0), .int (nI 0), .int (nI 1), .ref q4, .null, .null, .null]) := by rw [eC6]; exact va_up_self _ _ _
  have hC6_0 : C6 N = .inr (2, [.int (nI 0), .ref q5_0, .ref q5_1, .ref q5_2, .ref q5_3]) := by rw [eC6, va_up_ne _ _ (by omega)]; exact hC5_0
  have hC6_1 : C6 (N + 1) = .inl (G.2.2.1, 120, .inl (fun _ => 0)) := by rw [eC6, va_up_ne _ _ (by omega)]; exact hC5_1
  have hC6_2 : C6 (N + 2) = .inl (G.2.2.1, 120, .inl (fun _ => 0)) := by rw [eC6, va_up_ne _ _ (by omega)]; exact hC5_2
  have hC6_3 : C6 (N + 3) = .inl (G.2.2.1, 120, .inl (fun _ => 0)) := by rw [eC6, va_up_ne _ _ (by omega)]; exact hC5_3
  have hC6_4 : C6 (N + 4) = .inl (G.2.2.1, 120, .inl (fun _ => 0)) := by rw [eC6, va_up_ne _ _ (by omega)]; exact hC5_4
  have hfC6 : ∀ i, i < N → i ≠ h → C6 i = C i := fun i hi hne => by rw [eC6, va_up_ne _ _ (by omega)]; exact hfC5 i hi hne
  refine lv_aload_n S.1 S.2.1 dX1_init_30 rfl (lv_at hl 0 rfl) ?_
  refine x_new (ci := 4) (fs := [.null, .null, .null, .null]) S hw rfl in_X4 tyX4_ok wk_X1_28 wb_X4 wn_X4 (fun j hj => by rcases (show j = 0 ∨ j = 1 ∨ j = 2 ∨ j = 3 by omega) with rfl | rfl | rfl | rfl <;> rfl) (by decide) (by decide) dX1_init_31 (fun q7 ad7 C7 H ead7 eC7 hw => ?_)
  have hC7_h : C7 h = .inr (1, [.int (nI 0), .int (nI 0), .int (nI 1), .ref q4, .null, .null, .null]) := by rw [eC7, va_up_ne _ _ (by omega)]; exact hC6_h
  have hC7_0 : C7 N = .inr (2, [.int (nI 0), .ref q5_0, .ref q5_1, .ref q5_2, .ref q5_3]) := by rw [eC7, va_up_ne _ _ (by omega)]; exact hC6_0
  have hC7_1 : C7 (N + 1) = .inl (G.2.2.1, 120, .inl (fun _ => 0)) := by rw [eC7, va_up_ne _ _ (by omega)]; exact hC6_1
  have hC7_2 : C7 (N + 2) = .inl (G.2.2.1, 120, .inl (fun _ => 0)) := by rw [eC7, va_up_ne _ _ (by omega)]; exact hC6_2
  have hC7_3 : C7 (N + 3) = .inl (G.2.2.1, 120, .inl (fun _ => 0)) := by rw [eC7, va_up_ne _ _ (by omega)]; exact hC6_3
  have hC7_4 : C7 (N + 4) = .inl (G.2.2.1, 120, .inl (fun _ => 0)) := by rw [eC7, va_up_ne _ _ (by omega)]; exact hC6_4
  have hC7_5 : C7 (N + 5) = .inr (4, [.null, .null, .null, .null]) := by rw [eC7]; exact va_up_self _ _ _
  have hfC7 : ∀ i, i < N → i ≠ h → C7 i = C i := fun i hi hne => by rw [eC7, va_up_ne _ _ (by omega)]; exact hfC6 i hi hne
  have ha7_h : ad7 h = (ad h) := by rw [ead7, va_up_ne _ _ (by omega)]; exact ha5_h
  have ha7_0 : ad7 N = q4 := by rw [ead7, va_up_ne _ _ (by omega)]; exact ha5_0
  have ha7_1 : ad7 (N + 1) = q5_0 := by rw [ead7, va_up_ne _ _ (by omega)]; exact ha5_1
  have ha7_2 : ad7 (N + 2) = q5_1 := by rw [ead7, va_up_ne _ _ (by omega)]; exact ha5_2
  have ha7_3 : ad7 (N + 3) = q5_2 := by rw [ead7, va_up_ne _ _ (by omega)]; exact ha5_3
  have ha7_4 : ad7 (N + 4) = q5_3 := by rw [ead7, va_up_ne _ _ (by omega)]; exact ha5_4
  have ha7_5 : ad7 (N + 5) = q7 := by rw [ead7]; exact va_up_self _ _ _
  have hfa7 : ∀ i, i < N → ad7 i = ad i := fun i hi => by rw [ead7, va_up_ne _ _ (by omega)]; exact hfa5 i hi
  refine lv_dup S.1 S.2.1 dX1_init_34 rfl ?_
  have hM8 := c_X4_init l G (N + 6) ad7 C7 (N + 5) (by omega) hC7_5
  rw [ha7_5] at hM8
  refine g_cIN (As := []) (rest := [.ref q7, .ref (ad h)]) S hw hM8 mf_X4_init (List.mem_of_getElem? (i := 5) rfl) ⟨by decide, by decide⟩ ⟨by decide, by decide⟩ hl.1 rfl (Nat.le_of_ble_eq_true rfl) dX1_init_35 (fun u8 H locs hp8 hw => ?_)
  obtain ⟨N8, ad8, C8⟩ := u8
  obtain ⟨eN8, pa8, pC8, ph8, pn8_0, pn8_1, pn8_2, pn8_3⟩ := hp8
  have eN8 : N8 = (N + 10) := eN8
  subst eN8
  have pa8 : ∀ i, i < (N + 6) → ad8 i = ad7 i := pa8
  have pC8 : ∀ i, i < (N + 6) → i ≠ (N + 5) → C8 i = C7 i := pC8
  obtain ⟨q8_0, ha8_6⟩ : ∃ q, ad8 (N + 6) = q := ⟨_, rfl⟩
  obtain ⟨q8_1, ha8_7⟩ : ∃ q, ad8 (N + 7) = q := ⟨_, rfl⟩
  obtain ⟨q8_2, ha8_8⟩ : ∃ q, ad8 (N + 8) = q := ⟨_, rfl⟩
  obtain ⟨q8_3, ha8_9⟩ : ∃ q, ad8 (N + 9) = q := ⟨_, rfl⟩
  have hC8_h : C8 h = .inr (1, [.int (nI 0), .int (nI 0), .int (nI 1), .ref q4, .null, .null, .null]) := (pC8 _ (by omega) (by omega)).trans hC7_h
  have ha8_h : ad8 h = (ad h) := (pa8 _ (by omega)).trans ha7_h
  have hC8_0 : C8 N = .inr (2, [.int (nI 0), .ref q5_0, .ref q5_1, .ref q5_2, .ref q5_3]) := (pC8 _ (by omega) (by omega)).trans hC7_0
  have ha8_0 : ad8 N = q4 := (pa8 _ (by omega)).trans ha7_0
  have hC8_1 : C8 (N + 1) = .inl (G.2.2.1, 120, .inl (fun _ => 0)) := (pC8 _ (by omega) (by omega)).trans hC7_1
  have ha8_1 : ad8 (N + 1) = q5_0 := (pa8 _ (by omega)).trans ha7_1
  have hC8_2 : C8 (N + 2) = .inl (G.2.2.1, 120, .inl (fun _ => 0)) := (pC8 _ (by omega) (by omega)).trans hC7_2
  have ha8_2 : ad8 (N + 2) = q5_1 := (pa8 _ (by omega)).trans ha7_2
  have hC8_3 : C8 (N + 3) = .inl (G.2.2.1, 120, .inl (fun _ => 0)) := (pC8 _ (by omega) (by omega)).trans hC7_3
  have ha8_3 : ad8 (N + 3) = q5_2 := (pa8 _ (by omega)).trans ha7_3
  have hC8_4 : C8 (N + 4) = .inl (G.2.2.1, 120, .inl (fun _ => 0)) := (pC8 _ (by omega) (by omega)).trans hC7_4
  have ha8_4 : ad8 (N + 4) = q5_3 := (pa8 _ (by omega)).trans ha7_4
  have ha8_5 : ad8 (N + 5) = q7 := (pa8 _ (by omega)).trans ha7_5
  have hC8_5 : C8 (N + 5) = .inr (4, [.ref q8_0, .ref q8_1, .ref q8_2, .ref q8_3]) := by rw [← ha8_6, ← ha8_7, ← ha8_8, ← ha8_9]; exact ph8
  have hC8_6 : C8 (N + 6) = .inl (G.2.2.1, 48, .inl (fun _ => 0)) := by exact pn8_0
  have hC8_7 : C8 (N + 7) = .inl (G.2.2.1, 48, .inl (fun _ => 0)) := by exact pn8_1
  have hC8_8 : C8 (N + 8) = .inl (G.2.2.1, 48, .inl (fun _ => 0)) := by exact pn8_2
  have hC8_9 : C8 (N + 9) = .inl (G.2.2.1, 6, .inl (fun _ => 0)) := by exact pn8_3
  have hfC8 : ∀ i, i < N → i ≠ h → C8 i = C i := fun i hi hne => (pC8 i (by omega) (by omega)).trans (hfC7 i hi hne)
  have hfa8 : ∀ i, i < N → ad8 i = ad i := fun i hi => (pa8 i (by omega)).trans (hfa7 i hi)
  refine x_putF (fs' := [.int (nI 0), .int (nI 0), .int (nI 1), .ref q4, .ref q7, .null, .null]) S hw h ha8_h (by omega) hC8_h rfl in_X1 tyX1_ok nmX1 4 (by decide) wf_X1_31 rfl hini rfl rfl rfl (by show 4 < 7; decide) rfl dX1_init_38 (fun C9 H locs eC9 hw => ?_)
  have hC9_h : C9 h = .inr (1, [.int (nI 0), .int (nI 0), .int (nI 1), .ref q4, .ref q7, .null, .null]) := by rw [eC9]; exact va_up_self _ _ _
  have hC9_0 : C9 N = .inr (2, [.int (nI 0), .ref q5_0, .ref q5_1, .ref q5_2, .ref q5_3]) := by rw [eC9, va_up_ne _ _ (by omega)]; exact hC8_0
  have hC9_1 : C9 (N + 1) = .inl (G.2.2.1, 120, .inl (fun _ => 0)) := by rw [eC9, va_up_ne _ _ (by omega)]; exact hC8_1
  have hC9_2 : C9 (N + 2) = .inl (G.2.2.1, 120, .inl (fun _ => 0)) := by rw [eC9, va_up_ne _ _ (by omega)]; exact hC8_2
  have hC9_3 : C9 (N + 3) = .inl (G.2.2.1, 120, .inl (fun _ => 0)) := by rw [eC9, va_up_ne _ _ (by omega)]; exact hC8_3
  have hC9_4 : C9 (N + 4) = .inl (G.2.2.1, 120, .inl (fun _ => 0)) := by rw [eC9, va_up_ne _ _ (by omega)]; exact hC8_4
  have hC9_5 : C9 (N + 5) = .inr (4, [.ref q8_0, .ref q8_1, .ref q8_2, .ref q8_3]) := by rw [eC9, va_up_ne _ _ (by omega)]; exact hC8_5
  have hC9_6 : C9 (N + 6) = .inl (G.2.2.1, 48, .inl (fun _ => 0)) := by rw [eC9, va_up_ne _ _ (by omega)]; exact hC8_6
  have hC9_7 : C9 (N + 7) = .inl (G.2.2.1, 48, .inl (fun _ => 0)) := by rw [eC9, va_up_ne _ _ (by omega)]; exact hC8_7
  have hC9_8 : C9 (N + 8) = .inl (G.2.2.1, 48, .inl (fun _ => 0)) := by rw [eC9, va_up_ne _ _ (by omega)]; exact hC8_8
  have hC9_9 : C9 (N + 9) = .inl (G.2.2.1, 6, .inl (fun _ => 0)) := by rw [eC9, va_up_ne _ _ (by omega)]; exact hC8_9
  have hfC9 : ∀ i, i < N → i ≠ h → C9 i = C i := fun i hi hne => by rw [eC9, va_up_ne _ _ (by omega)]; exact hfC8 i hi hne
  refine lv_aload_n S.1 S.2.1 dX1_init_41 rfl (lv_at hl 0 rfl) ?_
  refine lv_sipush (v := nI 200) S.1 S.2.1 dX1_init_42 (by decide) ?_
  refine x_newI (N' := 200) S hw (by decide) (by decide) (by decide) (by decide) (by decide) rfl dX1_init_45 (fun q10 ad10 C10 H ead10 eC10 hw => ?_)
  have hC10_h : C10 h = .inr (1, [.int (nI 0), .int (nI 0), .int (nI 1), .ref q4, .ref q7, .null, .null]) := by rw [eC10, va_up_ne _ _ (by omega)]; exact hC9_h
  have hC10_0 : C10 N = .inr (2, [.int (nI 0), .ref q5_0, .ref q5_1, .ref q5_2, .ref q5_3]) := by rw [eC10, va_up_ne _ _ (by omega)]; exact hC9_0
  have hC10_1 : C10 (N + 1) = .inl (G.2.2.1, 120, .inl (fun _ => 0)) := by rw [eC10, va_up_ne _ _ (by omega)]; exact hC9_1
  have hC10_2 : C10 (N + 2) = .inl (G.2.2.1, 120, .inl (fun _ => 0)) := by rw [eC10, va_up_ne _ _ (by omega)]; exact hC9_2
  have hC10_3 : C10 (N + 3) = .inl (G.2.2.1, 120, .inl (fun _ => 0)) := by rw [eC10, va_up_ne _ _ (by omega)]; exact hC9_3
  have hC10_4 : C10 (N + 4) = .inl (G.2.2.1, 120, .inl (fun _ => 0)) := by rw [eC10, va_up_ne _ _ (by omega)]; exact hC9_4
  have hC10_5 : C10 (N + 5) = .inr (4, [.ref q8_0, .ref q8_1, .ref q8_2, .ref q8_3]) := by rw [eC10, va_up_ne _ _ (by omega)]; exact hC9_5
  have hC10_6 : C10 (N + 6) = .inl (G.2.2.1, 48, .inl (fun _ => 0)) := by rw [eC10, va_up_ne _ _ (by omega)]; exact hC9_6
  have hC10_7 : C10 (N + 7) = .inl (G.2.2.1, 48, .inl (fun _ => 0)) := by rw [eC10, va_up_ne _ _ (by omega)]; exact hC9_7
  have hC10_8 : C10 (N + 8) = .inl (G.2.2.1, 48, .inl (fun _ => 0)) := by rw [eC10, va_up_ne _ _ (by omega)]; exact hC9_8
  have hC10_9 : C10 (N + 9) = .inl (G.2.2.1, 6, .inl (fun _ => 0)) := by rw [eC10, va_up_ne _ _ (by omega)]; exact hC9_9
  have hC10_10 : C10 (N + 10) = .inl (G.2.2.1, 200, .inl (fun _ => 0)) := by rw [eC10]; exact va_up_self _ _ _
  have hfC10 : ∀ i, i < N → i ≠ h → C10 i = C i := fun i hi hne => by rw [eC10, va_up_ne _ _ (by omega)]; exact hfC9 i hi hne
  have ha10_h : ad10 h = (ad h) := by rw [ead10, va_up_ne _ _ (by omega)]; exact ha8_h
  have ha10_0 : ad10 N = q4 := by rw [ead10, va_up_ne _ _ (by omega)]; exact ha8_0
  have ha10_1 : ad10 (N + 1) = q5_0 := by rw [ead10, va_up_ne _ _ (by omega)]; exact ha8_1
  have ha10_2 : ad10 (N + 2) = q5_1 := by rw [ead10, va_up_ne _ _ (by omega)]; exact ha8_2
  have ha10_3 : ad10 (N + 3) = q5_2 := by rw [ead10, va_up_ne _ _ (by omega)]; exact ha8_3
  have ha10_4 : ad10 (N + 4) = q5_3 := by rw [ead10, va_up_ne _ _ (by omega)]; exact ha8_4
  have ha10_5 : ad10 (N + 5) = q7 := by rw [ead10, va_up_ne _ _ (by omega)]; exact ha8_5
  have ha10_6 : ad10 (N + 6) = q8_0 := by rw [ead10, va_up_ne _ _ (by omega)]; exact ha8_6
  have ha10_7 : ad10 (N + 7) = q8_1 := by rw [ead10, va_up_ne _ _ (by omega)]; exact ha8_7
  have ha10_8 : ad10 (N + 8) = q8_2 := by rw [ead10, va_up_ne _ _ (by omega)]; exact ha8_8
  have ha10_9 : ad10 (N + 9) = q8_3 := by rw [ead10, va_up_ne _ _ (by omega)]; exact ha8_9
  have ha10_10 : ad10 (N + 10) = q10 := by rw [ead10]; exact va_up_self _ _ _
  have hfa10 : ∀ i, i < N → ad10 i = ad i := fun i hi => by rw [ead10, va_up_ne _ _ (by omega)]; exact hfa8 i hi
  refine x_putF (fs' := [.int (nI 0), .int (nI 0), .int (nI 1), .ref q4, .ref q7, .ref q10, .null]) S hw h ha10_h (by omega) hC10_h rfl in_X1 tyX1_ok nmX1 5 (by decide) wf_X1_35 rfl hini rfl rfl rfl (by show 5 < 7; decide) rfl dX1_init_47 (fun C11 H locs eC11 hw => ?_)
  have hC11_h : C11 h = .inr (1, [.int (nI 0), .int (nI 0), .int (nI 1), .ref q4, .ref q7, .ref q10, .null]) := by rw [eC11]; exact va_up_self _ _ _
  have hC11_0 : C11 N = .inr (2, [.int (nI 0), .ref q5_0, .ref q5_1, .ref q5_2, .ref q5_3]) := by rw [eC11, va_up_ne _ _ (by omega)]; exact hC10_0
  have hC11_1 : C11 (N + 1) = .inl (G.2.2.1, 120, .inl (fun _ => 0)) := by rw [eC11, va_up_ne _ _ (by omega)]; exact hC10_1
  have hC11_2 : C11 (N + 2) = .inl (G.2.2.1, 120, .inl (fun _ => 0)) := by rw [eC11, va_up_ne _ _ (by omega)]; exact hC10_2
  have hC11_3 : C11 (N + 3) = .inl (G.2.2.1, 120, .inl (fun _ => 0)) := by rw [eC11, va_up_ne _ _ (by omega)]; exact hC10_3
  have hC11_4 : C11 (N + 4) = .inl (G.2.2.1, 120, .inl (fun _ => 0)) := by rw [eC11, va_up_ne _ _ (by omega)]; exact hC10_4
  have hC11_5 : C11 (N + 5) = .inr (4, [.ref q8_0, .ref q8_1, .ref q8_2, .ref q8_3]) := by rw [eC11, va_up_ne _ _ (by omega)]; exact hC10_5
  have hC11_6 : C11 (N + 6) = .inl (G.2.2.1, 48, .inl (fun _ => 0)) := by rw [eC11, va_up_ne _ _ (by omega)]; exact hC10_6
  have hC11_7 : C11 (N + 7) = .inl (G.2.2.1, 48, .inl (fun _ => 0)) := by rw [eC11, va_up_ne _ _ (by omega)]; exact hC10_7
  have hC11_8 : C11 (N + 8) = .inl (G.2.2.1, 48, .inl (fun _ => 0)) := by rw [eC11, va_up_ne _ _ (by omega)]; exact hC10_8
  have hC11_9 : C11 (N + 9) = .inl (G.2.2.1, 6, .inl (fun _ => 0)) := by rw [eC11, va_up_ne _ _ (by omega)]; exact hC10_9
  have hC11_10 : C11 (N + 10) = .inl (G.2.2.1, 200, .inl (fun _ => 0)) := by rw [eC11, va_up_ne _ _ (by omega)]; exact hC10_10
  have hfC11 : ∀ i, i < N → i ≠ h → C11 i = C i := fun i hi hne => by rw [eC11, va_up_ne _ _ (by omega)]; exact hfC10 i hi hne
  refine lv_aload_n S.1 S.2.1 dX1_init_50 rfl (lv_at hl 0 rfl) ?_
  refine lv_bipush (v := nI 20) S.1 S.2.1 dX1_init_51 (by decide) ?_
  refine x_newI (N' := 20) S hw (by decide) (by decide) (by decide) (by decide) (by decide) rfl dX1_init_53 (fun q12 ad12 C12 H ead12 eC12 hw => ?_)
  have hC12_h : C12 h = .inr (1, [.int (nI 0), .int (nI 0), .int (nI 1), .ref q4, .ref q7, .ref q10, .null]) := by rw [eC12, va_up_ne _ _ (by omega)]; exact hC11_h
  have hC12_0 : C12 N = .inr (2, [.int (nI 0), .ref q5_0, .ref q5_1, .ref q5_2, .ref q5_3]) := by rw [eC12, va_up_ne _ _ (by omega)]; exact hC11_0
  have hC12_1 : C12 (N + 1) = .inl (G.2.2.1, 120, .inl (fun _ => 0)) := by rw [eC12, va_up_ne _ _ (by omega)]; exact hC11_1
  have hC12_2 : C12 (N + 2) = .inl (G.2.2.1, 120, .inl (fun _ => 0)) := by rw [eC12, va_up_ne _ _ (by omega)]; exact hC11_2
  have hC12_3 : C12 (N + 3) = .inl (G.2.2.1, 120, .inl (fun _ => 0)) := by rw [eC12, va_up_ne _ _ (by omega)]; exact hC11_3
  have hC12_4 : C12 (N + 4) = .inl (G.2.2.1, 120, .inl (fun _ => 0)) := by rw [eC12, va_up_ne _ _ (by omega)]; exact hC11_4
  have hC12_5 : C12 (N + 5) = .inr (4, [.ref q8_0, .ref q8_1, .ref q8_2, .ref q8_3]) := by rw [eC12, va_up_ne _ _ (by omega)]; exact hC11_5
  have hC12_6 : C12 (N + 6) = .inl (G.2.2.1, 48, .inl (fun _ => 0)) := by rw [eC12, va_up_ne _ _ (by omega)]; exact hC11_6
  have hC12_7 : C12 (N + 7) = .inl (G.2.2.1, 48, .inl (fun _ => 0)) := by rw [eC12, va_up_ne _ _ (by omega)]; exact hC11_7
  have hC12_8 : C12 (N + 8) = .inl (G.2.2.1, 48, .inl (fun _ => 0)) := by rw [eC12, va_up_ne _ _ (by omega)]; exact hC11_8
  have hC12_9 : C12 (N + 9) = .inl (G.2.2.1, 6, .inl (fun _ => 0)) := by rw [eC12, va_up_ne _ _ (by omega)]; exact hC11_9
  have hC12_10 : C12 (N + 10) = .inl (G.2.2.1, 200, .inl (fun _ => 0)) := by rw [eC12, va_up_ne _ _ (by omega)]; exact hC11_10
  have hC12_11 : C12 (N + 11) = .inl (G.2.2.1, 20, .inl (fun _ => 0)) := by rw [eC12]; exact va_up_self _ _ _
  have hfC12 : ∀ i, i < N → i ≠ h → C12 i = C i := fun i hi hne => by rw [eC12, va_up_ne _ _ (by omega)]; exact hfC11 i hi hne
  have ha12_h : ad12 h = (ad h) := by rw [ead12, va_up_ne _ _ (by omega)]; exact ha10_h
  have ha12_0 : ad12 N = q4 := by rw [ead12, va_up_ne _ _ (by omega)]; exact ha10_0
  have ha12_1 : ad12 (N + 1) = q5_0 := by rw [ead12, va_up_ne _ _ (by omega)]; exact ha10_1
  have ha12_2 : ad12 (N + 2) = q5_1 := by rw [ead12, va_up_ne _ _ (by omega)]; exact ha10_2
  have ha12_3 : ad12 (N + 3) = q5_2 := by rw [ead12, va_up_ne _ _ (by omega)]; exact ha10_3
  have ha12_4 : ad12 (N + 4) = q5_3 := by rw [ead12, va_up_ne _ _ (by omega)]; exact ha10_4
  have ha12_5 : ad12 (N + 5) = q7 := by rw [ead12, va_up_ne _ _ (by omega)]; exact ha10_5
  have ha12_6 : ad12 (N + 6) = q8_0 := by rw [ead12, va_up_ne _ _ (by omega)]; exact ha10_6
  have ha12_7 : ad12 (N + 7) = q8_1 := by rw [ead12, va_up_ne _ _ (by omega)]; exact ha10_7
  have ha12_8 : ad12 (N + 8) = q8_2 := by rw [ead12, va_up_ne _ _ (by omega)]; exact ha10_8
  have ha12_9 : ad12 (N + 9) = q8_3 := by rw [ead12, va_up_ne _ _ (by omega)]; exact ha10_9
  have ha12_10 : ad12 (N + 10) = q10 := by rw [ead12, va_up_ne _ _ (by omega)]; exact ha10_10
  have ha12_11 : ad12 (N + 11) = q12 := by rw [ead12]; exact va_up_self _ _ _
  have hfa12 : ∀ i, i < N → ad12 i = ad i := fun i hi => by rw [ead12, va_up_ne _ _ (by omega)]; exact hfa10 i hi
  refine x_putF (fs' := [.int (nI 0), .int (nI 0), .int (nI 1), .ref q4, .ref q7, .ref q10, .ref q12]) S hw h ha12_h (by omega) hC12_h rfl in_X1 tyX1_ok nmX1 6 (by decide) wf_X1_39 rfl hini rfl rfl rfl (by show 6 < 7; decide) rfl dX1_init_55 (fun C13 H locs eC13 hw => ?_)
  have hC13_h : C13 h = .inr (1, [.int (nI 0), .int (nI 0), .int (nI 1), .ref q4, .ref q7, .ref q10, .ref q12]) := by rw [eC13]; exact va_up_self _ _ _
  have hC13_0 : C13 N = .inr (2, [.int (nI 0), .ref q5_0, .ref q5_1, .ref q5_2, .ref q5_3]) := by rw [eC13, va_up_ne _ _ (by omega)]; exact hC12_0
  have hC13_1 : C13 (N + 1) = .inl (G.2.2.1, 120, .inl (fun _ => 0)) := by rw [eC13, va_up_ne _ _ (by omega)]; exact hC12_1
  have hC13_2 : C13 (N + 2) = .inl (G.2.2.1, 120, .inl (fun _ => 0)) := by rw [eC13, va_up_ne _ _ (by omega)]; exact hC12_2
  have hC13_3 : C13 (N + 3) = .inl (G.2.2.1, 120, .inl (fun _ => 0)) := by rw [eC13, va_up_ne _ _ (by omega)]; exact hC12_3
  have hC13_4 : C13 (N + 4) = .inl (G.2.2.1, 120, .inl (fun _ => 0)) := by rw [eC13, va_up_ne _ _ (by omega)]; exact hC12_4
  have hC13_5 : C13 (N + 5) = .inr (4, [.ref q8_0, .ref q8_1, .ref q8_2, .ref q8_3]) := by rw [eC13, va_up_ne _ _ (by omega)]; exact hC12_5
  have hC13_6 : C13 (N + 6) = .inl (G.2.2.1, 48, .inl (fun _ => 0)) := by rw [eC13, va_up_ne _ _ (by omega)]; exact hC12_6
  have hC13_7 : C13 (N + 7) = .inl (G.2.2.1, 48, .inl (fun _ => 0)) := by rw [eC13, va_up_ne _ _ (by omega)]; exact hC12_7
  have hC13_8 : C13 (N + 8) = .inl (G.2.2.1, 48, .inl (fun _ => 0)) := by rw [eC13, va_up_ne _ _ (by omega)]; exact hC12_8
  have hC13_9 : C13 (N + 9) = .inl (G.2.2.1, 6, .inl (fun _ => 0)) := by rw [eC13, va_up_ne _ _ (by omega)]; exact hC12_9
  have hC13_10 : C13 (N + 10) = .inl (G.2.2.1, 200, .inl (fun _ => 0)) := by rw [eC13, va_up_ne _ _ (by omega)]; exact hC12_10
  have hC13_11 : C13 (N + 11) = .inl (G.2.2.1, 20, .inl (fun _ => 0)) := by rw [eC13, va_up_ne _ _ (by omega)]; exact hC12_11
  have hfC13 : ∀ i, i < N → i ≠ h → C13 i = C i := fun i hi hne => by rw [eC13, va_up_ne _ _ (by omega)]; exact hfC12 i hi hne
  exact g_retv S hr hlocks hw ⟨rfl, hfa12, hfC13, by simp only [ha12_0, ha12_5, ha12_10, ha12_11]; exact hC13_h, by simp only [ha12_1, ha12_2, ha12_3, ha12_4]; exact hC13_0, by exact hC13_1, by exact hC13_2, by exact hC13_3, by exact hC13_4, by simp only [ha12_6, ha12_7, ha12_8, ha12_9]; exact hC13_5, by exact hC13_6, by exact hC13_7, by exact hC13_8, by exact hC13_9, by exact hC13_10, by exact hC13_11⟩ dX1_init_58

set_option maxHeartbeats 4000000 in
set_option maxRecDepth 100000 in
theorem c_X3_init (l : Launch) (G : GT) (N : Nat) (ad : Nat → Nat) (C : Nat → va_E) (h : Nat) (hh : h < N) (hC : C h = .inr (3, [.int 0, .int 0, .int 0, .int 0, .int 0])) : CgV l G yX3_init cX3_init 1 1 20 0 0 [.ref (ad h)] (N, ad, C) (fun u => u.1 = N ∧ (∀ i, i < N → u.2.1 i = ad i) ∧ (∀ i, i < N → i ≠ h → u.2.2 i = C i) ∧ u.2.2 h = .inr (3, [.int (nI 0), .int (nI 0), .int (nI 0), .int (nI 0), .int (nI 0)])) := by
  refine cg_startV (by decide +kernel) (Nat.le_of_ble_eq_true rfl) ?_
  intro p e s m below meth c ls S hr hlocks hini hw hl
  have hini : meth.name = "<init>" := hini
  have hw : Wg G N ad C s s.heap [] := hw
  have hl : lv_has ls 1 [(0, .ref (ad h))] := hl
  refine lv_aload_n S.1 S.2.1 dX3_init_0 rfl (lv_at hl 0 rfl) ?_
  refine x_oi S wm_X3_1 hl.1 dX3_init_1 (by decide) (by decide) ?_
  refine lv_aload_n S.1 S.2.1 dX3_init_4 rfl (lv_at hl 0 rfl) ?_
  refine lv_iconst (v := nI 0) S.1 S.2.1 dX3_init_5 (by decide) ?_
  refine x_put (fs' := [.int (nI 0), .int 0, .int 0, .int 0, .int 0]) S hw h rfl (by omega) hC rfl in_X3 tyX3_ok nmX3 0 (by decide) wf_X3_7 rfl rfl rfl (by show 0 < 5; decide) rfl dX3_init_6 (fun C1 H locs eC1 hw => ?_)
  have hC1_h : C1 h = .inr (3, [.int (nI 0), .int 0, .int 0, .int 0, .int 0]) := by rw [eC1]; exact va_up_self _ _ _
  have hfC1 : ∀ i, i < N → i ≠ h → C1 i = C i := fun i hi hne => by rw [eC1, va_up_ne _ _ (by omega)]
  refine lv_aload_n S.1 S.2.1 dX3_init_9 rfl (lv_at hl 0 rfl) ?_
  refine lv_iconst (v := nI 0) S.1 S.2.1 dX3_init_10 (by decide) ?_
  refine x_put (fs' := [.int (nI 0), .int (nI 0), .int 0, .int 0, .int 0]) S hw h rfl (by omega) hC1_h rfl in_X3 tyX3_ok nmX3 1 (by decide) wf_X3_13 rfl rfl rfl (by show 1 < 5; decide) rfl dX3_init_11 (fun C2 H locs eC2 hw => ?_)
  have hC2_h : C2 h = .inr (3, [.int (nI 0), .int (nI 0), .int 0, .int 0, .int 0]) := by rw [eC2]; exact va_up_self _ _ _
  have hfC2 : ∀ i, i < N → i ≠ h → C2 i = C i := fun i hi hne => by rw [eC2, va_up_ne _ _ (by omega)]; exact hfC1 i hi hne
  refine lv_aload_n S.1 S.2.1 dX3_init_14 rfl (lv_at hl 0 rfl) ?_
  refine lv_iconst (v := nI 0) S.1 S.2.1 dX3_init_15 (by decide) ?_
  refine x_put (fs' := [.int (nI 0), .int (nI 0), .int (nI 0), .int 0, .int 0]) S hw h rfl (by omega) hC2_h rfl in_X3 tyX3_ok nmX3 2 (by decide) wf_X3_16 rfl rfl rfl (by show 2 < 5; decide) rfl dX3_init_16 (fun C3 H locs eC3 hw => ?_)
  have hC3_h : C3 h = .inr (3, [.int (nI 0), .int (nI 0), .int (nI 0), .int 0, .int 0]) := by rw [eC3]; exact va_up_self _ _ _
  have hfC3 : ∀ i, i < N → i ≠ h → C3 i = C i := fun i hi hne => by rw [eC3, va_up_ne _ _ (by omega)]; exact hfC2 i hi hne
  refine lv_aload_n S.1 S.2.1 dX3_init_19 rfl (lv_at hl 0 rfl) ?_
  refine lv_iconst (v := nI 0) S.1 S.2.1 dX3_init_20 (by decide) ?_
  refine x_put (fs' := [.int (nI 0), .int (nI 0), .int (nI 0), .int (nI 0), .int 0]) S hw h rfl (by omega) hC3_h rfl in_X3 tyX3_ok nmX3 3 (by decide) wf_X3_19 rfl rfl rfl (by show 3 < 5; decide) rfl dX3_init_21 (fun C4 H locs eC4 hw => ?_)
  have hC4_h : C4 h = .inr (3, [.int (nI 0), .int (nI 0), .int (nI 0), .int (nI 0), .int 0]) := by rw [eC4]; exact va_up_self _ _ _
  have hfC4 : ∀ i, i < N → i ≠ h → C4 i = C i := fun i hi hne => by rw [eC4, va_up_ne _ _ (by omega)]; exact hfC3 i hi hne
  refine lv_aload_n S.1 S.2.1 dX3_init_24 rfl (lv_at hl 0 rfl) ?_
  refine lv_iconst (v := nI 0) S.1 S.2.1 dX3_init_25 (by decide) ?_
  refine x_put (fs' := [.int (nI 0), .int (nI 0), .int (nI 0), .int (nI 0), .int (nI 0)]) S hw h rfl (by omega) hC4_h rfl in_X3 tyX3_ok nmX3 4 (by decide) wf_X3_22 rfl rfl rfl (by show 4 < 5; decide) rfl dX3_init_26 (fun C5 H locs eC5 hw => ?_)
  have hC5_h : C5 h = .inr (3, [.int (nI 0), .int (nI 0), .int (nI 0), .int (nI 0), .int (nI 0)]) := by rw [eC5]; exact va_up_self _ _ _
  have hfC5 : ∀ i, i < N → i ≠ h → C5 i = C i := fun i hi hne => by rw [eC5, va_up_ne _ _ (by omega)]; exact hfC4 i hi hne
  exact g_retv S hr hlocks hw ⟨rfl, (fun i hi => rfl), hfC5, by exact hC5_h⟩ dX3_init_29

set_option maxHeartbeats 4000000 in
set_option maxRecDepth 100000 in
theorem c_X0_init (l : Launch) (G : GT) (N : Nat) (ad : Nat → Nat) (C : Nat → va_E) (h : Nat) (hh : h < N) (hC : C h = .inr (0, [.int 0, .null, .null, .null, .null, .null])) : CgV l G yX0_init cX0_init 1 1 20 5 156 [.ref (ad h)] (N, ad, C) (fun u => u.1 = (N + 5) ∧ (∀ i, i < N → u.2.1 i = ad i) ∧ (∀ i, i < N → i ≠ h → u.2.2 i = C i) ∧ u.2.2 h = .inr (0, [.int (nI 0), .ref (u.2.1 N), .ref (u.2.1 (N + 1)), .ref (u.2.1 (N + 2)), .ref (u.2.1 (N + 3)), .ref (u.2.1 (N + 4))]) ∧ u.2.2 N = .inl (G.2.2.1, 6, .inl (fun _ => 0)) ∧ u.2.2 (N + 1) = .inl (G.2.2.1, 6, .inl (fun _ => 0)) ∧ u.2.2 (N + 2) = .inl (G.2.2.2.1, 48, .inl (fun _ => 0)) ∧ u.2.2 (N + 3) = .inl (G.2.2.1, 48, .inl (fun _ => 0)) ∧ u.2.2 (N + 4) = .inl (G.2.2.1, 48, .inl (fun _ => 0))) := by
  refine cg_startV (by decide +kernel) (Nat.le_of_ble_eq_true rfl) ?_
  intro p e s m below meth c ls S hr hlocks hini hw hl
  have hini : meth.name = "<init>" := hini
  have hw : Wg G N ad C s s.heap [] := hw
  have hl : lv_has ls 1 [(0, .ref (ad h))] := hl
  refine lv_aload_n S.1 S.2.1 dX0_init_0 rfl (lv_at hl 0 rfl) ?_
  refine x_oi S wm_X0_3 hl.1 dX0_init_1 (by decide) (by decide) ?_
  refine lv_aload_n S.1 S.2.1 dX0_init_4 rfl (lv_at hl 0 rfl) ?_
  refine lv_iconst (v := nI 0) S.1 S.2.1 dX0_init_5 (by decide) ?_
  refine x_put (fs' := [.int (nI 0), .null, .null, .null, .null, .null]) S hw h rfl (by omega) hC rfl in_X0 tyX0_ok nmX0 0 (by decide) wf_X0_9 rfl rfl rfl (by show 0 < 6; decide) rfl dX0_init_6 (fun C1 H locs eC1 hw => ?_)
  have hC1_h : C1 h = .inr (0, [.int (nI 0), .null, .null, .null, .null, .null]) := by rw [eC1]; exact va_up_self _ _ _
  have hfC1 : ∀ i, i < N → i ≠ h → C1 i = C i := fun i hi hne => by rw [eC1, va_up_ne _ _ (by omega)]
  refine lv_aload_n S.1 S.2.1 dX0_init_9 rfl (lv_at hl 0 rfl) ?_
  refine lv_bipush (v := nI 6) S.1 S.2.1 dX0_init_10 (by decide) ?_
  refine x_newI (N' := 6) S hw (by decide) (by decide) (by decide) (by decide) (by decide) rfl dX0_init_12 (fun q2 ad2 C2 H ead2 eC2 hw => ?_)
  have hC2_h : C2 h = .inr (0, [.int (nI 0), .null, .null, .null, .null, .null]) := by rw [eC2, va_up_ne _ _ (by omega)]; exact hC1_h
  have hC2_0 : C2 N = .inl (G.2.2.1, 6, .inl (fun _ => 0)) := by rw [eC2]; exact va_up_self _ _ _
  have hfC2 : ∀ i, i < N → i ≠ h → C2 i = C i := fun i hi hne => by rw [eC2, va_up_ne _ _ (by omega)]; exact hfC1 i hi hne
  have ha2_h : ad2 h = (ad h) := by rw [ead2, va_up_ne _ _ (by omega)]
  have ha2_0 : ad2 N = q2 := by rw [ead2]; exact va_up_self _ _ _
  have hfa2 : ∀ i, i < N → ad2 i = ad i := fun i hi => by rw [ead2, va_up_ne _ _ (by omega)]
  refine x_putF (fs' := [.int (nI 0), .ref q2, .null, .null, .null, .null]) S hw h ha2_h (by omega) hC2_h rfl in_X0 tyX0_ok nmX0 1 (by decide) wf_X0_15 rfl hini rfl rfl rfl (by show 1 < 6; decide) rfl dX0_init_14 (fun C3 H locs eC3 hw => ?_)
  have hC3_h : C3 h = .inr (0, [.int (nI 0), .ref q2, .null, .null, .null, .null]) := by rw [eC3]; exact va_up_self _ _ _
  have hC3_0 : C3 N = .inl (G.2.2.1, 6, .inl (fun _ => 0)) := by rw [eC3, va_up_ne _ _ (by omega)]; exact hC2_0
  have hfC3 : ∀ i, i < N → i ≠ h → C3 i = C i := fun i hi hne => by rw [eC3, va_up_ne _ _ (by omega)]; exact hfC2 i hi hne
  refine lv_aload_n S.1 S.2.1 dX0_init_17 rfl (lv_at hl 0 rfl) ?_
  refine lv_bipush (v := nI 6) S.1 S.2.1 dX0_init_18 (by decide) ?_
  refine x_newI (N' := 6) S hw (by decide) (by decide) (by decide) (by decide) (by decide) rfl dX0_init_20 (fun q4 ad4 C4 H ead4 eC4 hw => ?_)
  have hC4_h : C4 h = .inr (0, [.int (nI 0), .ref q2, .null, .null, .null, .null]) := by rw [eC4, va_up_ne _ _ (by omega)]; exact hC3_h
  have hC4_0 : C4 N = .inl (G.2.2.1, 6, .inl (fun _ => 0)) := by rw [eC4, va_up_ne _ _ (by omega)]; exact hC3_0
  have hC4_1 : C4 (N + 1) = .inl (G.2.2.1, 6, .inl (fun _ => 0)) := by rw [eC4]; exact va_up_self _ _ _
  have hfC4 : ∀ i, i < N → i ≠ h → C4 i = C i := fun i hi hne => by rw [eC4, va_up_ne _ _ (by omega)]; exact hfC3 i hi hne
  have ha4_h : ad4 h = (ad h) := by rw [ead4, va_up_ne _ _ (by omega)]; exact ha2_h
  have ha4_0 : ad4 N = q2 := by rw [ead4, va_up_ne _ _ (by omega)]; exact ha2_0
  have ha4_1 : ad4 (N + 1) = q4 := by rw [ead4]; exact va_up_self _ _ _
  have hfa4 : ∀ i, i < N → ad4 i = ad i := fun i hi => by rw [ead4, va_up_ne _ _ (by omega)]; exact hfa2 i hi
  refine x_putF (fs' := [.int (nI 0), .ref q2, .ref q4, .null, .null, .null]) S hw h ha4_h (by omega) hC4_h rfl in_X0 tyX0_ok nmX0 2 (by decide) wf_X0_19 rfl hini rfl rfl rfl (by show 2 < 6; decide) rfl dX0_init_22 (fun C5 H locs eC5 hw => ?_)
  have hC5_h : C5 h = .inr (0, [.int (nI 0), .ref q2, .ref q4, .null, .null, .null]) := by rw [eC5]; exact va_up_self _ _ _
  have hC5_0 : C5 N = .inl (G.2.2.1, 6, .inl (fun _ => 0)) := by rw [eC5, va_up_ne _ _ (by omega)]; exact hC4_0
  have hC5_1 : C5 (N + 1) = .inl (G.2.2.1, 6, .inl (fun _ => 0)) := by rw [eC5, va_up_ne _ _ (by omega)]; exact hC4_1
  have hfC5 : ∀ i, i < N → i ≠ h → C5 i = C i := fun i hi hne => by rw [eC5, va_up_ne _ _ (by omega)]; exact hfC4 i hi hne
  refine lv_aload_n S.1 S.2.1 dX0_init_25 rfl (lv_at hl 0 rfl) ?_
  refine lv_bipush (v := nI 48) S.1 S.2.1 dX0_init_26 (by decide) ?_
  refine x_newZ (N' := 48) S hw (by decide) (by decide) (by decide) (by decide) (by decide) rfl dX0_init_28 (fun q6 ad6 C6 H ead6 eC6 hw => ?_)
  have hC6_h : C6 h = .inr (0, [.int (nI 0), .ref q2, .ref q4, .null, .null, .null]) := by rw [eC6, va_up_ne _ _ (by omega)]; exact hC5_h
  have hC6_0 : C6 N = .inl (G.2.2.1, 6, .inl (fun _ => 0)) := by rw [eC6, va_up_ne _ _ (by omega)]; exact hC5_0
  have hC6_1 : C6 (N + 1) = .inl (G.2.2.1, 6, .inl (fun _ => 0)) := by rw [eC6, va_up_ne _ _ (by omega)]; exact hC5_1
  have hC6_2 : C6 (N + 2) = .inl (G.2.2.2.1, 48, .inl (fun _ => 0)) := by rw [eC6]; exact va_up_self _ _ _
  have hfC6 : ∀ i, i < N → i ≠ h → C6 i = C i := fun i hi hne => by rw [eC6, va_up_ne _ _ (by omega)]; exact hfC5 i hi hne
  have ha6_h : ad6 h = (ad h) := by rw [ead6, va_up_ne _ _ (by omega)]; exact ha4_h
  have ha6_0 : ad6 N = q2 := by rw [ead6, va_up_ne _ _ (by omega)]; exact ha4_0
  have ha6_1 : ad6 (N + 1) = q4 := by rw [ead6, va_up_ne _ _ (by omega)]; exact ha4_1
  have ha6_2 : ad6 (N + 2) = q6 := by rw [ead6]; exact va_up_self _ _ _
  have hfa6 : ∀ i, i < N → ad6 i = ad i := fun i hi => by rw [ead6, va_up_ne _ _ (by omega)]; exact hfa4 i hi
  refine x_putF (fs' := [.int (nI 0), .ref q2, .ref q4, .ref q6, .null, .null]) S hw h ha6_h (by omega) hC6_h rfl in_X0 tyX0_ok nmX0 3 (by decide) wf_X0_22 rfl hini rfl rfl rfl (by show 3 < 6; decide) rfl dX0_init_30 (fun C7 H locs eC7 hw => ?_)
  have hC7_h : C7 h = .inr (0, [.int (nI 0), .ref q2, .ref q4, .ref q6, .null, .null]) := by rw [eC7]; exact va_up_self _ _ _
  have hC7_0 : C7 N = .inl (G.2.2.1, 6, .inl (fun _ => 0)) := by rw [eC7, va_up_ne _ _ (by omega)]; exact hC6_0
  have hC7_1 : C7 (N + 1) = .inl (G.2.2.1, 6, .inl (fun _ => 0)) := by rw [eC7, va_up_ne _ _ (by omega)]; exact hC6_1
  have hC7_2 : C7 (N + 2) = .inl (G.2.2.2.1, 48, .inl (fun _ => 0)) := by rw [eC7, va_up_ne _ _ (by omega)]; exact hC6_2
  have hfC7 : ∀ i, i < N → i ≠ h → C7 i = C i := fun i hi hne => by rw [eC7, va_up_ne _ _ (by omega)]; exact hfC6 i hi hne
  refine lv_aload_n S.1 S.2.1 dX0_init_33 rfl (lv_at hl 0 rfl) ?_
  refine lv_bipush (v := nI 48) S.1 S.2.1 dX0_init_34 (by decide) ?_
  refine x_newI (N' := 48) S hw (by decide) (by decide) (by decide) (by decide) (by decide) rfl dX0_init_36 (fun q8 ad8 C8 H ead8 eC8 hw => ?_)
  have hC8_h : C8 h = .inr (0, [.int (nI 0), .ref q2, .ref q4, .ref q6, .null, .null]) := by rw [eC8, va_up_ne _ _ (by omega)]; exact hC7_h
  have hC8_0 : C8 N = .inl (G.2.2.1, 6, .inl (fun _ => 0)) := by rw [eC8, va_up_ne _ _ (by omega)]; exact hC7_0
  have hC8_1 : C8 (N + 1) = .inl (G.2.2.1, 6, .inl (fun _ => 0)) := by rw [eC8, va_up_ne _ _ (by omega)]; exact hC7_1
  have hC8_2 : C8 (N + 2) = .inl (G.2.2.2.1, 48, .inl (fun _ => 0)) := by rw [eC8, va_up_ne _ _ (by omega)]; exact hC7_2
  have hC8_3 : C8 (N + 3) = .inl (G.2.2.1, 48, .inl (fun _ => 0)) := by rw [eC8]; exact va_up_self _ _ _
  have hfC8 : ∀ i, i < N → i ≠ h → C8 i = C i := fun i hi hne => by rw [eC8, va_up_ne _ _ (by omega)]; exact hfC7 i hi hne
  have ha8_h : ad8 h = (ad h) := by rw [ead8, va_up_ne _ _ (by omega)]; exact ha6_h
  have ha8_0 : ad8 N = q2 := by rw [ead8, va_up_ne _ _ (by omega)]; exact ha6_0
  have ha8_1 : ad8 (N + 1) = q4 := by rw [ead8, va_up_ne _ _ (by omega)]; exact ha6_1
  have ha8_2 : ad8 (N + 2) = q6 := by rw [ead8, va_up_ne _ _ (by omega)]; exact ha6_2
  have ha8_3 : ad8 (N + 3) = q8 := by rw [ead8]; exact va_up_self _ _ _
  have hfa8 : ∀ i, i < N → ad8 i = ad i := fun i hi => by rw [ead8, va_up_ne _ _ (by omega)]; exact hfa6 i hi
  refine x_putF (fs' := [.int (nI 0), .ref q2, .ref q4, .ref q6, .ref q8, .null]) S hw h ha8_h (by omega) hC8_h rfl in_X0 tyX0_ok nmX0 4 (by decide) wf_X0_26 rfl hini rfl rfl rfl (by show 4 < 6; decide) rfl dX0_init_38 (fun C9 H locs eC9 hw => ?_)
  have hC9_h : C9 h = .inr (0, [.int (nI 0), .ref q2, .ref q4, .ref q6, .ref q8, .null]) := by rw [eC9]; exact va_up_self _ _ _
  have hC9_0 : C9 N = .inl (G.2.2.1, 6, .inl (fun _ => 0)) := by rw [eC9, va_up_ne _ _ (by omega)]; exact hC8_0
  have hC9_1 : C9 (N + 1) = .inl (G.2.2.1, 6, .inl (fun _ => 0)) := by rw [eC9, va_up_ne _ _ (by omega)]; exact hC8_1
  have hC9_2 : C9 (N + 2) = .inl (G.2.2.2.1, 48, .inl (fun _ => 0)) := by rw [eC9, va_up_ne _ _ (by omega)]; exact hC8_2
  have hC9_3 : C9 (N + 3) = .inl (G.2.2.1, 48, .inl (fun _ => 0)) := by rw [eC9, va_up_ne _ _ (by omega)]; exact hC8_3
  have hfC9 : ∀ i, i < N → i ≠ h → C9 i = C i := fun i hi hne => by rw [eC9, va_up_ne _ _ (by omega)]; exact hfC8 i hi hne
  refine lv_aload_n S.1 S.2.1 dX0_init_41 rfl (lv_at hl 0 rfl) ?_
  refine lv_bipush (v := nI 48) S.1 S.2.1 dX0_init_42 (by decide) ?_
  refine x_newI (N' := 48) S hw (by decide) (by decide) (by decide) (by decide) (by decide) rfl dX0_init_44 (fun q10 ad10 C10 H ead10 eC10 hw => ?_)
  have hC10_h : C10 h = .inr (0, [.int (nI 0), .ref q2, .ref q4, .ref q6, .ref q8, .null]) := by rw [eC10, va_up_ne _ _ (by omega)]; exact hC9_h
  have hC10_0 : C10 N = .inl (G.2.2.1, 6, .inl (fun _ => 0)) := by rw [eC10, va_up_ne _ _ (by omega)]; exact hC9_0
  have hC10_1 : C10 (N + 1) = .inl (G.2.2.1, 6, .inl (fun _ => 0)) := by rw [eC10, va_up_ne _ _ (by omega)]; exact hC9_1
  have hC10_2 : C10 (N + 2) = .inl (G.2.2.2.1, 48, .inl (fun _ => 0)) := by rw [eC10, va_up_ne _ _ (by omega)]; exact hC9_2
  have hC10_3 : C10 (N + 3) = .inl (G.2.2.1, 48, .inl (fun _ => 0)) := by rw [eC10, va_up_ne _ _ (by omega)]; exact hC9_3
  have hC10_4 : C10 (N + 4) = .inl (G.2.2.1, 48, .inl (fun _ => 0)) := by rw [eC10]; exact va_up_self _ _ _
  have hfC10 : ∀ i, i < N → i ≠ h → C10 i = C i := fun i hi hne => by rw [eC10, va_up_ne _ _ (by omega)]; exact hfC9 i hi hne
  have ha10_h : ad10 h = (ad h) := by rw [ead10, va_up_ne _ _ (by omega)]; exact ha8_h
  have ha10_0 : ad10 N = q2 := by rw [ead10, va_up_ne _ _ (by omega)]; exact ha8_0
  have ha10_1 : ad10 (N + 1) = q4 := by rw [ead10, va_up_ne _ _ (by omega)]; exact ha8_1
  have ha10_2 : ad10 (N + 2) = q6 := by rw [ead10, va_up_ne _ _ (by omega)]; exact ha8_2
  have ha10_3 : ad10 (N + 3) = q8 := by rw [ead10, va_up_ne _ _ (by omega)]; exact ha8_3
  have ha10_4 : ad10 (N + 4) = q10 := by rw [ead10]; exact va_up_self _ _ _
  have hfa10 : ∀ i, i < N → ad10 i = ad i := fun i hi => by rw [ead10, va_up_ne _ _ (by omega)]; exact hfa8 i hi
  refine x_putF (fs' := [.int (nI 0), .ref q2, .ref q4, .ref q6, .ref q8, .ref q10]) S hw h ha10_h (by omega) hC10_h rfl in_X0 tyX0_ok nmX0 5 (by decide) wf_X0_29 rfl hini rfl rfl rfl (by show 5 < 6; decide) rfl dX0_init_46 (fun C11 H locs eC11 hw => ?_)
  have hC11_h : C11 h = .inr (0, [.int (nI 0), .ref q2, .ref q4, .ref q6, .ref q8, .ref q10]) := by rw [eC11]; exact va_up_self _ _ _
  have hC11_0 : C11 N = .inl (G.2.2.1, 6, .inl (fun _ => 0)) := by rw [eC11, va_up_ne _ _ (by omega)]; exact hC10_0
  have hC11_1 : C11 (N + 1) = .inl (G.2.2.1, 6, .inl (fun _ => 0)) := by rw [eC11, va_up_ne _ _ (by omega)]; exact hC10_1
  have hC11_2 : C11 (N + 2) = .inl (G.2.2.2.1, 48, .inl (fun _ => 0)) := by rw [eC11, va_up_ne _ _ (by omega)]; exact hC10_2
  have hC11_3 : C11 (N + 3) = .inl (G.2.2.1, 48, .inl (fun _ => 0)) := by rw [eC11, va_up_ne _ _ (by omega)]; exact hC10_3
  have hC11_4 : C11 (N + 4) = .inl (G.2.2.1, 48, .inl (fun _ => 0)) := by rw [eC11, va_up_ne _ _ (by omega)]; exact hC10_4
  have hfC11 : ∀ i, i < N → i ≠ h → C11 i = C i := fun i hi hne => by rw [eC11, va_up_ne _ _ (by omega)]; exact hfC10 i hi hne
  exact g_retv S hr hlocks hw ⟨rfl, hfa10, hfC11, by simp only [ha10_0, ha10_1, ha10_2, ha10_3, ha10_4]; exact hC11_h, by exact hC11_0, by exact hC11_1, by exact hC11_2, by exact hC11_3, by exact hC11_4⟩ dX0_init_49

set_option maxHeartbeats 4000000 in
set_option maxRecDepth 100000 in
theorem c_X6_init (l : Launch) (G : GT) (N : Nat) (ad : Nat → Nat) (C : Nat → va_E) (h : Nat) (hh : h < N) (hC : C h = .inr (6, [.int 0, .null, .null, .null, .null])) : CgV l G yX6_init cX6_init 1 1 20 4 80 [.ref (ad h)] (N, ad, C) (fun u => u.1 = (N + 4) ∧ (∀ i, i < N → u.2.1 i = ad i) ∧ (∀ i, i < N → i ≠ h → u.2.2 i = C i) ∧ u.2.2 h = .inr (6, [.int (nI 0), .ref (u.2.1 N), .ref (u.2.1 (N + 1)), .ref (u.2.1 (N + 2)), .ref (u.2.1 (N + 3))]) ∧ u.2.2 N = .inl (G.2.2.1, 20, .inl (fun _ => 0)) ∧ u.2.2 (N + 1) = .inl (G.2.2.1, 20, .inl (fun _ => 0)) ∧ u.2.2 (N + 2) = .inl (G.2.2.1, 20, .inl (fun _ => 0)) ∧ u.2.2 (N + 3) = .inl (G.2.2.1, 20, .inl (fun _ => 0))) := by
  refine cg_startV (by decide +kernel) (Nat.le_of_ble_eq_true rfl) ?_
  intro p e s m below meth c ls S hr hlocks hini hw hl
  have hini : meth.name = "<init>" := hini
  have hw : Wg G N ad C s s.heap [] := hw
  have hl : lv_has ls 1 [(0, .ref (ad h))] := hl
  refine lv_aload_n S.1 S.2.1 dX6_init_0 rfl (lv_at hl 0 rfl) ?_
  refine x_oi S wm_X6_3 hl.1 dX6_init_1 (by decide) (by decide) ?_
  refine lv_aload_n S.1 S.2.1 dX6_init_4 rfl (lv_at hl 0 rfl) ?_
  refine lv_iconst (v := nI 0) S.1 S.2.1 dX6_init_5 (by decide) ?_
  refine x_put (fs' := [.int (nI 0), .null, .null, .null, .null]) S hw h rfl (by omega) hC rfl in_X6 tyX6_ok nmX6 0 (by decide) wf_X6_9 rfl rfl rfl (by show 0 < 5; decide) rfl dX6_init_6 (fun C1 H locs eC1 hw => ?_)
  have hC1_h : C1 h = .inr (6, [.int (nI 0), .null, .null, .null, .null]) := by rw [eC1]; exact va_up_self _ _ _
  have hfC1 : ∀ i, i < N → i ≠ h → C1 i = C i := fun i hi hne => by rw [eC1, va_up_ne _ _ (by omega)]
  refine lv_aload_n S.1 S.2.1 dX6_init_9 rfl (lv_at hl 0 rfl) ?_
  refine lv_bipush (v := nI 20) S.1 S.2.1 dX6_init_10 (by decide) ?_
  refine x_newI (N' := 20) S hw (by decide) (by decide) (by decide) (by decide) (by decide) rfl dX6_init_12 (fun q2 ad2 C2 H ead2 eC2 hw => ?_)
  have hC2_h : C2 h = .inr (6, [.int (nI 0), .null, .null, .null, .null]) := by rw [eC2, va_up_ne _ _ (by omega)]; exact hC1_h
  have hC2_0 : C2 N = .inl (G.2.2.1, 20, .inl (fun _ => 0)) := by rw [eC2]; exact va_up_self _ _ _
  have hfC2 : ∀ i, i < N → i ≠ h → C2 i = C i := fun i hi hne => by rw [eC2, va_up_ne _ _ (by omega)]; exact hfC1 i hi hne
  have ha2_h : ad2 h = (ad h) := by rw [ead2, va_up_ne _ _ (by omega)]
  have ha2_0 : ad2 N = q2 := by rw [ead2]; exact va_up_self _ _ _
  have hfa2 : ∀ i, i < N → ad2 i = ad i := fun i hi => by rw [ead2, va_up_ne _ _ (by omega)]
  refine x_putF (fs' := [.int (nI 0), .ref q2, .null, .null, .null]) S hw h ha2_h (by omega) hC2_h rfl in_X6 tyX6_ok nmX6 1 (by decide) wf_X6_15 rfl hini rfl rfl rfl (by show 1 < 5; decide) rfl dX6_init_14 (fun C3 H locs eC3 hw => ?_)
  have hC3_h : C3 h = .inr (6, [.int (nI 0), .ref q2, .null, .null, .null]) := by rw [eC3]; exact va_up_self _ _ _
  have hC3_0 : C3 N = .inl (G.2.2.1, 20, .inl (fun _ => 0)) := by rw [eC3, va_up_ne _ _ (by omega)]; exact hC2_0
  have hfC3 : ∀ i, i < N → i ≠ h → C3 i = C i := fun i hi hne => by rw [eC3, va_up_ne _ _ (by omega)]; exact hfC2 i hi hne
  refine lv_aload_n S.1 S.2.1 dX6_init_17 rfl (lv_at hl 0 rfl) ?_
  refine lv_bipush (v := nI 20) S.1 S.2.1 dX6_init_18 (by decide) ?_
  refine x_newI (N' := 20) S hw (by decide) (by decide) (by decide) (by decide) (by decide) rfl dX6_init_20 (fun q4 ad4 C4 H ead4 eC4 hw => ?_)
  have hC4_h : C4 h = .inr (6, [.int (nI 0), .ref q2, .null, .null, .null]) := by rw [eC4, va_up_ne _ _ (by omega)]; exact hC3_h
  have hC4_0 : C4 N = .inl (G.2.2.1, 20, .inl (fun _ => 0)) := by rw [eC4, va_up_ne _ _ (by omega)]; exact hC3_0
  have hC4_1 : C4 (N + 1) = .inl (G.2.2.1, 20, .inl (fun _ => 0)) := by rw [eC4]; exact va_up_self _ _ _
  have hfC4 : ∀ i, i < N → i ≠ h → C4 i = C i := fun i hi hne => by rw [eC4, va_up_ne _ _ (by omega)]; exact hfC3 i hi hne
  have ha4_h : ad4 h = (ad h) := by rw [ead4, va_up_ne _ _ (by omega)]; exact ha2_h
  have ha4_0 : ad4 N = q2 := by rw [ead4, va_up_ne _ _ (by omega)]; exact ha2_0
  have ha4_1 : ad4 (N + 1) = q4 := by rw [ead4]; exact va_up_self _ _ _
  have hfa4 : ∀ i, i < N → ad4 i = ad i := fun i hi => by rw [ead4, va_up_ne _ _ (by omega)]; exact hfa2 i hi
  refine x_putF (fs' := [.int (nI 0), .ref q2, .ref q4, .null, .null]) S hw h ha4_h (by omega) hC4_h rfl in_X6 tyX6_ok nmX6 2 (by decide) wf_X6_19 rfl hini rfl rfl rfl (by show 2 < 5; decide) rfl dX6_init_22 (fun C5 H locs eC5 hw => ?_)
  have hC5_h : C5 h = .inr (6, [.int (nI 0), .ref q2, .ref q4, .null, .null]) := by rw [eC5]; exact va_up_self _ _ _
  have hC5_0 : C5 N = .inl (G.2.2.1, 20, .inl (fun _ => 0)) := by rw [eC5, va_up_ne _ _ (by omega)]; exact hC4_0
  have hC5_1 : C5 (N + 1) = .inl (G.2.2.1, 20, .inl (fun _ => 0)) := by rw [eC5, va_up_ne _ _ (by omega)]; exact hC4_1
  have hfC5 : ∀ i, i < N → i ≠ h → C5 i = C i := fun i hi hne => by rw [eC5, va_up_ne _ _ (by omega)]; exact hfC4 i hi hne
  refine lv_aload_n S.1 S.2.1 dX6_init_25 rfl (lv_at hl 0 rfl) ?_
  refine lv_bipush (v := nI 20) S.1 S.2.1 dX6_init_26 (by decide) ?_
  refine x_newI (N' := 20) S hw (by decide) (by decide) (by decide) (by decide) (by decide) rfl dX6_init_28 (fun q6 ad6 C6 H ead6 eC6 hw => ?_)
  have hC6_h : C6 h = .inr (6, [.int (nI 0), .ref q2, .ref q4, .null, .null]) := by rw [eC6, va_up_ne _ _ (by omega)]; exact hC5_h
  have hC6_0 : C6 N = .inl (G.2.2.1, 20, .inl (fun _ => 0)) := by rw [eC6, va_up_ne _ _ (by omega)]; exact hC5_0
  have hC6_1 : C6 (N + 1) = .inl (G.2.2.1, 20, .inl (fun _ => 0)) := by rw [eC6, va_up_ne _ _ (by omega)]; exact hC5_1
  have hC6_2 : C6 (N + 2) = .inl (G.2.2.1, 20, .inl (fun _ => 0)) := by rw [eC6]; exact va_up_self _ _ _
  have hfC6 : ∀ i, i < N → i ≠ h → C6 i = C i := fun i hi hne => by rw [eC6, va_up_ne _ _ (by omega)]; exact hfC5 i hi hne
  have ha6_h : ad6 h = (ad h) := by rw [ead6, va_up_ne _ _ (by omega)]; exact ha4_h
  have ha6_0 : ad6 N = q2 := by rw [ead6, va_up_ne _ _ (by omega)]; exact ha4_0
  have ha6_1 : ad6 (N + 1) = q4 := by rw [ead6, va_up_ne _ _ (by omega)]; exact ha4_1
  have ha6_2 : ad6 (N + 2) = q6 := by rw [ead6]; exact va_up_self _ _ _
  have hfa6 : ∀ i, i < N → ad6 i = ad i := fun i hi => by rw [ead6, va_up_ne _ _ (by omega)]; exact hfa4 i hi
  refine x_putF (fs' := [.int (nI 0), .ref q2, .ref q4, .ref q6, .null]) S hw h ha6_h (by omega) hC6_h rfl in_X6 tyX6_ok nmX6 3 (by decide) wf_X6_22 rfl hini rfl rfl rfl (by show 3 < 5; decide) rfl dX6_init_30 (fun C7 H locs eC7 hw => ?_)
  have hC7_h : C7 h = .inr (6, [.int (nI 0), .ref q2, .ref q4, .ref q6, .null]) := by rw [eC7]; exact va_up_self _ _ _
  have hC7_0 : C7 N = .inl (G.2.2.1, 20, .inl (fun _ => 0)) := by rw [eC7, va_up_ne _ _ (by omega)]; exact hC6_0
  have hC7_1 : C7 (N + 1) = .inl (G.2.2.1, 20, .inl (fun _ => 0)) := by rw [eC7, va_up_ne _ _ (by omega)]; exact hC6_1
  have hC7_2 : C7 (N + 2) = .inl (G.2.2.1, 20, .inl (fun _ => 0)) := by rw [eC7, va_up_ne _ _ (by omega)]; exact hC6_2
  have hfC7 : ∀ i, i < N → i ≠ h → C7 i = C i := fun i hi hne => by rw [eC7, va_up_ne _ _ (by omega)]; exact hfC6 i hi hne
  refine lv_aload_n S.1 S.2.1 dX6_init_33 rfl (lv_at hl 0 rfl) ?_
  refine lv_bipush (v := nI 20) S.1 S.2.1 dX6_init_34 (by decide) ?_
  refine x_newI (N' := 20) S hw (by decide) (by decide) (by decide) (by decide) (by decide) rfl dX6_init_36 (fun q8 ad8 C8 H ead8 eC8 hw => ?_)
  have hC8_h : C8 h = .inr (6, [.int (nI 0), .ref q2, .ref q4, .ref q6, .null]) := by rw [eC8, va_up_ne _ _ (by omega)]; exact hC7_h
  have hC8_0 : C8 N = .inl (G.2.2.1, 20, .inl (fun _ => 0)) := by rw [eC8, va_up_ne _ _ (by omega)]; exact hC7_0
  have hC8_1 : C8 (N + 1) = .inl (G.2.2.1, 20, .inl (fun _ => 0)) := by rw [eC8, va_up_ne _ _ (by omega)]; exact hC7_1
  have hC8_2 : C8 (N + 2) = .inl (G.2.2.1, 20, .inl (fun _ => 0)) := by rw [eC8, va_up_ne _ _ (by omega)]; exact hC7_2
  have hC8_3 : C8 (N + 3) = .inl (G.2.2.1, 20, .inl (fun _ => 0)) := by rw [eC8]; exact va_up_self _ _ _
  have hfC8 : ∀ i, i < N → i ≠ h → C8 i = C i := fun i hi hne => by rw [eC8, va_up_ne _ _ (by omega)]; exact hfC7 i hi hne
  have ha8_h : ad8 h = (ad h) := by rw [ead8, va_up_ne _ _ (by omega)]; exact ha6_h
  have ha8_0 : ad8 N = q2 := by rw [ead8, va_up_ne _ _ (by omega)]; exact ha6_0
  have ha8_1 : ad8 (N + 1) = q4 := by rw [ead8, va_up_ne _ _ (by omega)]; exact ha6_1
  have ha8_2 : ad8 (N + 2) = q6 := by rw [ead8, va_up_ne _ _ (by omega)]; exact ha6_2
  have ha8_3 : ad8 (N + 3) = q8 := by rw [ead8]; exact va_up_self _ _ _
  have hfa8 : ∀ i, i < N → ad8 i = ad i := fun i hi => by rw [ead8, va_up_ne _ _ (by omega)]; exact hfa6 i hi
  refine x_putF (fs' := [.int (nI 0), .ref q2, .ref q4, .ref q6, .ref q8]) S hw h ha8_h (by omega) hC8_h rfl in_X6 tyX6_ok nmX6 4 (by decide) wf_X6_25 rfl hini rfl rfl rfl (by show 4 < 5; decide) rfl dX6_init_38 (fun C9 H locs eC9 hw => ?_)
  have hC9_h : C9 h = .inr (6, [.int (nI 0), .ref q2, .ref q4, .ref q6, .ref q8]) := by rw [eC9]; exact va_up_self _ _ _
  have hC9_0 : C9 N = .inl (G.2.2.1, 20, .inl (fun _ => 0)) := by rw [eC9, va_up_ne _ _ (by omega)]; exact hC8_0
  have hC9_1 : C9 (N + 1) = .inl (G.2.2.1, 20, .inl (fun _ => 0)) := by rw [eC9, va_up_ne _ _ (by omega)]; exact hC8_1
  have hC9_2 : C9 (N + 2) = .inl (G.2.2.1, 20, .inl (fun _ => 0)) := by rw [eC9, va_up_ne _ _ (by omega)]; exact hC8_2
  have hC9_3 : C9 (N + 3) = .inl (G.2.2.1, 20, .inl (fun _ => 0)) := by rw [eC9, va_up_ne _ _ (by omega)]; exact hC8_3
  have hfC9 : ∀ i, i < N → i ≠ h → C9 i = C i := fun i hi hne => by rw [eC9, va_up_ne _ _ (by omega)]; exact hfC8 i hi hne
  exact g_retv S hr hlocks hw ⟨rfl, hfa8, hfC9, by simp only [ha8_0, ha8_1, ha8_2, ha8_3]; exact hC9_h, by exact hC9_0, by exact hC9_1, by exact hC9_2, by exact hC9_3⟩ dX6_init_41
