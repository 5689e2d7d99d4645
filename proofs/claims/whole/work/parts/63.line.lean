/-! side goals of constructors, closed -/
theorem nz_zh {h N : Nat} (hh : h < N) (k : Nat) : h ≠ N + k := by omega
theorem nz_zn (N a b : Nat) (h : a ≠ b) : N + a ≠ N + b := by omega
theorem nz_z0 (N b : Nat) (h : 0 ≠ b) : N ≠ N + b := by omega
theorem lt_z0 (N b : Nat) (h : 0 < b) : N < N + b := by omega
theorem lt_zh {h N : Nat} (hh : h < N) (k : Nat) : h < N + k := by omega
theorem lt_zn (N a b : Nat) (h : a < b) : N + a < N + b := by omega

theorem df_X0 : ∀ j, j < 6 → defaultValue (tyX0 j) = vp_V [.int 0, .null, .null, .null, .null, .null] j := by
  intro j hj
  rcases (show j = 0 ∨ j = 1 ∨ j = 2 ∨ j = 3 ∨ j = 4 ∨ j = 5 by omega) with rfl | rfl | rfl | rfl | rfl | rfl <;> rfl

theorem df_X1 : ∀ j, j < 7 → defaultValue (tyX1 j) = vp_V [.int 0, .int 0, .int 0, .null, .null, .null, .null] j := by
  intro j hj
  rcases (show j = 0 ∨ j = 1 ∨ j = 2 ∨ j = 3 ∨ j = 4 ∨ j = 5 ∨ j = 6 by omega) with rfl | rfl | rfl | rfl | rfl | rfl | rfl <;> rfl

theorem df_X3 : ∀ j, j < 5 → defaultValue (tyX3 j) = vp_V [.int 0, .int 0, .int 0, .int 0, .int 0] j := by
  intro j hj
  rcases (show j = 0 ∨ j = 1 ∨ j = 2 ∨ j = 3 ∨ j = 4 by omega) with rfl | rfl | rfl | rfl | rfl <;> rfl

theorem df_X5 : ∀ j, j < 4 → defaultValue (tyX5 j) = vp_V [.null, .null, .null, .null] j := by
  intro j hj
  rcases (show j = 0 ∨ j = 1 ∨ j = 2 ∨ j = 3 by omega) with rfl | rfl | rfl | rfl <;> rfl

theorem df_X6 : ∀ j, j < 5 → defaultValue (tyX6 j) = vp_V [.int 0, .null, .null, .null, .null] j := by
  intro j hj
  rcases (show j = 0 ∨ j = 1 ∨ j = 2 ∨ j = 3 ∨ j = 4 by omega) with rfl | rfl | rfl | rfl | rfl <;> rfl

/-! OilLine(): all cells of the class, as a memory -/
def mZ7 : Mem := fun i => if i = 2 then (fun j => if j < 64 then nI 1 else 0) else if i = 5 then (fun j => if j < 24 then nI 1 else 0) else if i = 20 then (fun j => if j = 2 then nI 1 else nI 0) else fun _ => 0
def Init7 (M : Mem) : Prop := (M 0 8 = nI 0 ∧ M 6 0 = nI 0 ∧ M 12 0 = nI 0) ∧ (∀ j, j < 64 → M 2 j = nI 1) ∧ (M 3 = fun _ => 0) ∧ (M 4 = fun _ => 0) ∧ (∀ j, j < 24 → M 5 j = nI 1) ∧ (M 9 = fun _ => 0) ∧ M 18 0 = nI 0 ∧ M 19 0 = -1 ∧ (M 20 0 = nI 0 ∧ M 20 1 = nI 0 ∧ M 20 2 = nI 1 ∧ M 21 0 = nI 20) ∧ (∀ j, j < 20 → M 22 j = nI 0 ∧ M 23 j = nI 0 ∧ M 24 j = -1 ∧ M 25 j = nI 0) ∧ (∀ j, j < 6 → M 30 j = nI 0) ∧ M 31 0 = nI 0
theorem no33 {ad : Nat → Nat} : (fun j => if j < 0 then some (ad (61 + 13 * j)) else none) = fun _ => (none : Option Nat) := by
  funext j
  simp

theorem lt34c {i : Nat} (h1 : 0 ≤ i) (h : i < 34) : i = 0 ∨ i = 1 ∨ i = 2 ∨ i = 3 ∨ i = 4 ∨ i = 5 ∨ i = 6 ∨ i = 7 ∨ i = 8 ∨ i = 9 ∨ i = 10 ∨ i = 11 ∨ i = 12 ∨ i = 13 ∨ i = 14 ∨ i = 15 ∨ i = 16 ∨ i = 17 ∨ i = 18 ∨ i = 19 ∨ i = 20 ∨ i = 21 ∨ i = 22 ∨ i = 23 ∨ i = 24 ∨ i = 25 ∨ i = 26 ∨ i = 27 ∨ i = 28 ∨ i = 29 ∨ i = 30 ∨ i = 31 ∨ i = 32 ∨ i = 33 := by omega

set_option maxHeartbeats 4000000 in
set_option maxRecDepth 100000 in
theorem conv7 {G : GT} {ad : Nat → Nat} {C : Nat → va_E} (h0 : C 0 = .inr (7, [.ref (ad 1), .ref (ad 6), .ref (ad 12), .ref (ad 17), .ref (ad 18), .ref (ad 19), .ref (ad 20), .ref (ad 33), .int (nI 0)])) (h1 : C 1 = .inr (5, [.ref (ad 2), .ref (ad 3), .ref (ad 4), .ref (ad 5)])) (h2 : C 2 = .inl (G.2.2.2.1, 64, .inl (fun j => if j < 64 then nI 1 else 0))) (h3 : C 3 = .inl (G.2.2.1, 64, .inl (fun _ => 0))) (h4 : C 4 = .inl (G.2.2.1, 8, .inl (fun _ => 0))) (h5 : C 5 = .inl (G.2.2.1, 24, .inl (fun j => if j < 24 then nI 1 else 0))) (h6 : C 6 = .inr (0, [.int (nI 0), .ref (ad 7), .ref (ad 8), .ref (ad 9), .ref (ad 10), .ref (ad 11)])) (h7 : C 7 = .inl (G.2.2.1, 6, .inl (fun _ => 0))) (h8 : C 8 = .inl (G.2.2.1, 6, .inl (fun _ => 0))) (h9 : C 9 = .inl (G.2.2.2.1, 48, .inl (fun _ => 0))) (h10 : C 10 = .inl (G.2.2.1, 48, .inl (fun _ => 0))) (h11 : C 11 = .inl (G.2.2.1, 48, .inl (fun _ => 0))) (h12 : C 12 = .inr (6, [.int (nI 0), .ref (ad 13), .ref (ad 14), .ref (ad 15), .ref (ad 16)])) (h13 : C 13 = .inl (G.2.2.1, 20, .inl (fun _ => 0))) (h14 : C 14 = .inl (G.2.2.1, 20, .inl (fun _ => 0))) (h15 : C 15 = .inl (G.2.2.1, 20, .inl (fun _ => 0))) (h16 : C 16 = .inl (G.2.2.1, 20, .inl (fun _ => 0))) (h17 : C 17 = .inr (3, [.int (nI 0), .int (nI 0), .int (nI 0), .int (nI 0), .int (nI 0)])) (h18 : C 18 = .inl (G.2.2.1, 200, .inl (fun _ => 0))) (h19 : C 19 = .inl (G.2.2.1, 200, .inl (fun _ => 0))) (h20 : C 20 = .inr (1, [.int (nI 0), .int (nI 0), .int (nI 1), .ref (ad 21), .ref (ad 26), .ref (ad 31), .ref (ad 32)])) (h21 : C 21 = .inr (2, [.int (nI 0), .ref (ad 22), .ref (ad 23), .ref (ad 24), .ref (ad 25)])) (h22 : C 22 = .inl (G.2.2.1, 120, .inl (fun _ => 0))) (h23 : C 23 = .inl (G.2.2.1, 120, .inl (fun _ => 0))) (h24 : C 24 = .inl (G.2.2.1, 120, .inl (fun _ => 0))) (h25 : C 25 = .inl (G.2.2.1, 120, .inl (fun _ => 0))) (h26 : C 26 = .inr (4, [.ref (ad 27), .ref (ad 28), .ref (ad 29), .ref (ad 30)])) (h27 : C 27 = .inl (G.2.2.1, 48, .inl (fun _ => 0))) (h28 : C 28 = .inl (G.2.2.1, 48, .inl (fun _ => 0))) (h29 : C 29 = .inl (G.2.2.1, 48, .inl (fun _ => 0))) (h30 : C 30 = .inl (G.2.2.1, 6, .inl (fun _ => 0))) (h31 : C 31 = .inl (G.2.2.1, 200, .inl (fun _ => 0))) (h32 : C 32 = .inl (G.2.2.1, 20, .inl (fun _ => 0))) (h33 : C 33 = .inl (G.2.2.2.2, 200, .inr (.inr (.inr (.inr (fun _ => none)))))) : ∀ i, i < 34 → C i = cellOf G 0 ad mZ7 i := by
  intro i hi
  rcases (lt34c (Nat.zero_le _) hi) with rfl | rfl | rfl | rfl | rfl | rfl | rfl | rfl | rfl | rfl | rfl | rfl | rfl | rfl | rfl | rfl | rfl | rfl | rfl | rfl | rfl | rfl | rfl | rfl | rfl | rfl | rfl | rfl | rfl | rfl | rfl | rfl | rfl | rfl
  · exact h0.trans (cell_O (G := G) (K := 0) (ad := ad) (M := mZ7) (k := 0) (n := 7) (l := [some 1, some 6, some 12, some 17, some 18, some 19, some 20, some 33, none]) rfl).symm
  · exact h1.trans (cell_O (G := G) (K := 0) (ad := ad) (M := mZ7) (k := 1) (n := 5) (l := [some 2, some 3, some 4, some 5]) rfl).symm
  · exact h2.trans (cell_Z (G := G) (K := 0) (ad := ad) (M := mZ7) (k := 2) (n := 64) (l := []) rfl).symm
  · exact h3.trans (cell_I (G := G) (K := 0) (ad := ad) (M := mZ7) (k := 3) (n := 64) (l := []) rfl).symm
  · exact h4.trans (cell_I (G := G) (K := 0) (ad := ad) (M := mZ7) (k := 4) (n := 8) (l := []) rfl).symm
  · exact h5.trans (cell_I (G := G) (K := 0) (ad := ad) (M := mZ7) (k := 5) (n := 24) (l := []) rfl).symm
  · exact h6.trans (cell_O (G := G) (K := 0) (ad := ad) (M := mZ7) (k := 6) (n := 0) (l := [none, some 7, some 8, some 9, some 10, some 11]) rfl).symm
  · exact h7.trans (cell_I (G := G) (K := 0) (ad := ad) (M := mZ7) (k := 7) (n := 6) (l := []) rfl).symm
  · exact h8.trans (cell_I (G := G) (K := 0) (ad := ad) (M := mZ7) (k := 8) (n := 6) (l := []) rfl).symm
  · exact h9.trans (cell_Z (G := G) (K := 0) (ad := ad) (M := mZ7) (k := 9) (n := 48) (l := []) rfl).symm
  · exact h10.trans (cell_I (G := G) (K := 0) (ad := ad) (M := mZ7) (k := 10) (n := 48) (l := []) rfl).symm
  · exact h11.trans (cell_I (G := G) (K := 0) (ad := ad) (M := mZ7) (k := 11) (n := 48) (l := []) rfl).symm
  · exact h12.trans (cell_O (G := G) (K := 0) (ad := ad) (M := mZ7) (k := 12) (n := 6) (l := [none, some 13, some 14, some 15, some 16]) rfl).symm
  · exact h13.trans (cell_I (G := G) (K := 0) (ad := ad) (M := mZ7) (k := 13) (n := 20) (l := []) rfl).symm
  · exact h14.trans (cell_I (G := G) (K := 0) (ad := ad) (M := mZ7) (k := 14) (n := 20) (l := []) rfl).symm
  · exact h15.trans (cell_I (G := G) (K := 0) (ad := ad) (M := mZ7) (k := 15) (n := 20) (l := []) rfl).symm
  · exact h16.trans (cell_I (G := G) (K := 0) (ad := ad) (M := mZ7) (k := 16) (n := 20) (l := []) rfl).symm
  · exact h17.trans (cell_O (G := G) (K := 0) (ad := ad) (M := mZ7) (k := 17) (n := 3) (l := [none, none, none, none, none]) rfl).symm
  · exact h18.trans (cell_I (G := G) (K := 0) (ad := ad) (M := mZ7) (k := 18) (n := 200) (l := []) rfl).symm
  · exact h19.trans (cell_I (G := G) (K := 0) (ad := ad) (M := mZ7) (k := 19) (n := 200) (l := []) rfl).symm
  · exact h20.trans (cell_O (G := G) (K := 0) (ad := ad) (M := mZ7) (k := 20) (n := 1) (l := [none, none, none, some 21, some 26, some 31, some 32]) rfl).symm
  · exact h21.trans (cell_O (G := G) (K := 0) (ad := ad) (M := mZ7) (k := 21) (n := 2) (l := [none, some 22, some 23, some 24, some 25]) rfl).symm
  · exact h22.trans (cell_I (G := G) (K := 0) (ad := ad) (M := mZ7) (k := 22) (n := 120) (l := []) rfl).symm
  · exact h23.trans (cell_I (G := G) (K := 0) (ad := ad) (M := mZ7) (k := 23) (n := 120) (l := []) rfl).symm
  · exact h24.trans (cell_I (G := G) (K := 0) (ad := ad) (M := mZ7) (k := 24) (n := 120) (l := []) rfl).symm
  · exact h25.trans (cell_I (G := G) (K := 0) (ad := ad) (M := mZ7) (k := 25) (n := 120) (l := []) rfl).symm
  · exact h26.trans (cell_O (G := G) (K := 0) (ad := ad) (M := mZ7) (k := 26) (n := 4) (l := [some 27, some 28, some 29, some 30]) rfl).symm
  · exact h27.trans (cell_I (G := G) (K := 0) (ad := ad) (M := mZ7) (k := 27) (n := 48) (l := []) rfl).symm
  · exact h28.trans (cell_I (G := G) (K := 0) (ad := ad) (M := mZ7) (k := 28) (n := 48) (l := []) rfl).symm
  · exact h29.trans (cell_I (G := G) (K := 0) (ad := ad) (M := mZ7) (k := 29) (n := 48) (l := []) rfl).symm
  · exact h30.trans (cell_I (G := G) (K := 0) (ad := ad) (M := mZ7) (k := 30) (n := 6) (l := []) rfl).symm
  · exact h31.trans (cell_I (G := G) (K := 0) (ad := ad) (M := mZ7) (k := 31) (n := 200) (l := []) rfl).symm
  · exact h32.trans (cell_I (G := G) (K := 0) (ad := ad) (M := mZ7) (k := 32) (n := 20) (l := []) rfl).symm
  · rw [cell_Q (k := 33) (n := 200) (l := []) rfl, no33]; exact h33

set_option maxHeartbeats 4000000 in
set_option maxRecDepth 100000 in
theorem c_X7_init (l : Launch) (G : GT) (N : Nat) (hN : N = 1) (ad : Nat → Nat) (C : Nat → va_E) (h : Nat) (h0 : h = 0) (hC : C h = .inr (7, [.null, .null, .null, .null, .null, .null, .null, .null, .int 0])) : CgV l G yX7_init cX7_init 1 3 66 33 1882 [.ref (ad h)] (N, ad, C) (fun u => u.1 = 34 ∧ u.2.1 0 = ad 0 ∧ ∃ M : Mem, (∀ i, i < 34 → u.2.2 i = cellOf G 0 u.2.1 M i) ∧ Init7 M) := by
  have hh : h < N := by omega
  refine cg_startV (by decide +kernel) (Nat.le_of_ble_eq_true rfl) ?_
  intro p e s m below meth c ls S hr hlocks hini hw hl
  have hini : meth.name = "<init>" := hini
  have hw0 : Wg G N ad C s s.heap [] := hw
  clear hw
  have hl : lv_has ls 1 [(0, .ref (ad h))] := hl
  refine lv_aload_n S.1 S.2.1 dX7_init_0 rfl (lv_at hl 0 rfl) ?_
  refine x_oi S wm_X7_3 hl.1 dX7_init_1 (by decide) (by decide) ?_
  refine lv_aload_n S.1 S.2.1 dX7_init_4 rfl (lv_at hl 0 rfl) ?_
  refine x_new (ci := 5) (fs := [.null, .null, .null, .null]) S hw0 rfl in_X5 tyX5_ok wk_X7_9 wb_X5 wn_X5 df_X5 (by decide) (by decide) dX7_init_5 (fun q1 ad1 C1 H1 ead1 eC1 hw1 => ?_)
  have hC1_h : C1 h = .inr (7, [.null, .null, .null, .null, .null, .null, .null, .null, .int 0]) := by rw [eC1, va_up_ne _ _ (Nat.ne_of_lt hh)]; exact hC
  have hC1_0 : C1 N = .inr (5, [.null, .null, .null, .null]) := by rw [eC1]; exact va_up_self _ _ _
  have hfC1 : ∀ i, i < N → i ≠ h → C1 i = C i := fun i hi hne => by rw [eC1, va_up_ne _ _ (Nat.ne_of_lt hi)]
  have ha1_h : ad1 h = (ad h) := by rw [ead1, va_up_ne _ _ (Nat.ne_of_lt hh)]
  have ha1_0 : ad1 N = q1 := by rw [ead1]; exact va_up_self _ _ _
  have hfa1 : ∀ i, i < N → ad1 i = ad i := fun i hi => by rw [ead1, va_up_ne _ _ (Nat.ne_of_lt hi)]
  clear eC1 ead1 hw0
  refine lv_dup S.1 S.2.1 dX7_init_8 rfl ?_
  have hM2 := c_X5_init l G (N + 1) ad1 C1 N (lt_z0 N 1 (by decide)) hC1_0
  rw [ha1_0] at hM2
  refine g_cI (As := []) (rest := [.ref q1, .ref (ad h)]) S hw1 hM2 mf_X5_init wm_X7_11 ⟨by decide, by decide⟩ ⟨by decide, by decide⟩ hl.1 rfl (Nat.le_of_ble_eq_true rfl) dX7_init_9 (fun u2 H2 locs2 hp2 hw2 => ?_)
  obtain ⟨N2, ad2, C2⟩ := u2
  obtain ⟨eN2, pa2, pC2, ph2, pn2_0, pn2_1, pn2_2, pn2_3⟩ := hp2
  have eN2 : N2 = (N + 5) := eN2
  subst eN2
  have pa2 : ∀ i, i < (N + 1) → ad2 i = ad1 i := pa2
  have pC2 : ∀ i, i < (N + 1) → i ≠ N → C2 i = C1 i := pC2
  obtain ⟨q2_0, ha2_1⟩ : ∃ q, ad2 (N + 1) = q := ⟨_, rfl⟩
  obtain ⟨q2_1, ha2_2⟩ : ∃ q, ad2 (N + 2) = q := ⟨_, rfl⟩
  obtain ⟨q2_2, ha2_3⟩ : ∃ q, ad2 (N + 3) = q := ⟨_, rfl⟩
  obtain ⟨q2_3, ha2_4⟩ : ∃ q, ad2 (N + 4) = q := ⟨_, rfl⟩
  have hC2_h : C2 h = .inr (7, [.null, .null, .null, .null, .null, .null, .null, .null, .int 0]) := (pC2 _ (lt_zh hh 1) (Nat.ne_of_lt hh)).trans hC1_h
  have ha2_h : ad2 h = (ad h) := (pa2 _ (lt_zh hh 1)).trans ha1_h
  have ha2_0 : ad2 N = q1 := (pa2 _ (lt_z0 N 1 (by decide))).trans ha1_0
  have hC2_0 : C2 N = .inr (5, [.ref q2_0, .ref q2_1, .ref q2_2, .ref q2_3]) := by rw [← ha2_1, ← ha2_2, ← ha2_3, ← ha2_4]; exact ph2
  have hC2_1 : C2 (N + 1) = .inl (G.2.2.2.1, 64, .inl (fun j => if j < 64 then nI 1 else 0)) := by exact pn2_0
  have hC2_2 : C2 (N + 2) = .inl (G.2.2.1, 64, .inl (fun _ => 0)) := by exact pn2_1
  have hC2_3 : C2 (N + 3) = .inl (G.2.2.1, 8, .inl (fun _ => 0)) := by exact pn2_2
  have hC2_4 : C2 (N + 4) = .inl (G.2.2.1, 24, .inl (fun j => if j < 24 then nI 1 else 0)) := by exact pn2_3
  have hfC2 : ∀ i, i < N → i ≠ h → C2 i = C i := fun i hi hne => (pC2 i (lt_zh hi 1) (Nat.ne_of_lt hi)).trans (hfC1 i hi hne)
  have hfa2 : ∀ i, i < N → ad2 i = ad i := fun i hi => (pa2 i (lt_zh hi 1)).trans (hfa1 i hi)
  clear hfC1 hfa1 hC1_h hC1_0 ha1_h ha1_0 hM2 pa2 pC2 ph2 pn2_0 pn2_1 pn2_2 pn2_3 hw1
  refine x_putF (fs' := [.ref q1, .null, .null, .null, .null, .null, .null, .null, .int 0]) S hw2 h ha2_h (lt_zh hh 5) hC2_h rfl in_X7 tyX7_ok nmX7 0 (by decide) wf_X7_12 rfl hini rfl rfl rfl (by show 0 < 9; decide) rfl dX7_init_12 (fun C3 H3 locs3 eC3 hw3 => ?_)
  have hC3_h : C3 h = .inr (7, [.ref q1, .null, .null, .null, .null, .null, .null, .null, .int 0]) := by rw [eC3]; exact va_up_self _ _ _
  have hC3_0 : C3 N = .inr (5, [.ref q2_0, .ref q2_1, .ref q2_2, .ref q2_3]) := by rw [eC3, va_up_ne _ _ (Nat.ne_of_lt hh).symm]; exact hC2_0
  have hC3_1 : C3 (N + 1) = .inl (G.2.2.2.1, 64, .inl (fun j => if j < 64 then nI 1 else 0)) := by rw [eC3, va_up_ne _ _ (nz_zh hh 1).symm]; exact hC2_1
  have hC3_2 : C3 (N + 2) = .inl (G.2.2.1, 64, .inl (fun _ => 0)) := by rw [eC3, va_up_ne _ _ (nz_zh hh 2).symm]; exact hC2_2
  have hC3_3 : C3 (N + 3) = .inl (G.2.2.1, 8, .inl (fun _ => 0)) := by rw [eC3, va_up_ne _ _ (nz_zh hh 3).symm]; exact hC2_3
  have hC3_4 : C3 (N + 4) = .inl (G.2.2.1, 24, .inl (fun j => if j < 24 then nI 1 else 0)) := by rw [eC3, va_up_ne _ _ (nz_zh hh 4).symm]; exact hC2_4
  have hfC3 : ∀ i, i < N → i ≠ h → C3 i = C i := fun i hi hne => by rw [eC3, va_up_ne _ _ hne]; exact hfC2 i hi hne
  clear eC3 hfC2 hC2_h hC2_0 hC2_1 hC2_2 hC2_3 hC2_4 hw2
  refine lv_aload_n S.1 S.2.1 dX7_init_15 rfl (lv_at hl 0 rfl) ?_
  refine x_new (ci := 0) (fs := [.int 0, .null, .null, .null, .null, .null]) S hw3 rfl in_X0 tyX0_ok wk_X7_16 wb_X0 wn_X0 df_X0 (by decide) (by decide) dX7_init_16 (fun q4 ad4 C4 H4 ead4 eC4 hw4 => ?_)
  have hC4_h : C4 h = .inr (7, [.ref q1, .null, .null, .null, .null, .null, .null, .null, .int 0]) := by rw [eC4, va_up_ne _ _ (nz_zh hh 5)]; exact hC3_h
  have hC4_0 : C4 N = .inr (5, [.ref q2_0, .ref q2_1, .ref q2_2, .ref q2_3]) := by rw [eC4, va_up_ne _ _ (nz_z0 N 5 (by decide))]; exact hC3_0
  have hC4_1 : C4 (N + 1) = .inl (G.2.2.2.1, 64, .inl (fun j => if j < 64 then nI 1 else 0)) := by rw [eC4, va_up_ne _ _ (nz_zn N 1 5 (by decide))]; exact hC3_1
  have hC4_2 : C4 (N + 2) = .inl (G.2.2.1, 64, .inl (fun _ => 0)) := by rw [eC4, va_up_ne _ _ (nz_zn N 2 5 (by decide))]; exact hC3_2
  have hC4_3 : C4 (N + 3) = .inl (G.2.2.1, 8, .inl (fun _ => 0)) := by rw [eC4, va_up_ne _ _ (nz_zn N 3 5 (by decide))]; exact hC3_3
  have hC4_4 : C4 (N + 4) = .inl (G.2.2.1, 24, .inl (fun j => if j < 24 then nI 1 else 0)) := by rw [eC4, va_up_ne _ _ (nz_zn N 4 5 (by decide))]; exact hC3_4
  have hC4_5 : C4 (N + 5) = .inr (0, [.int 0, .null, .null, .null, .null, .null]) := by rw [eC4]; exact va_up_self _ _ _
  have hfC4 : ∀ i, i < N → i ≠ h → C4 i = C i := fun i hi hne => by rw [eC4, va_up_ne _ _ (nz_zh hi 5)]; exact hfC3 i hi hne
  have ha4_h : ad4 h = (ad h) := by rw [ead4, va_up_ne _ _ (nz_zh hh 5)]; exact ha2_h
  have ha4_0 : ad4 N = q1 := by rw [ead4, va_up_ne _ _ (nz_z0 N 5 (by decide))]; exact ha2_0
  have ha4_1 : ad4 (N + 1) = q2_0 := by rw [ead4, va_up_ne _ _ (nz_zn N 1 5 (by decide))]; exact ha2_1
  have ha4_2 : ad4 (N + 2) = q2_1 := by rw [ead4, va_up_ne _ _ (nz_zn N 2 5 (by decide))]; exact ha2_2
  have ha4_3 : ad4 (N + 3) = q2_2 := by rw [ead4, va_up_ne _ _ (nz_zn N 3 5 (by decide))]; exact ha2_3
  have ha4_4 : ad4 (N + 4) = q2_3 := by rw [ead4, va_up_ne _ _ (nz_zn N 4 5 (by decide))]; exact ha2_4
  have ha4_5 : ad4 (N + 5) = q4 := by rw [ead4]; exact va_up_self _ _ _
  have hfa4 : ∀ i, i < N → ad4 i = ad i := fun i hi => by rw [ead4, va_up_ne _ _ (nz_zh hi 5)]; exact hfa2 i hi
  clear eC4 hfC3 hC3_h hC3_0 hC3_1 hC3_2 hC3_3 hC3_4 ead4 hfa2 ha2_h ha2_0 ha2_1 ha2_2 ha2_3 ha2_4 hw3
  refine lv_dup S.1 S.2.1 dX7_init_19 rfl ?_
  have hM5 := c_X0_init l G (N + 6) ad4 C4 (N + 5) (lt_zn N 5 6 (by decide)) hC4_5
  rw [ha4_5] at hM5
  refine g_cIN (As := []) (rest := [.ref q4, .ref (ad h)]) S hw4 hM5 mf_X0_init (List.mem_of_getElem? (i := 0) rfl) ⟨by decide, by decide⟩ ⟨by decide, by decide⟩ hl.1 rfl (Nat.le_of_ble_eq_true rfl) dX7_init_20 (fun u5 H5 locs5 hp5 hw5 => ?_)
  obtain ⟨N5, ad5, C5⟩ := u5
  obtain ⟨eN5, pa5, pC5, ph5, pn5_0, pn5_1, pn5_2, pn5_3, pn5_4⟩ := hp5
  have eN5 : N5 = (N + 11) := eN5
  subst eN5
  have pa5 : ∀ i, i < (N + 6) → ad5 i = ad4 i := pa5
  have pC5 : ∀ i, i < (N + 6) → i ≠ (N + 5) → C5 i = C4 i := pC5
  obtain ⟨q5_0, ha5_6⟩ : ∃ q, ad5 (N + 6) = q := ⟨_, rfl⟩
  obtain ⟨q5_1, ha5_7⟩ : ∃ q, ad5 (N + 7) = q := ⟨_, rfl⟩
  obtain ⟨q5_2, ha5_8⟩ : ∃ q, ad5 (N + 8) = q := ⟨_, rfl⟩
  obtain ⟨q5_3, ha5_9⟩ : ∃ q, ad5 (N + 9) = q := ⟨_, rfl⟩
  obtain ⟨q5_4, ha5_10⟩ : ∃ q, ad5 (N + 10) = q := ⟨_, rfl⟩
  have hC5_h : C5 h = .inr (7, [.ref q1, .null, .null, .null, .null, .null, .null, .null, .int 0]) := (pC5 _ (lt_zh hh 6) (nz_zh hh 5)).trans hC4_h
  have ha5_h : ad5 h = (ad h) := (pa5 _ (lt_zh hh 6)).trans ha4_h
  have hC5_0 : C5 N = .inr (5, [.ref q2_0, .ref q2_1, .ref q2_2, .ref q2_3]) := (pC5 _ (lt_z0 N 6 (by decide)) (nz_z0 N 5 (by decide))).trans hC4_0
  have ha5_0 : ad5 N = q1 := (pa5 _ (lt_z0 N 6 (by decide))).trans ha4_0
  have hC5_1 : C5 (N + 1) = .inl (G.2.2.2.1, 64, .inl (fun j => if j < 64 then nI 1 else 0)) := (pC5 _ (lt_zn N 1 6 (by decide)) (nz_zn N 1 5 (by decide))).trans hC4_1
  have ha5_1 : ad5 (N + 1) = q2_0 := (pa5 _ (lt_zn N 1 6 (by decide))).trans ha4_1
  have hC5_2 : C5 (N + 2) = .inl (G.2.2.1, 64, .inl (fun _ => 0)) := (pC5 _ (lt_zn N 2 6 (by decide)) (nz_zn N 2 5 (by decide))).trans hC4_2
  have ha5_2 : ad5 (N + 2) = q2_1 := (pa5 _ (lt_zn N 2 6 (by decide))).trans ha4_2
  have hC5_3 : C5 (N + 3) = .inl (G.2.2.1, 8, .inl (fun _ => 0)) := (pC5 _ (lt_zn N 3 6 (by decide)) (nz_zn N 3 5 (by decide))).trans hC4_3
  have ha5_3 : ad5 (N + 3) = q2_2 := (pa5 _ (lt_zn N 3 6 (by decide))).trans ha4_3
  have hC5_4 : C5 (N + 4) = .inl (G.2.2.1, 24, .inl (fun j => if j < 24 then nI 1 else 0)) := (pC5 _ (lt_zn N 4 6 (by decide)) (nz_zn N 4 5 (by decide))).trans hC4_4
  have ha5_4 : ad5 (N + 4) = q2_3 := (pa5 _ (lt_zn N 4 6 (by decide))).trans ha4_4
  have ha5_5 : ad5 (N + 5) = q4 := (pa5 _ (lt_zn N 5 6 (by decide))).trans ha4_5
  have hC5_5 : C5 (N + 5) = .inr (0, [.int (nI 0), .ref q5_0, .ref q5_1, .ref q5_2, .ref q5_3, .ref q5_4]) := by rw [← ha5_6, ← ha5_7, ← ha5_8, ← ha5_9, ← ha5_10]; exact ph5
  have hC5_6 : C5 (N + 6) = .inl (G.2.2.1, 6, .inl (fun _ => 0)) := by exact pn5_0
  have hC5_7 : C5 (N + 7) = .inl (G.2.2.1, 6, .inl (fun _ => 0)) := by exact pn5_1
  have hC5_8 : C5 (N + 8) = .inl (G.2.2.2.1, 48, .inl (fun _ => 0)) := by exact pn5_2
  have hC5_9 : C5 (N + 9) = .inl (G.2.2.1, 48, .inl (fun _ => 0)) := by exact pn5_3
  have hC5_10 : C5 (N + 10) = .inl (G.2.2.1, 48, .inl (fun _ => 0)) := by exact pn5_4
  have hfC5 : ∀ i, i < N → i ≠ h → C5 i = C i := fun i hi hne => (pC5 i (lt_zh hi 6) (nz_zh hi 5)).trans (hfC4 i hi hne)
  have hfa5 : ∀ i, i < N → ad5 i = ad i := fun i hi => (pa5 i (lt_zh hi 6)).trans (hfa4 i hi)
  clear hfC4 hfa4 hC4_h hC4_0 hC4_1 hC4_2 hC4_3 hC4_4 hC4_5 ha4_h ha4_0 ha4_1 ha4_2 ha4_3 ha4_4 ha4_5 hM5 pa5 pC5 ph5 pn5_0 pn5_1 pn5_2 pn5_3 pn5_4 hw4
  refine x_putF (fs' := [.ref q1, .ref q4, .null, .null, .null, .null, .null, .null, .int 0]) S hw5 h ha5_h (lt_zh hh 11) hC5_h rfl in_X7 tyX7_ok nmX7 1 (by decide) wf_X7_19 rfl hini rfl rfl rfl (by show 1 < 9; decide) rfl dX7_init_23 (fun C6 H6 locs6 eC6 hw6 => ?_)
  have hC6_h : C6 h = .inr (7, [.ref q1, .ref q4, .null, .null, .null, .null, .null, .null, .int 0]) := by rw [eC6]; exact va_up_self _ _ _
  have hC6_0 : C6 N = .inr (5, [.ref q2_0, .ref q2_1, .ref q2_2, .ref q2_3]) := by rw [eC6, va_up_ne _ _ (Nat.ne_of_lt hh).symm]; exact hC5_0
  have hC6_1 : C6 (N + 1) = .inl (G.2.2.2.1, 64, .inl (fun j => if j < 64 then nI 1 else 0)) := by rw [eC6, va_up_ne _ _ (nz_zh hh 1).symm]; exact hC5_1
  have hC6_2 : C6 (N + 2) = .inl (G.2.2.1, 64, .inl (fun _ => 0)) := by rw [eC6, va_up_ne _ _ (nz_zh hh 2).symm]; exact hC5_2
  have hC6_3 : C6 (N + 3) = .inl (G.2.2.1, 8, .inl (fun _ => 0)) := by rw [eC6, va_up_ne _ _ (nz_zh hh 3).symm]; exact hC5_3
  have hC6_4 : C6 (N + 4) = .inl (G.2.2.1, 24, .inl (fun j => if j < 24 then nI 1 else 0)) := by rw [eC6, va_up_ne _ _ (nz_zh hh 4).symm]; exact hC5_4
  have hC6_5 : C6 (N + 5) = .inr (0, [.int (nI 0), .ref q5_0, .ref q5_1, .ref q5_2, .ref q5_3, .ref q5_4]) := by rw [eC6, va_up_ne _ _ (nz_zh hh 5).symm]; exact hC5_5
  have hC6_6 : C6 (N + 6) = .inl (G.2.2.1, 6, .inl (fun _ => 0)) := by rw [eC6, va_up_ne _ _ (nz_zh hh 6).symm]; exact hC5_6
  have hC6_7 : C6 (N + 7) = .inl (G.2.2.1, 6, .inl (fun _ => 0)) := by rw [eC6, va_up_ne _ _ (nz_zh hh 7).symm]; exact hC5_7
  have hC6_8 : C6 (N + 8) = .inl (G.2.2.2.1, 48, .inl (fun _ => 0)) := by rw [eC6, va_up_ne _ _ (nz_zh hh 8).symm]; exact hC5_8
  have hC6_9 : C6 (N + 9) = .inl (G.2.2.1, 48, .inl (fun _ => 0)) := by rw [eC6, va_up_ne _ _ (nz_zh hh 9).symm]; exact hC5_9
  have hC6_10 : C6 (N + 10) = .inl (G.2.2.1, 48, .inl (fun _ => 0)) := by rw [eC6, va_up_ne _ _ (nz_zh hh 10).symm]; exact hC5_10
  have hfC6 : ∀ i, i < N → i ≠ h → C6 i = C i := fun i hi hne => by rw [eC6, va_up_ne _ _ hne]; exact hfC5 i hi hne
  clear eC6 hfC5 hC5_h hC5_0 hC5_1 hC5_2 hC5_3 hC5_4 hC5_5 hC5_6 hC5_7 hC5_8 hC5_9 hC5_10 hw5
  refine lv_aload_n S.1 S.2.1 dX7_init_26 rfl (lv_at hl 0 rfl) ?_
  refine x_new (ci := 6) (fs := [.int 0, .null, .null, .null, .null]) S hw6 rfl in_X6 tyX6_ok wk_X7_23 wb_X6 wn_X6 df_X6 (by decide) (by decide) dX7_init_27 (fun q7 ad7 C7 H7 ead7 eC7 hw7 => ?_)
  have hC7_h : C7 h = .inr (7, [.ref q1, .ref q4, .null, .null, .null, .null, .null, .null, .int 0]) := by rw [eC7, va_up_ne _ _ (nz_zh hh 11)]; exact hC6_h
  have hC7_0 : C7 N = .inr (5, [.ref q2_0, .ref q2_1, .ref q2_2, .ref q2_3]) := by rw [eC7, va_up_ne _ _ (nz_z0 N 11 (by decide))]; exact hC6_0
  have hC7_1 : C7 (N + 1) = .inl (G.2.2.2.1, 64, .inl (fun j => if j < 64 then nI 1 else 0)) := by rw [eC7, va_up_ne _ _ (nz_zn N 1 11 (by decide))]; exact hC6_1
  have hC7_2 : C7 (N + 2) = .inl (G.2.2.1, 64, .inl (fun _ => 0)) := by rw [eC7, va_up_ne _ _ (nz_zn N 2 11 (by decide))]; exact hC6_2
  have hC7_3 : C7 (N + 3) = .inl (G.2.2.1, 8, .inl (fun _ => 0)) := by rw [eC7, va_up_ne _ _ (nz_zn N 3 11 (by decide))]; exact hC6_3
  have hC7_4 : C7 (N + 4) = .inl (G.2.2.1, 24, .inl (fun j => if j < 24 then nI 1 else 0)) := by rw [eC7, va_up_ne _ _ (nz_zn N 4 11 (by decide))]; exact hC6_4
  have hC7_5 : C7 (N + 5) = .inr (0, [.int (nI 0), .ref q5_0, .ref q5_1, .ref q5_2, .ref q5_3, .ref q5_4]) := by rw [eC7, va_up_ne _ _ (nz_zn N 5 11 (by decide))]; exact hC6_5
  have hC7_6 : C7 (N + 6) = .inl (G.2.2.1, 6, .inl (fun _ => 0)) := by rw [eC7, va_up_ne _ _ (nz_zn N 6 11 (by decide))]; exact hC6_6
  have hC7_7 : C7 (N + 7) = .inl (G.2.2.1, 6, .inl (fun _ => 0)) := by rw [eC7, va_up_ne _ _ (nz_zn N 7 11 (by decide))]; exact hC6_7
  have hC7_8 : C7 (N + 8) = .inl (G.2.2.2.1, 48, .inl (fun _ => 0)) := by rw [eC7, va_up_ne _ _ (nz_zn N 8 11 (by decide))]; exact hC6_8
  have hC7_9 : C7 (N + 9) = .inl (G.2.2.1, 48, .inl (fun _ => 0)) := by rw [eC7, va_up_ne _ _ (nz_zn N 9 11 (by decide))]; exact hC6_9
  have hC7_10 : C7 (N + 10) = .inl (G.2.2.1, 48, .inl (fun _ => 0)) := by rw [eC7, va_up_ne _ _ (nz_zn N 10 11 (by decide))]; exact hC6_10
  have hC7_11 : C7 (N + 11) = .inr (6, [.int 0, .null, .null, .null, .null]) := by rw [eC7]; exact va_up_self _ _ _
  have hfC7 : ∀ i, i < N → i ≠ h → C7 i = C i := fun i hi hne => by rw [eC7, va_up_ne _ _ (nz_zh hi 11)]; exact hfC6 i hi hne
  have ha7_h : ad7 h = (ad h) := by rw [ead7, va_up_ne _ _ (nz_zh hh 11)]; exact ha5_h
  have ha7_0 : ad7 N = q1 := by rw [ead7, va_up_ne _ _ (nz_z0 N 11 (by decide))]; exact ha5_0
  have ha7_1 : ad7 (N + 1) = q2_0 := by rw [ead7, va_up_ne _ _ (nz_zn N 1 11 (by decide))]; exact ha5_1
  have ha7_2 : ad7 (N + 2) = q2_1 := by rw [ead7, va_up_ne _ _ (nz_zn N 2 11 (by decide))]; exact ha5_2
  have ha7_3 : ad7 (N + 3) = q2_2 := by rw [ead7, va_up_ne _ _ (nz_zn N 3 11 (by decide))]; exact ha5_3
  have ha7_4 : ad7 (N + 4) = q2_3 := by rw [ead7, va_up_ne _ _ (nz_zn N 4 11 (by decide))]; exact ha5_4
  have ha7_5 : ad7 (N + 5) = q4 := by rw [ead7, va_up_ne _ _ (nz_zn N 5 11 (by decide))]; exact ha5_5
  have ha7_6 : ad7 (N + 6) = q5_0 := by rw [ead7, va_up_ne _ _ (nz_zn N 6 11 (by decide))]; exact ha5_6
  have ha7_7 : ad7 (N + 7) = q5_1 := by rw [ead7, va_up_ne _ _ (nz_zn N 7 11 (by decide))]; exact ha5_7
  have ha7_8 : ad7 (N + 8) = q5_2 := by rw [ead7, va_up_ne _ _ (nz_zn N 8 11 (by decide))]; exact ha5_8
  have ha7_9 : ad7 (N + 9) = q5_3 := by rw [ead7, va_up_ne _ _ (nz_zn N 9 11 (by decide))]; exact ha5_9
  have ha7_10 : ad7 (N + 10) = q5_4 := by rw [ead7, va_up_ne _ _ (nz_zn N 10 11 (by decide))]; exact ha5_10
  have ha7_11 : ad7 (N + 11) = q7 := by rw [ead7]; exact va_up_self _ _ _
  have hfa7 : ∀ i, i < N → ad7 i = ad i := fun i hi => by rw [ead7, va_up_ne _ _ (nz_zh hi 11)]; exact hfa5 i hi
  clear eC7 hfC6 hC6_h hC6_0 hC6_1 hC6_2 hC6_3 hC6_4 hC6_5 hC6_6 hC6_7 hC6_8 hC6_9 hC6_10 ead7 hfa5 ha5_h ha5_0 ha5_1 ha5_2 ha5_3 ha5_4 ha5_5 ha5_6 ha5_7 ha5_8 ha5_9 ha5_10 hw6
  refine lv_dup S.1 S.2.1 dX7_init_30 rfl ?_
  have hM8 := c_X6_init l G (N + 12) ad7 C7 (N + 11) (lt_zn N 11 12 (by decide)) hC7_11
  rw [ha7_11] at hM8
  refine g_cIN (As := []) (rest := [.ref q7, .ref (ad h)]) S hw7 hM8 mf_X6_init (List.mem_of_getElem? (i := 1) rfl) ⟨by decide, by decide⟩ ⟨by decide, by decide⟩ hl.1 rfl (Nat.le_of_ble_eq_true rfl) dX7_init_31 (fun u8 H8 locs8 hp8 hw8 => ?_)
  obtain ⟨N8, ad8, C8⟩ := u8
  obtain ⟨eN8, pa8, pC8, ph8, pn8_0, pn8_1, pn8_2, pn8_3⟩ := hp8
  have eN8 : N8 = (N + 16) := eN8
  subst eN8
  have pa8 : ∀ i, i < (N + 12) → ad8 i = ad7 i := pa8
  have pC8 : ∀ i, i < (N + 12) → i ≠ (N + 11) → C8 i = C7 i := pC8
  obtain ⟨q8_0, ha8_12⟩ : ∃ q, ad8 (N + 12) = q := ⟨_, rfl⟩
  obtain ⟨q8_1, ha8_13⟩ : ∃ q, ad8 (N + 13) = q := ⟨_, rfl⟩
  obtain ⟨q8_2, ha8_14⟩ : ∃ q, ad8 (N + 14) = q := ⟨_, rfl⟩
  obtain ⟨q8_3, ha8_15⟩ : ∃ q, ad8 (N + 15) = q := ⟨_, rfl⟩
  have hC8_h : C8 h = .inr (7, [.ref q1, .ref q4, .null, .null, .null, .null, .null, .null, .int 0]) := (pC8 _ (lt_zh hh 12) (nz_zh hh 11)).trans hC7_h
  have ha8_h : ad8 h = (ad h) := (pa8 _ (lt_zh hh 12)).trans ha7_h
  have hC8_0 : C8 N = .inr (5, [.ref q2_0, .ref q2_1, .ref q2_2, .ref q2_3]) := (pC8 _ (lt_z0 N 12 (by decide)) (nz_z0 N 11 (by decide))).trans hC7_0
  have ha8_0 : ad8 N = q1 := (pa8 _ (lt_z0 N 12 (by decide))).trans ha7_0
  have hC8_1 : C8 (N + 1) = .inl (G.2.2.2.1, 64, .inl (fun j => if j < 64 then nI 1 else 0)) := (pC8 _ (lt_zn N 1 12 (by decide)) (nz_zn N 1 11 (by decide))).trans hC7_1
  have ha8_1 : ad8 (N + 1) = q2_0 := (pa8 _ (lt_zn N 1 12 (by decide))).trans ha7_1
  have hC8_2 : C8 (N + 2) = .inl (G.2.2.1, 64, .inl (fun _ => 0)) := (pC8 _ (lt_zn N 2 12 (by decide)) (nz_zn N 2 11 (by decide))).trans hC7_2
  have ha8_2 : ad8 (N + 2) = q2_1 := (pa8 _ (lt_zn N 2 12 (by decide))).trans ha7_2
  have hC8_3 : C8 (N + 3) = .inl (G.2.2.1, 8, .inl (fun _ => 0)) := (pC8 _ (lt_zn N 3 12 (by decide)) (nz_zn N 3 11 (by decide))).trans hC7_3
  have ha8_3 : ad8 (N + 3) = q2_2 := (pa8 _ (lt_zn N 3 12 (by decide))).trans ha7_3
  have hC8_4 : C8 (N + 4) = .inl (G.2.2.1, 24, .inl (fun j => if j < 24 then nI 1 else 0)) := (pC8 _ (lt_zn N 4 12 (by decide)) (nz_zn N 4 11 (by decide))).trans hC7_4
  have ha8_4 : ad8 (N + 4) = q2_3 := (pa8 _ (lt_zn N 4 12 (by decide))).trans ha7_4
  have hC8_5 : C8 (N + 5) = .inr (0, [.int (nI 0), .ref q5_0, .ref q5_1, .ref q5_2, .ref q5_3, .ref q5_4]) := (pC8 _ (lt_zn N 5 12 (by decide)) (nz_zn N 5 11 (by decide))).trans hC7_5
  have ha8_5 : ad8 (N + 5) = q4 := (pa8 _ (lt_zn N 5 12 (by decide))).trans ha7_5
  have hC8_6 : C8 (N + 6) = .inl (G.2.2.1, 6, .inl (fun _ => 0)) := (pC8 _ (lt_zn N 6 12 (by decide)) (nz_zn N 6 11 (by decide))).trans hC7_6
  have ha8_6 : ad8 (N + 6) = q5_0 := (pa8 _ (lt_zn N 6 12 (by decide))).trans ha7_6
  have hC8_7 : C8 (N + 7) = .inl (G.2.2.1, 6, .inl (fun _ => 0)) := (pC8 _ (lt_zn N 7 12 (by decide)) (nz_zn N 7 11 (by decide))).trans hC7_7
  have ha8_7 : ad8 (N + 7) = q5_1 := (pa8 _ (lt_zn N 7 12 (by decide))).trans ha7_7
  have hC8_8 : C8 (N + 8) = .inl (G.2.2.2.1, 48, .inl (fun _ => 0)) := (pC8 _ (lt_zn N 8 12 (by decide)) (nz_zn N 8 11 (by decide))).trans hC7_8
  have ha8_8 : ad8 (N + 8) = q5_2 := (pa8 _ (lt_zn N 8 12 (by decide))).trans ha7_8
  have hC8_9 : C8 (N + 9) = .inl (G.2.2.1, 48, .inl (fun _ => 0)) := (pC8 _ (lt_zn N 9 12 (by decide)) (nz_zn N 9 11 (by decide))).trans hC7_9
  have ha8_9 : ad8 (N + 9) = q5_3 := (pa8 _ (lt_zn N 9 12 (by decide))).trans ha7_9
  have hC8_10 : C8 (N + 10) = .inl (G.2.2.1, 48, .inl (fun _ => 0)) := (pC8 _ (lt_zn N 10 12 (by decide)) (nz_zn N 10 11 (by decide))).trans hC7_10
  have ha8_10 : ad8 (N + 10) = q5_4 := (pa8 _ (lt_zn N 10 12 (by decide))).trans ha7_10
  have ha8_11 : ad8 (N + 11) = q7 := (pa8 _ (lt_zn N 11 12 (by decide))).trans ha7_11
  have hC8_11 : C8 (N + 11) = .inr (6, [.int (nI 0), .ref q8_0, .ref q8_1, .ref q8_2, .ref q8_3]) := by rw [← ha8_12, ← ha8_13, ← ha8_14, ← ha8_15]; exact ph8
  have hC8_12 : C8 (N + 12) = .inl (G.2.2.1, 20, .inl (fun _ => 0)) := by exact pn8_0
  have hC8_13 : C8 (N + 13) = .inl (G.2.2.1, 20, .inl (fun _ => 0)) := by exact pn8_1
  have hC8_14 : C8 (N + 14) = .inl (G.2.2.1, 20, .inl (fun _ => 0)) := by exact pn8_2
  have hC8_15 : C8 (N + 15) = .inl (G.2.2.1, 20, .inl (fun _ => 0)) := by exact pn8_3
  have hfC8 : ∀ i, i < N → i ≠ h → C8 i = C i := fun i hi hne => (pC8 i (lt_zh hi 12) (nz_zh hi 11)).trans (hfC7 i hi hne)
  have hfa8 : ∀ i, i < N → ad8 i = ad i := fun i hi => (pa8 i (lt_zh hi 12)).trans (hfa7 i hi)
  clear hfC7 hfa7 hC7_h hC7_0 hC7_1 hC7_2 hC7_3 hC7_4 hC7_5 hC7_6 hC7_7 hC7_8 hC7_9 hC7_10 hC7_11 ha7_h ha7_0 ha7_1 ha7_2 ha7_3 ha7_4 ha7_5 ha7_6 ha7_7 ha7_8 ha7_9 ha7_10 ha7_11 hM8 pa8 pC8 ph8 pn8_0 pn8_1 pn8_2 pn8_3 hw7
  refine x_putF (fs' := [.ref q1, .ref q4, .ref q7, .null, .null, .null, .null, .null, .int 0]) S hw8 h ha8_h (lt_zh hh 16) hC8_h rfl in_X7 tyX7_ok nmX7 2 (by decide) wf_X7_26 rfl hini rfl rfl rfl (by show 2 < 9; decide) rfl dX7_init_34 (fun C9 H9 locs9 eC9 hw9 => ?_)
  have hC9_h : C9 h = .inr (7, [.ref q1, .ref q4, .ref q7, .null, .null, .null, .null, .null, .int 0]) := by rw [eC9]; exact va_up_self _ _ _
  have hC9_0 : C9 N = .inr (5, [.ref q2_0, .ref q2_1, .ref q2_2, .ref q2_3]) := by rw [eC9, va_up_ne _ _ (Nat.ne_of_lt hh).symm]; exact hC8_0
  have hC9_1 : C9 (N + 1) = .inl (G.2.2.2.1, 64, .inl (fun j => if j < 64 then nI 1 else 0)) := by rw [eC9, va_up_ne _ _ (nz_zh hh 1).symm]; exact hC8_1
  have hC9_2 : C9 (N + 2) = .inl (G.2.2.1, 64, .inl (fun _ => 0)) := by rw [eC9, va_up_ne _ _ (nz_zh hh 2).symm]; exact hC8_2
  have hC9_3 : C9 (N + 3) = .inl (G.2.2.1, 8, .inl (fun _ => 0)) := by rw [eC9, va_up_ne _ _ (nz_zh hh 3).symm]; exact hC8_3
  have hC9_4 : C9 (N + 4) = .inl (G.2.2.1, 24, .inl (fun j => if j < 24 then nI 1 else 0)) := by rw [eC9, va_up_ne _ _ (nz_zh hh 4).symm]; exact hC8_4
  have hC9_5 : C9 (N + 5) = .inr (0, [.int (nI 0), .ref q5_0, .ref q5_1, .ref q5_2, .ref q5_3, .ref q5_4]) := by rw [eC9, va_up_ne _ _ (nz_zh hh 5).symm]; exact hC8_5
  have hC9_6 : C9 (N + 6) = .inl (G.2.2.1, 6, .inl (fun _ => 0)) := by rw [eC9, va_up_ne _ _ (nz_zh hh 6).symm]; exact hC8_6
  have hC9_7 : C9 (N + 7) = .inl (G.2.2.1, 6, .inl (fun _ => 0)) := by rw [eC9, va_up_ne _ _ (nz_zh hh 7).symm]; exact hC8_7
  have hC9_8 : C9 (N + 8) = .inl (G.2.2.2.1, 48, .inl (fun _ => 0)) := by rw [eC9, va_up_ne _ _ (nz_zh hh 8).symm]; exact hC8_8
  have hC9_9 : C9 (N + 9) = .inl (G.2.2.1, 48, .inl (fun _ => 0)) := by rw [eC9, va_up_ne _ _ (nz_zh hh 9).symm]; exact hC8_9
  have hC9_10 : C9 (N + 10) = .inl (G.2.2.1, 48, .inl (fun _ => 0)) := by rw [eC9, va_up_ne _ _ (nz_zh hh 10).symm]; exact hC8_10
  have hC9_11 : C9 (N + 11) = .inr (6, [.int (nI 0), .ref q8_0, .ref q8_1, .ref q8_2, .ref q8_3]) := by rw [eC9, va_up_ne _ _ (nz_zh hh 11).symm]; exact hC8_11
  have hC9_12 : C9 (N + 12) = .inl (G.2.2.1, 20, .inl (fun _ => 0)) := by rw [eC9, va_up_ne _ _ (nz_zh hh 12).symm]; exact hC8_12
  have hC9_13 : C9 (N + 13) = .inl (G.2.2.1, 20, .inl (fun _ => 0)) := by rw [eC9, va_up_ne _ _ (nz_zh hh 13).symm]; exact hC8_13
  have hC9_14 : C9 (N + 14) = .inl (G.2.2.1, 20, .inl (fun _ => 0)) := by rw [eC9, va_up_ne _ _ (nz_zh hh 14).symm]; exact hC8_14
  have hC9_15 : C9 (N + 15) = .inl (G.2.2.1, 20, .inl (fun _ => 0)) := by rw [eC9, va_up_ne _ _ (nz_zh hh 15).symm]; exact hC8_15
  have hfC9 : ∀ i, i < N → i ≠ h → C9 i = C i := fun i hi hne => by rw [eC9, va_up_ne _ _ hne]; exact hfC8 i hi hne
  clear eC9 hfC8 hC8_h hC8_0 hC8_1 hC8_2 hC8_3 hC8_4 hC8_5 hC8_6 hC8_7 hC8_8 hC8_9 hC8_10 hC8_11 hC8_12 hC8_13 hC8_14 hC8_15 hw8
  refine lv_aload_n S.1 S.2.1 dX7_init_37 rfl (lv_at hl 0 rfl) ?_
  refine x_new (ci := 3) (fs := [.int 0, .int 0, .int 0, .int 0, .int 0]) S hw9 rfl in_X3 tyX3_ok wk_X7_30 wb_X3 wn_X3 df_X3 (by decide) (by decide) dX7_init_38 (fun q10 ad10 C10 H10 ead10 eC10 hw10 => ?_)
  have hC10_h : C10 h = .inr (7, [.ref q1, .ref q4, .ref q7, .null, .null, .null, .null, .null, .int 0]) := by rw [eC10, va_up_ne _ _ (nz_zh hh 16)]; exact hC9_h
  have hC10_0 : C10 N = .inr (5, [.ref q2_0, .ref q2_1, .ref q2_2, .ref q2_3]) := by rw [eC10, va_up_ne _ _ (nz_z0 N 16 (by decide))]; exact hC9_0
  have hC10_1 : C10 (N + 1) = .inl (G.2.2.2.1, 64, .inl (fun j => if j < 64 then nI 1 else 0)) := by rw [eC10, va_up_ne _ _ (nz_zn N 1 16 (by decide))]; exact hC9_1
  have hC10_2 : C10 (N + 2) = .inl (G.2.2.1, 64, .inl (fun _ => 0)) := by rw [eC10, va_up_ne _ _ (nz_zn N 2 16 (by decide))]; exact hC9_2
  have hC10_3 : C10 (N + 3) = .inl (G.2.2.1, 8, .inl (fun _ => 0)) := by rw [eC10, va_up_ne _ _ (nz_zn N 3 16 (by decide))]; exact hC9_3
  have hC10_4 : C10 (N + 4) = .inl (G.2.2.1, 24, .inl (fun j => if j < 24 then nI 1 else 0)) := by rw [eC10, va_up_ne _ _ (nz_zn N 4 16 (by decide))]; exact hC9_4
  have hC10_5 : C10 (N + 5) = .inr (0, [.int (nI 0), .ref q5_0, .ref q5_1, .ref q5_2, .ref q5_3, .ref q5_4]) := by rw [eC10, va_up_ne _ _ (nz_zn N 5 16 (by decide))]; exact hC9_5
  have hC10_6 : C10 (N + 6) = .inl (G.2.2.1, 6, .inl (fun _ => 0)) := by rw [eC10, va_up_ne _ _ (nz_zn N 6 16 (by decide))]; exact hC9_6
  have hC10_7 : C10 (N + 7) = .inl (G.2.2.1, 6, .inl (fun _ => 0)) := by rw [eC10, va_up_ne _ _ (nz_zn N 7 16 (by decide))]; exact hC9_7
  have hC10_8 : C10 (N + 8) = .inl (G.2.2.2.1, 48, .inl (fun _ => 0)) := by rw [eC10, va_up_ne _ _ (nz_zn N 8 16 (by decide))]; exact hC9_8
  have hC10_9 : C10 (N + 9) = .inl (G.2.2.1, 48, .inl (fun _ => 0)) := by rw [eC10, va_up_ne _ _ (nz_zn N 9 16 (by decide))]; exact hC9_9
  have hC10_10 : C10 (N + 10) = .inl (G.2.2.1, 48, .inl (fun _ => 0)) := by rw [eC10, va_up_ne _ _ (nz_zn N 10 16 (by decide))]; exact hC9_10
  have hC10_11 : C10 (N + 11) = .inr (6, [.int (nI 0), .ref q8_0, .ref q8_1, .ref q8_2, .ref q8_3]) := by rw [eC10, va_up_ne _ _ (nz_zn N 11 16 (by decide))]; exact hC9_11
  have hC10_12 : C10 (N + 12) = .inl (G.2.2.1, 20, .inl (fun _ => 0)) := by rw [eC10, va_up_ne _ _ (nz_zn N 12 16 (by decide))]; exact hC9_12
  have hC10_13 : C10 (N + 13) = .inl (G.2.2.1, 20, .inl (fun _ => 0)) := by rw [eC10, va_up_ne _ _ (nz_zn N 13 16 (by decide))]; exact hC9_13
  have hC10_14 : C10 (N + 14) = .inl (G.2.2.1, 20, .inl (fun _ => 0)) := by rw [eC10, va_up_ne _ _ (nz_zn N 14 16 (by decide))]; exact hC9_14
  have hC10_15 : C10 (N + 15) = .inl (G.2.2.1, 20, .inl (fun _ => 0)) := by rw [eC10, va_up_ne _ _ (nz_zn N 15 16 (by decide))]; exact hC9_15
  have hC10_16 : C10 (N + 16) = .inr (3, [.int 0, .int 0, .int 0, .int 0, .int 0]) := by rw [eC10]; exact va_up_self _ _ _
  have hfC10 : ∀ i, i < N → i ≠ h → C10 i = C i := fun i hi hne => by rw [eC10, va_up_ne _ _ (nz_zh hi 16)]; exact hfC9 i hi hne
  have ha10_h : ad10 h = (ad h) := by rw [ead10, va_up_ne _ _ (nz_zh hh 16)]; exact ha8_h
  have ha10_0 : ad10 N = q1 := by rw [ead10, va_up_ne _ _ (nz_z0 N 16 (by decide))]; exact ha8_0
  have ha10_1 : ad10 (N + 1) = q2_0 := by rw [ead10, va_up_ne _ _ (nz_zn N 1 16 (by decide))]; exact ha8_1
  have ha10_2 : ad10 (N + 2) = q2_1 := by rw [ead10, va_up_ne _ _ (nz_zn N 2 16 (by decide))]; exact ha8_2
  have ha10_3 : ad10 (N + 3) = q2_2 := by rw [ead10, va_up_ne _ _ (nz_zn N 3 16 (by decide))]; exact ha8_3
  have ha10_4 : ad10 (N + 4) = q2_3 := by rw [ead10, va_up_ne _ _ (nz_zn N 4 16 (by decide))]; exact ha8_4
  have ha10_5 : ad10 (N + 5) = q4 := by rw [ead10, va_up_ne _ _ (nz_zn N 5 16 (by decide))]; exact ha8_5
  have ha10_6 : ad10 (N + 6) = q5_0 := by rw [ead10, va_up_ne _ _ (nz_zn N 6 16 (by decide))]; exact ha8_6
  have ha10_7 : ad10 (N + 7) = q5_1 := by rw [ead10, va_up_ne _ _ (nz_zn N 7 16 (by decide))]; exact ha8_7
  have ha10_8 : ad10 (N + 8) = q5_2 := by rw [ead10, va_up_ne _ _ (nz_zn N 8 16 (by decide))]; exact ha8_8
  have ha10_9 : ad10 (N + 9) = q5_3 := by rw [ead10, va_up_ne _ _ (nz_zn N 9 16 (by decide))]; exact ha8_9
  have ha10_10 : ad10 (N + 10) = q5_4 := by rw [ead10, va_up_ne _ _ (nz_zn N 10 16 (by decide))]; exact ha8_10
  have ha10_11 : ad10 (N + 11) = q7 := by rw [ead10, va_up_ne _ _ (nz_zn N 11 16 (by decide))]; exact ha8_11
  have ha10_12 : ad10 (N + 12) = q8_0 := by rw [ead10, va_up_ne _ _ (nz_zn N 12 16 (by decide))]; exact ha8_12
  have ha10_13 : ad10 (N + 13) = q8_1 := by rw [ead10, va_up_ne _ _ (nz_zn N 13 16 (by decide))]; exact ha8_13
  have ha10_14 : ad10 (N + 14) = q8_2 := by rw [ead10, va_up_ne _ _ (nz_zn N 14 16 (by decide))]; exact ha8_14
  have ha10_15 : ad10 (N + 15) = q8_3 := by rw [ead10, va_up_ne _ _ (nz_zn N 15 16 (by decide))]; exact ha8_15
  have ha10_16 : ad10 (N + 16) = q10 := by rw [ead10]; exact va_up_self _ _ _
  have hfa10 : ∀ i, i < N → ad10 i = ad i := fun i hi => by rw [ead10, va_up_ne _ _ (nz_zh hi 16)]; exact hfa8 i hi
  clear eC10 hfC9 hC9_h hC9_0 hC9_1 hC9_2 hC9_3 hC9_4 hC9_5 hC9_6 hC9_7 hC9_8 hC9_9 hC9_10 hC9_11 hC9_12 hC9_13 hC9_14 hC9_15 ead10 hfa8 ha8_h ha8_0 ha8_1 ha8_2 ha8_3 ha8_4 ha8_5 ha8_6 ha8_7 ha8_8 ha8_9 ha8_10 ha8_11 ha8_12 ha8_13 ha8_14 ha8_15 hw9
  refine lv_dup S.1 S.2.1 dX7_init_41 rfl ?_
  have hM11 := c_X3_init l G (N + 17) ad10 C10 (N + 16) (lt_zn N 16 17 (by decide)) hC10_16
  rw [ha10_16] at hM11
  refine g_cIN (As := []) (rest := [.ref q10, .ref (ad h)]) S hw10 hM11 mf_X3_init (List.mem_of_getElem? (i := 2) rfl) ⟨by decide, by decide⟩ ⟨by decide, by decide⟩ hl.1 rfl (Nat.le_of_ble_eq_true rfl) dX7_init_42 (fun u11 H11 locs11 hp11 hw11 => ?_)
  obtain ⟨N11, ad11, C11⟩ := u11
  obtain ⟨eN11, pa11, pC11, ph11⟩ := hp11
  have eN11 : N11 = (N + 17) := eN11
  subst eN11
  have pa11 : ∀ i, i < (N + 17) → ad11 i = ad10 i := pa11
  have pC11 : ∀ i, i < (N + 17) → i ≠ (N + 16) → C11 i = C10 i := pC11
  have hC11_h : C11 h = .inr (7, [.ref q1, .ref q4, .ref q7, .null, .null, .null, .null, .null, .int 0]) := (pC11 _ (lt_zh hh 17) (nz_zh hh 16)).trans hC10_h
  have ha11_h : ad11 h = (ad h) := (pa11 _ (lt_zh hh 17)).trans ha10_h
  have hC11_0 : C11 N = .inr (5, [.ref q2_0, .ref q2_1, .ref q2_2, .ref q2_3]) := (pC11 _ (lt_z0 N 17 (by decide)) (nz_z0 N 16 (by decide))).trans hC10_0
  have ha11_0 : ad11 N = q1 := (pa11 _ (lt_z0 N 17 (by decide))).trans ha10_0
  have hC11_1 : C11 (N + 1) = .inl (G.2.2.2.1, 64, .inl (fun j => if j < 64 then nI 1 else 0)) := (pC11 _ (lt_zn N 1 17 (by decide)) (nz_zn N 1 16 (by decide))).trans hC10_1
  have ha11_1 : ad11 (N + 1) = q2_0 := (pa11 _ (lt_zn N 1 17 (by decide))).trans ha10_1
  have hC11_2 : C11 (N + 2) = .inl (G.2.2.1, 64, .inl (fun _ => 0)) := (pC11 _ (lt_zn N 2 17 (by decide)) (nz_zn N 2 16 (by decide))).trans hC10_2
  have ha11_2 : ad11 (N + 2) = q2_1 := (pa11 _ (lt_zn N 2 17 (by decide))).trans ha10_2
  have hC11_3 : C11 (N + 3) = .inl (G.2.2.1, 8, .inl (fun _ => 0)) := (pC11 _ (lt_zn N 3 17 (by decide)) (nz_zn N 3 16 (by decide))).trans hC10_3
  have ha11_3 : ad11 (N + 3) = q2_2 := (pa11 _ (lt_zn N 3 17 (by decide))).trans ha10_3
  have hC11_4 : C11 (N + 4) = .inl (G.2.2.1, 24, .inl (fun j => if j < 24 then nI 1 else 0)) := (pC11 _ (lt_zn N 4 17 (by decide)) (nz_zn N 4 16 (by decide))).trans hC10_4
  have ha11_4 : ad11 (N + 4) = q2_3 := (pa11 _ (lt_zn N 4 17 (by decide))).trans ha10_4
  have hC11_5 : C11 (N + 5) = .inr (0, [.int (nI 0), .ref q5_0, .ref q5_1, .ref q5_2, .ref q5_3, .ref q5_4]) := (pC11 _ (lt_zn N 5 17 (by decide)) (nz_zn N 5 16 (by decide))).trans hC10_5
  have ha11_5 : ad11 (N + 5) = q4 := (pa11 _ (lt_zn N 5 17 (by decide))).trans ha10_5
  have hC11_6 : C11 (N + 6) = .inl (G.2.2.1, 6, .inl (fun _ => 0)) := (pC11 _ (lt_zn N 6 17 (by decide)) (nz_zn N 6 16 (by decide))).trans hC10_6
  have ha11_6 : ad11 (N + 6) = q5_0 := (pa11 _ (lt_zn N 6 17 (by decide))).trans ha10_6
  have hC11_7 : C11 (N + 7) = .inl (G.2.2.1, 6, .inl (fun _ => 0)) := (pC11 _ (lt_zn N 7 17 (by decide)) (nz_zn N 7 16 (by decide))).trans hC10_7
  have ha11_7 : ad11 (N + 7) = q5_1 := (pa11 _ (lt_zn N 7 17 (by decide))).trans ha10_7
  have hC11_8 : C11 (N + 8) = .inl (G.2.2.2.1, 48, .inl (fun _ => 0)) := (pC11 _ (lt_zn N 8 17 (by decide)) (nz_zn N 8 16 (by decide))).trans hC10_8
  have ha11_8 : ad11 (N + 8) = q5_2 := (pa11 _ (lt_zn N 8 17 (by decide))).trans ha10_8
  have hC11_9 : C11 (N + 9) = .inl (G.2.2.1, 48, .inl (fun _ => 0)) := (pC11 _ (lt_zn N 9 17 (by decide)) (nz_zn N 9 16 (by decide))).trans hC10_9
  have ha11_9 : ad11 (N + 9) = q5_3 := (pa11 _ (lt_zn N 9 17 (by decide))).trans ha10_9
  have hC11_10 : C11 (N + 10) = .inl (G.2.2.1, 48, .inl (fun _ => 0)) := (pC11 _ (lt_zn N 10 17 (by decide)) (nz_zn N 10 16 (by decide))).trans hC10_10
  have ha11_10 : ad11 (N + 10) = q5_4 := (pa11 _ (lt_zn N 10 17 (by decide))).trans ha10_10
  have hC11_11 : C11 (N + 11) = .inr (6, [.int (nI 0), .ref q8_0, .ref q8_1, .ref q8_2, .ref q8_3]) := (pC11 _ (lt_zn N 11 17 (by decide)) (nz_zn N 11 16 (by decide))).trans hC10_11
  have ha11_11 : ad11 (N + 11) = q7 := (pa11 _ (lt_zn N 11 17 (by decide))).trans ha10_11
  have hC11_12 : C11 (N + 12) = .inl (G.2.2.1, 20, .inl (fun _ => 0)) := (pC11 _ (lt_zn N 12 17 (by decide)) (nz_zn N 12 16 (by decide))).trans hC10_12
  have ha11_12 : ad11 (N + 12) = q8_0 := (pa11 _ (lt_zn N 12 17 (by decide))).trans ha10_12
  have hC11_13 : C11 (N + 13) = .inl (G.2.2.1, 20, .inl (fun _ => 0)) := (pC11 _ (lt_zn N 13 17 (by decide)) (nz_zn N 13 16 (by decide))).trans hC10_13
  have ha11_13 : ad11 (N + 13) = q8_1 := (pa11 _ (lt_zn N 13 17 (by decide))).trans ha10_13
  have hC11_14 : C11 (N + 14) = .inl (G.2.2.1, 20, .inl (fun _ => 0)) := (pC11 _ (lt_zn N 14 17 (by decide)) (nz_zn N 14 16 (by decide))).trans hC10_14
  have ha11_14 : ad11 (N + 14) = q8_2 := (pa11 _ (lt_zn N 14 17 (by decide))).trans ha10_14
  have hC11_15 : C11 (N + 15) = .inl (G.2.2.1, 20, .inl (fun _ => 0)) := (pC11 _ (lt_zn N 15 17 (by decide)) (nz_zn N 15 16 (by decide))).trans hC10_15
  have ha11_15 : ad11 (N + 15) = q8_3 := (pa11 _ (lt_zn N 15 17 (by decide))).trans ha10_15
  have ha11_16 : ad11 (N + 16) = q10 := (pa11 _ (lt_zn N 16 17 (by decide))).trans ha10_16
  have hC11_16 : C11 (N + 16) = .inr (3, [.int (nI 0), .int (nI 0), .int (nI 0), .int (nI 0), .int (nI 0)]) := ph11
  have hfC11 : ∀ i, i < N → i ≠ h → C11 i = C i := fun i hi hne => (pC11 i (lt_zh hi 17) (nz_zh hi 16)).trans (hfC10 i hi hne)
  have hfa11 : ∀ i, i < N → ad11 i = ad i := fun i hi => (pa11 i (lt_zh hi 17)).trans (hfa10 i hi)
  clear hfC10 hfa10 hC10_h hC10_0 hC10_1 hC10_2 hC10_3 hC10_4 hC10_5 hC10_6 hC10_7 hC10_8 hC10_9 hC10_10 hC10_11 hC10_12 hC10_13 hC10_14 hC10_15 hC10_16 ha10_h ha10_0 ha10_1 ha10_2 ha10_3 ha10_4 ha10_5 ha10_6 ha10_7 ha10_8 ha10_9 ha10_10 ha10_11 ha10_12 ha10_13 ha10_14 ha10_15 ha10_16 hM11 pa11 pC11 ph11 hw10
  refine x_putF (fs' := [.ref q1, .ref q4, .ref q7, .ref q10, .null, .null, .null, .null, .int 0]) S hw11 h ha11_h (lt_zh hh 17) hC11_h rfl in_X7 tyX7_ok nmX7 3 (by decide) wf_X7_33 rfl hini rfl rfl rfl (by show 3 < 9; decide) rfl dX7_init_45 (fun C12 H12 locs12 eC12 hw12 => ?_)
  have hC12_h : C12 h = .inr (7, [.ref q1, .ref q4, .ref q7, .ref q10, .null, .null, .null, .null, .int 0]) := by rw [eC12]; exact va_up_self _ _ _
  have hC12_0 : C12 N = .inr (5, [.ref q2_0, .ref q2_1, .ref q2_2, .ref q2_3]) := by rw [eC12, va_up_ne _ _ (Nat.ne_of_lt hh).symm]; exact hC11_0
  have hC12_1 : C12 (N + 1) = .inl (G.2.2.2.1, 64, .inl (fun j => if j < 64 then nI 1 else 0)) := by rw [eC12, va_up_ne _ _ (nz_zh hh 1).symm]; exact hC11_1
  have hC12_2 : C12 (N + 2) = .inl (G.2.2.1, 64, .inl (fun _ => 0)) := by rw [eC12, va_up_ne _ _ (nz_zh hh 2).symm]; exact hC11_2
  have hC12_3 : C12 (N + 3) = .inl (G.2.2.1, 8, .inl (fun _ => 0)) := by rw [eC12, va_up_ne _ _ (nz_zh hh 3).symm]; exact hC11_3
  have hC12_4 : C12 (N + 4) = .inl (G.2.2.1, 24, .inl (fun j => if j < 24 then nI 1 else 0)) := by rw [eC12, va_up_ne _ _ (nz_zh hh 4).symm]; exact hC11_4
  have hC12_5 : C12 (N + 5) = .inr (0, [.int (nI 0), .ref q5_0, .ref q5_1, .ref q5_2, .ref q5_3, .ref q5_4]) := by rw [eC12, va_up_ne _ _ (nz_zh hh 5).symm]; exact hC11_5
  have hC12_6 : C12 (N + 6) = .inl (G.2.2.1, 6, .inl (fun _ => 0)) := by rw [eC12, va_up_ne _ _ (nz_zh hh 6).symm]; exact hC11_6
  have hC12_7 : C12 (N + 7) = .inl (G.2.2.1, 6, .inl (fun _ => 0)) := by rw [eC12, va_up_ne _ _ (nz_zh hh 7).symm]; exact hC11_7
  have hC12_8 : C12 (N + 8) = .inl (G.2.2.2.1, 48, .inl (fun _ => 0)) := by rw [eC12, va_up_ne _ _ (nz_zh hh 8).symm]; exact hC11_8
  have hC12_9 : C12 (N + 9) = .inl (G.2.2.1, 48, .inl (fun _ => 0)) := by rw [eC12, va_up_ne _ _ (nz_zh hh 9).symm]; exact hC11_9
  have hC12_10 : C12 (N + 10) = .inl (G.2.2.1, 48, .inl (fun _ => 0)) := by rw [eC12, va_up_ne _ _ (nz_zh hh 10).symm]; exact hC11_10
  have hC12_11 : C12 (N + 11) = .inr (6, [.int (nI 0), .ref q8_0, .ref q8_1, .ref q8_2, .ref q8_3]) := by rw [eC12, va_up_ne _ _ (nz_zh hh 11).symm]; exact hC11_11
  have hC12_12 : C12 (N + 12) = .inl (G.2.2.1, 20, .inl (fun _ => 0)) := by rw [eC12, va_up_ne _ _ (nz_zh hh 12).symm]; exact hC11_12
  have hC12_13 : C12 (N + 13) = .inl (G.2.2.1, 20, .inl (fun _ => 0)) := by rw [eC12, va_up_ne _ _ (nz_zh hh 13).symm]; exact hC11_13
  have hC12_14 : C12 (N + 14) = .inl (G.2.2.1, 20, .inl (fun _ => 0)) := by rw [eC12, va_up_ne _ _ (nz_zh hh 14).symm]; exact hC11_14
  have hC12_15 : C12 (N + 15) = .inl (G.2.2.1, 20, .inl (fun _ => 0)) := by rw [eC12, va_up_ne _ _ (nz_zh hh 15).symm]; exact hC11_15
  have hC12_16 : C12 (N + 16) = .inr (3, [.int (nI 0), .int (nI 0), .int (nI 0), .int (nI 0), .int (nI 0)]) := by rw [eC12, va_up_ne _ _ (nz_zh hh 16).symm]; exact hC11_16
  have hfC12 : ∀ i, i < N → i ≠ h → C12 i = C i := fun i hi hne => by rw [eC12, va_up_ne _ _ hne]; exact hfC11 i hi hne
  clear eC12 hfC11 hC11_h hC11_0 hC11_1 hC11_2 hC11_3 hC11_4 hC11_5 hC11_6 hC11_7 hC11_8 hC11_9 hC11_10 hC11_11 hC11_12 hC11_13 hC11_14 hC11_15 hC11_16 hw11
  refine lv_aload_n S.1 S.2.1 dX7_init_48 rfl (lv_at hl 0 rfl) ?_
  refine lv_sipush (v := nI 200) S.1 S.2.1 dX7_init_49 (by decide) ?_
  refine x_newI (N' := 200) S hw12 (by decide) (by decide) (by decide) (by decide) (by decide) rfl dX7_init_52 (fun q13 ad13 C13 H13 ead13 eC13 hw13 => ?_)
  have hC13_h : C13 h = .inr (7, [.ref q1, .ref q4, .ref q7, .ref q10, .null, .null, .null, .null, .int 0]) := by rw [eC13, va_up_ne _ _ (nz_zh hh 17)]; exact hC12_h
  have hC13_0 : C13 N = .inr (5, [.ref q2_0, .ref q2_1, .ref q2_2, .ref q2_3]) := by rw [eC13, va_up_ne _ _ (nz_z0 N 17 (by decide))]; exact hC12_0
  have hC13_1 : C13 (N + 1) = .inl (G.2.2.2.1, 64, .inl (fun j => if j < 64 then nI 1 else 0)) := by rw [eC13, va_up_ne _ _ (nz_zn N 1 17 (by decide))]; exact hC12_1
  have hC13_2 : C13 (N + 2) = .inl (G.2.2.1, 64, .inl (fun _ => 0)) := by rw [eC13, va_up_ne _ _ (nz_zn N 2 17 (by decide))]; exact hC12_2
  have hC13_3 : C13 (N + 3) = .inl (G.2.2.1, 8, .inl (fun _ => 0)) := by rw [eC13, va_up_ne _ _ (nz_zn N 3 17 (by decide))]; exact hC12_3
  have hC13_4 : C13 (N + 4) = .inl (G.2.2.1, 24, .inl (fun j => if j < 24 then nI 1 else 0)) := by rw [eC13, va_up_ne _ _ (nz_zn N 4 17 (by decide))]; exact hC12_4
  have hC13_5 : C13 (N + 5) = .inr (0, [.int (nI 0), .ref q5_0, .ref q5_1, .ref q5_2, .ref q5_3, .ref q5_4]) := by rw [eC13, va_up_ne _ _ (nz_zn N 5 17 (by decide))]; exact hC12_5
  have hC13_6 : C13 (N + 6) = .inl (G.2.2.1, 6, .inl (fun _ => 0)) := by rw [eC13, va_up_ne _ _ (nz_zn N 6 17 (by decide))]; exact hC12_6
  have hC13_7 : C13 (N + 7) = .inl (G.2.2.1, 6, .inl (fun _ => 0)) := by rw [eC13, va_up_ne _ _ (nz_zn N 7 17 (by decide))]; exact hC12_7
  have hC13_8 : C13 (N + 8) = .inl (G.2.2.2.1, 48, .inl (fun _ => 0)) := by rw [eC13, va_up_ne _ _ (nz_zn N 8 17 (by decide))]; exact hC12_8
  have hC13_9 : C13 (N + 9) = .inl (G.2.2.1, 48, .inl (fun _ => 0)) := by rw [eC13, va_up_ne _ _ (nz_zn N 9 17 (by decide))]; exact hC12_9
  have hC13_10 : C13 (N + 10) = .inl (G.2.2.1, 48, .inl (fun _ => 0)) := by rw [eC13, va_up_ne _ _ (nz_zn N 10 17 (by decide))]; exact hC12_10
  have hC13_11 : C13 (N + 11) = .inr (6, [.int (nI 0), .ref q8_0, .ref q8_1, .ref q8_2, .ref q8_3]) := by rw [eC13, va_up_ne _ _ (nz_zn N 11 17 (by decide))]; exact hC12_11
  have hC13_12 : C13 (N + 12) = .inl (G.2.2.1, 20, .inl (fun _ => 0)) := by rw [eC13, va_up_ne _ _ (nz_zn N 12 17 (by decide))]; exact hC12_12
  have hC13_13 : C13 (N + 13) = .inl (G.2.2.1, 20, .inl (fun _ => 0)) := by rw [eC13, va_up_ne _ _ (nz_zn N 13 17 (by decide))]; exact hC12_13
  have hC13_14 : C13 (N + 14) = .inl (G.2.2.1, 20, .inl (fun _ => 0)) := by rw [eC13, va_up_ne _ _ (nz_zn N 14 17 (by decide))]; exact hC12_14
  have hC13_15 : C13 (N + 15) = .inl (G.2.2.1, 20, .inl (fun _ => 0)) := by rw [eC13, va_up_ne _ _ (nz_zn N 15 17 (by decide))]; exact hC12_15
  have hC13_16 : C13 (N + 16) = .inr (3, [.int (nI 0), .int (nI 0), .int (nI 0), .int (nI 0), .int (nI 0)]) := by rw [eC13, va_up_ne _ _ (nz_zn N 16 17 (by decide))]; exact hC12_16
  have hC13_17 : C13 (N + 17) = .inl (G.2.2.1, 200, .inl (fun _ => 0)) := by rw [eC13]; exact va_up_self _ _ _
  have hfC13 : ∀ i, i < N → i ≠ h → C13 i = C i := fun i hi hne => by rw [eC13, va_up_ne _ _ (nz_zh hi 17)]; exact hfC12 i hi hne
  have ha13_h : ad13 h = (ad h) := by rw [ead13, va_up_ne _ _ (nz_zh hh 17)]; exact ha11_h
  have ha13_0 : ad13 N = q1 := by rw [ead13, va_up_ne _ _ (nz_z0 N 17 (by decide))]; exact ha11_0
  have ha13_1 : ad13 (N + 1) = q2_0 := by rw [ead13, va_up_ne _ _ (nz_zn N 1 17 (by decide))]; exact ha11_1
  have ha13_2 : ad13 (N + 2) = q2_1 := by rw [ead13, va_up_ne _ _ (nz_zn N 2 17 (by decide))]; exact ha11_2
  have ha13_3 : ad13 (N + 3) = q2_2 := by rw [ead13, va_up_ne _ _ (nz_zn N 3 17 (by decide))]; exact ha11_3
  have ha13_4 : ad13 (N + 4) = q2_3 := by rw [ead13, va_up_ne _ _ (nz_zn N 4 17 (by decide))]; exact ha11_4
  have ha13_5 : ad13 (N + 5) = q4 := by rw [ead13, va_up_ne _ _ (nz_zn N 5 17 (by decide))]; exact ha11_5
  have ha13_6 : ad13 (N + 6) = q5_0 := by rw [ead13, va_up_ne _ _ (nz_zn N 6 17 (by decide))]; exact ha11_6
  have ha13_7 : ad13 (N + 7) = q5_1 := by rw [ead13, va_up_ne _ _ (nz_zn N 7 17 (by decide))]; exact ha11_7
  have ha13_8 : ad13 (N + 8) = q5_2 := by rw [ead13, va_up_ne _ _ (nz_zn N 8 17 (by decide))]; exact ha11_8
  have ha13_9 : ad13 (N + 9) = q5_3 := by rw [ead13, va_up_ne _ _ (nz_zn N 9 17 (by decide))]; exact ha11_9
  have ha13_10 : ad13 (N + 10) = q5_4 := by rw [ead13, va_up_ne _ _ (nz_zn N 10 17 (by decide))]; exact ha11_10
  have ha13_11 : ad13 (N + 11) = q7 := by rw [ead13, va_up_ne _ _ (nz_zn N 11 17 (by decide))]; exact ha11_11
  have ha13_12 : ad13 (N + 12) = q8_0 := by rw [ead13, va_up_ne _ _ (nz_zn N 12 17 (by decide))]; exact ha11_12
  have ha13_13 : ad13 (N + 13) = q8_1 := by rw [ead13, va_up_ne _ _ (nz_zn N 13 17 (by decide))]; exact ha11_13
  have ha13_14 : ad13 (N + 14) = q8_2 := by rw [ead13, va_up_ne _ _ (nz_zn N 14 17 (by decide))]; exact ha11_14
  have ha13_15 : ad13 (N + 15) = q8_3 := by rw [ead13, va_up_ne _ _ (nz_zn N 15 17 (by decide))]; exact ha11_15
  have ha13_16 : ad13 (N + 16) = q10 := by rw [ead13, va_up_ne _ _ (nz_zn N 16 17 (by decide))]; exact ha11_16
  have ha13_17 : ad13 (N + 17) = q13 := by rw [ead13]; exact va_up_self _ _ _
  have hfa13 : ∀ i, i < N → ad13 i = ad i := fun i hi => by rw [ead13, va_up_ne _ _ (nz_zh hi 17)]; exact hfa11 i hi
  clear eC13 hfC12 hC12_h hC12_0 hC12_1 hC12_2 hC12_3 hC12_4 hC12_5 hC12_6 hC12_7 hC12_8 hC12_9 hC12_10 hC12_11 hC12_12 hC12_13 hC12_14 hC12_15 hC12_16 ead13 hfa11 ha11_h ha11_0 ha11_1 ha11_2 ha11_3 ha11_4 ha11_5 ha11_6 ha11_7 ha11_8 ha11_9 ha11_10 ha11_11 ha11_12 ha11_13 ha11_14 ha11_15 ha11_16 hw12
  refine x_putF (fs' := [.ref q1, .ref q4, .ref q7, .ref q10, .ref q13, .null, .null, .null, .int 0]) S hw13 h ha13_h (lt_zh hh 18) hC13_h rfl in_X7 tyX7_ok nmX7 4 (by decide) wf_X7_37 rfl hini rfl rfl rfl (by show 4 < 9; decide) rfl dX7_init_54 (fun C14 H14 locs14 eC14 hw14 => ?_)
  have hC14_h : C14 h = .inr (7, [.ref q1, .ref q4, .ref q7, .ref q10, .ref q13, .null, .null, .null, .int 0]) := by rw [eC14]; exact va_up_self _ _ _
  have hC14_0 : C14 N = .inr (5, [.ref q2_0, .ref q2_1, .ref q2_2, .ref q2_3]) := by rw [eC14, va_up_ne _ _ (Nat.ne_of_lt hh).symm]; exact hC13_0
  have hC14_1 : C14 (N + 1) = .inl (G.2.2.2.1, 64, .inl (fun j => if j < 64 then nI 1 else 0)) := by rw [eC14, va_up_ne _ _ (nz_zh hh 1).symm]; exact hC13_1
  have hC14_2 : C14 (N + 2) = .inl (G.2.2.1, 64, .inl (fun _ => 0)) := by rw [eC14, va_up_ne _ _ (nz_zh hh 2).symm]; exact hC13_2
  have hC14_3 : C14 (N + 3) = .inl (G.2.2.1, 8, .inl (fun _ => 0)) := by rw [eC14, va_up_ne _ _ (nz_zh hh 3).symm]; exact hC13_3
  have hC14_4 : C14 (N + 4) = .inl (G.2.2.1, 24, .inl (fun j => if j < 24 then nI 1 else 0)) := by rw [eC14, va_up_ne _ _ (nz_zh hh 4).symm]; exact hC13_4
  have hC14_5 : C14 (N + 5) = .inr (0, [.int (nI 0), .ref q5_0, .ref q5_1, .ref q5_2, .ref q5_3, .ref q5_4]) := by rw [eC14, va_up_ne _ _ (nz_zh hh 5).symm]; exact hC13_5
  have hC14_6 : C14 (N + 6) = .inl (G.2.2.1, 6, .inl (fun _ => 0)) := by rw [eC14, va_up_ne _ _ (nz_zh hh 6).symm]; exact hC13_6
  have hC14_7 : C14 (N + 7) = .inl (G.2.2.1, 6, .inl (fun _ => 0)) := by rw [eC14, va_up_ne _ _ (nz_zh hh 7).symm]; exact hC13_7
  have hC14_8 : C14 (N + 8) = .inl (G.2.2.2.1, 48, .inl (fun _ => 0)) := by rw [eC14, va_up_ne _ _ (nz_zh hh 8).symm]; exact hC13_8
  have hC14_9 : C14 (N + 9) = .inl (G.2.2.1, 48, .inl (fun _ => 0)) := by rw [eC14, va_up_ne _ _ (nz_zh hh 9).symm]; exact hC13_9
  have hC14_10 : C14 (N + 10) = .inl (G.2.2.1, 48, .inl (fun _ => 0)) := by rw [eC14, va_up_ne _ _ (nz_zh hh 10).symm]; exact hC13_10
  have hC14_11 : C14 (N + 11) = .inr (6, [.int (nI 0), .ref q8_0, .ref q8_1, .ref q8_2, .ref q8_3]) := by rw [eC14, va_up_ne _ _ (nz_zh hh 11).symm]; exact hC13_11
  have hC14_12 : C14 (N + 12) = .inl (G.2.2.1, 20, .inl (fun _ => 0)) := by rw [eC14, va_up_ne _ _ (nz_zh hh 12).symm]; exact hC13_12
  have hC14_13 : C14 (N + 13) = .inl (G.2.2.1, 20, .inl (fun _ => 0)) := by rw [eC14, va_up_ne _ _ (nz_zh hh 13).symm]; exact hC13_13
  have hC14_14 : C14 (N + 14) = .inl (G.2.2.1, 20, .inl (fun _ => 0)) := by rw [eC14, va_up_ne _ _ (nz_zh hh 14).symm]; exact hC13_14
  have hC14_15 : C14 (N + 15) = .inl (G.2.2.1, 20, .inl (fun _ => 0)) := by rw [eC14, va_up_ne _ _ (nz_zh hh 15).symm]; exact hC13_15
  have hC14_16 : C14 (N + 16) = .inr (3, [.int (nI 0), .int (nI 0), .int (nI 0), .int (nI 0), .int (nI 0)]) := by rw [eC14, va_up_ne _ _ (nz_zh hh 16).symm]; exact hC13_16
  have hC14_17 : C14 (N + 17) = .inl (G.2.2.1, 200, .inl (fun _ => 0)) := by rw [eC14, va_up_ne _ _ (nz_zh hh 17).symm]; exact hC13_17
  have hfC14 : ∀ i, i < N → i ≠ h → C14 i = C i := fun i hi hne => by rw [eC14, va_up_ne _ _ hne]; exact hfC13 i hi hne
  clear eC14 hfC13 hC13_h hC13_0 hC13_1 hC13_2 hC13_3 hC13_4 hC13_5 hC13_6 hC13_7 hC13_8 hC13_9 hC13_10 hC13_11 hC13_12 hC13_13 hC13_14 hC13_15 hC13_16 hC13_17 hw13
  refine lv_aload_n S.1 S.2.1 dX7_init_57 rfl (lv_at hl 0 rfl) ?_
  refine lv_sipush (v := nI 200) S.1 S.2.1 dX7_init_58 (by decide) ?_
  refine x_newI (N' := 200) S hw14 (by decide) (by decide) (by decide) (by decide) (by decide) rfl dX7_init_61 (fun q15 ad15 C15 H15 ead15 eC15 hw15 => ?_)
  have hC15_h : C15 h = .inr (7, [.ref q1, .ref q4, .ref q7, .ref q10, .ref q13, .null, .null, .null, .int 0]) := by rw [eC15, va_up_ne _ _ (nz_zh hh 18)]; exact hC14_h
  have hC15_0 : C15 N = .inr (5, [.ref q2_0, .ref q2_1, .ref q2_2, .ref q2_3]) := by rw [eC15, va_up_ne _ _ (nz_z0 N 18 (by decide))]; exact hC14_0
  have hC15_1 : C15 (N + 1) = .inl (G.2.2.2.1, 64, .inl (fun j => if j < 64 then nI 1 else 0)) := by rw [eC15, va_up_ne _ _ (nz_zn N 1 18 (by decide))]; exact hC14_1
  have hC15_2 : C15 (N + 2) = .inl (G.2.2.1, 64, .inl (fun _ => 0)) := by rw [eC15, va_up_ne _ _ (nz_zn N 2 18 (by decide))]; exact hC14_2
  have hC15_3 : C15 (N + 3) = .inl (G.2.2.1, 8, .inl (fun _ => 0)) := by rw [eC15, va_up_ne _ _ (nz_zn N 3 18 (by decide))]; exact hC14_3
  have hC15_4 : C15 (N + 4) = .inl (G.2.2.1, 24, .inl (fun j => if j < 24 then nI 1 else 0)) := by rw [eC15, va_up_ne _ _ (nz_zn N 4 18 (by decide))]; exact hC14_4
  have hC15_5 : C15 (N + 5) = .inr (0, [.int (nI 0), .ref q5_0, .ref q5_1, .ref q5_2, .ref q5_3, .ref q5_4]) := by rw [eC15, va_up_ne _ _ (nz_zn N 5 18 (by decide))]; exact hC14_5
  have hC15_6 : C15 (N + 6) = .inl (G.2.2.1, 6, .inl (fun _ => 0)) := by rw [eC15, va_up_ne _ _ (nz_zn N 6 18 (by decide))]; exact hC14_6
  have hC15_7 : C15 (N + 7) = .inl (G.2.2.1, 6, .inl (fun _ => 0)) := by rw [eC15, va_up_ne _ _ (nz_zn N 7 18 (by decide))]; exact hC14_7
  have hC15_8 : C15 (N + 8) = .inl (G.2.2.2.1, 48, .inl (fun _ => 0)) := by rw [eC15, va_up_ne _ _ (nz_zn N 8 18 (by decide))]; exact hC14_8
  have hC15_9 : C15 (N + 9) = .inl (G.2.2.1, 48, .inl (fun _ => 0)) := by rw [eC15, va_up_ne _ _ (nz_zn N 9 18 (by decide))]; exact hC14_9
  have hC15_10 : C15 (N + 10) = .inl (G.2.2.1, 48, .inl (fun _ => 0)) := by rw [eC15, va_up_ne _ _ (nz_zn N 10 18 (by decide))]; exact hC14_10
  have hC15_11 : C15 (N + 11) = .inr (6, [.int (nI 0), .ref q8_0, .ref q8_1, .ref q8_2, .ref q8_3]) := by rw [eC15, va_up_ne _ _ (nz_zn N 11 18 (by decide))]; exact hC14_11
  have hC15_12 : C15 (N + 12) = .inl (G.2.2.1, 20, .inl (fun _ => 0)) := by rw [eC15, va_up_ne _ _ (nz_zn N 12 18 (by decide))]; exact hC14_12
  have hC15_13 : C15 (N + 13) = .inl (G.2.2.1, 20, .inl (fun _ => 0)) := by rw [eC15, va_up_ne _ _ (nz_zn N 13 18 (by decide))]; exact hC14_13
  have hC15_14 : C15 (N + 14) = .inl (G.2.2.1, 20, .inl (fun _ => 0)) := by rw [eC15, va_up_ne _ _ (nz_zn N 14 18 (by decide))]; exact hC14_14
  have hC15_15 : C15 (N + 15) = .inl (G.2.2.1, 20, .inl (fun _ => 0)) := by rw [eC15, va_up_ne _ _ (nz_zn N 15 18 (by decide))]; exact hC14_15
  have hC15_16 : C15 (N + 16) = .inr (3, [.int (nI 0), .int (nI 0), .int (nI 0), .int (nI 0), .int (nI 0)]) := by rw [eC15, va_up_ne _ _ (nz_zn N 16 18 (by decide))]; exact hC14_16
  have hC15_17 : C15 (N + 17) = .inl (G.2.2.1, 200, .inl (fun _ => 0)) := by rw [eC15, va_up_ne _ _ (nz_zn N 17 18 (by decide))]; exact hC14_17
  have hC15_18 : C15 (N + 18) = .inl (G.2.2.1, 200, .inl (fun _ => 0)) := by rw [eC15]; exact va_up_self _ _ _
  have hfC15 : ∀ i, i < N → i ≠ h → C15 i = C i := fun i hi hne => by rw [eC15, va_up_ne _ _ (nz_zh hi 18)]; exact hfC14 i hi hne
  have ha15_h : ad15 h = (ad h) := by rw [ead15, va_up_ne _ _ (nz_zh hh 18)]; exact ha13_h
  have ha15_0 : ad15 N = q1 := by rw [ead15, va_up_ne _ _ (nz_z0 N 18 (by decide))]; exact ha13_0
  have ha15_1 : ad15 (N + 1) = q2_0 := by rw [ead15, va_up_ne _ _ (nz_zn N 1 18 (by decide))]; exact ha13_1
  have ha15_2 : ad15 (N + 2) = q2_1 := by rw [ead15, va_up_ne _ _ (nz_zn N 2 18 (by decide))]; exact ha13_2
  have ha15_3 : ad15 (N + 3) = q2_2 := by rw [ead15, va_up_ne _ _ (nz_zn N 3 18 (by decide))]; exact ha13_3
  have ha15_4 : ad15 (N + 4) = q2_3 := by rw [ead15, va_up_ne _ _ (nz_zn N 4 18 (by decide))]; exact ha13_4
  have ha15_5 : ad15 (N + 5) = q4 := by rw [ead15, va_up_ne _ _ (nz_zn N 5 18 (by decide))]; exact ha13_5
  have ha15_6 : ad15 (N + 6) = q5_0 := by rw [ead15, va_up_ne _ _ (nz_zn N 6 18 (by decide))]; exact ha13_6
  have ha15_7 : ad15 (N + 7) = q5_1 := by rw [ead15, va_up_ne _ _ (nz_zn N 7 18 (by decide))]; exact ha13_7
  have ha15_8 : ad15 (N + 8) = q5_2 := by rw [ead15, va_up_ne _ _ (nz_zn N 8 18 (by decide))]; exact ha13_8
  have ha15_9 : ad15 (N + 9) = q5_3 := by rw [ead15, va_up_ne _ _ (nz_zn N 9 18 (by decide))]; exact ha13_9
  have ha15_10 : ad15 (N + 10) = q5_4 := by rw [ead15, va_up_ne _ _ (nz_zn N 10 18 (by decide))]; exact ha13_10
  have ha15_11 : ad15 (N + 11) = q7 := by rw [ead15, va_up_ne _ _ (nz_zn N 11 18 (by decide))]; exact ha13_11
  have ha15_12 : ad15 (N + 12) = q8_0 := by rw [ead15, va_up_ne _ _ (nz_zn N 12 18 (by decide))]; exact ha13_12
  have ha15_13 : ad15 (N + 13) = q8_1 := by rw [ead15, va_up_ne _ _ (nz_zn N 13 18 (by decide))]; exact ha13_13
  have ha15_14 : ad15 (N + 14) = q8_2 := by rw [ead15, va_up_ne _ _ (nz_zn N 14 18 (by decide))]; exact ha13_14
  have ha15_15 : ad15 (N + 15) = q8_3 := by rw [ead15, va_up_ne _ _ (nz_zn N 15 18 (by decide))]; exact ha13_15
  have ha15_16 : ad15 (N + 16) = q10 := by rw [ead15, va_up_ne _ _ (nz_zn N 16 18 (by decide))]; exact ha13_16
  have ha15_17 : ad15 (N + 17) = q13 := by rw [ead15, va_up_ne _ _ (nz_zn N 17 18 (by decide))]; exact ha13_17
  have ha15_18 : ad15 (N + 18) = q15 := by rw [ead15]; exact va_up_self _ _ _
  have hfa15 : ∀ i, i < N → ad15 i = ad i := fun i hi => by rw [ead15, va_up_ne _ _ (nz_zh hi 18)]; exact hfa13 i hi
  clear eC15 hfC14 hC14_h hC14_0 hC14_1 hC14_2 hC14_3 hC14_4 hC14_5 hC14_6 hC14_7 hC14_8 hC14_9 hC14_10 hC14_11 hC14_12 hC14_13 hC14_14 hC14_15 hC14_16 hC14_17 ead15 hfa13 ha13_h ha13_0 ha13_1 ha13_2 ha13_3 ha13_4 ha13_5 ha13_6 ha13_7 ha13_8 ha13_9 ha13_10 ha13_11 ha13_12 ha13_13 ha13_14 ha13_15 ha13_16 ha13_17 hw14
  refine x_putF (fs' := [.ref q1, .ref q4, .ref q7, .ref q10, .ref q13, .ref q15, .null, .null, .int 0]) S hw15 h ha15_h (lt_zh hh 19) hC15_h rfl in_X7 tyX7_ok nmX7 5 (by decide) wf_X7_41 rfl hini rfl rfl rfl (by show 5 < 9; decide) rfl dX7_init_63 (fun C16 H16 locs16 eC16 hw16 => ?_)
  have hC16_h : C16 h = .inr (7, [.ref q1, .ref q4, .ref q7, .ref q10, .ref q13, .ref q15, .null, .null, .int 0]) := by rw [eC16]; exact va_up_self _ _ _
  have hC16_0 : C16 N = .inr (5, [.ref q2_0, .ref q2_1, .ref q2_2, .ref q2_3]) := by rw [eC16, va_up_ne _ _ (Nat.ne_of_lt hh).symm]; exact hC15_0
  have hC16_1 : C16 (N + 1) = .inl (G.2.2.2.1, 64, .inl (fun j => if j < 64 then nI 1 else 0)) := by rw [eC16, va_up_ne _ _ (nz_zh hh 1).symm]; exact hC15_1
  have hC16_2 : C16 (N + 2) = .inl (G.2.2.1, 64, .inl (fun _ => 0)) := by rw [eC16, va_up_ne _ _ (nz_zh hh 2).symm]; exact hC15_2
  have hC16_3 : C16 (N + 3) = .inl (G.2.2.1, 8, .inl (fun _ => 0)) := by rw [eC16, va_up_ne _ _ (nz_zh hh 3).symm]; exact hC15_3
  have hC16_4 : C16 (N + 4) = .inl (G.2.2.1, 24, .inl (fun j => if j < 24 then nI 1 else 0)) := by rw [eC16, va_up_ne _ _ (nz_zh hh 4).symm]; exact hC15_4
  have hC16_5 : C16 (N + 5) = .inr (0, [.int (nI 0), .ref q5_0, .ref q5_1, .ref q5_2, .ref q5_3, .ref q5_4]) := by rw [eC16, va_up_ne _ _ (nz_zh hh 5).symm]; exact hC15_5
  have hC16_6 : C16 (N + 6) = .inl (G.2.2.1, 6, .inl (fun _ => 0)) := by rw [eC16, va_up_ne _ _ (nz_zh hh 6).symm]; exact hC15_6
  have hC16_7 : C16 (N + 7) = .inl (G.2.2.1, 6, .inl (fun _ => 0)) := by rw [eC16, va_up_ne _ _ (nz_zh hh 7).symm]; exact hC15_7
  have hC16_8 : C16 (N + 8) = .inl (G.2.2.2.1, 48, .inl (fun _ => 0)) := by rw [eC16, va_up_ne _ _ (nz_zh hh 8).symm]; exact hC15_8
  have hC16_9 : C16 (N + 9) = .inl (G.2.2.1, 48, .inl (fun _ => 0)) := by rw [eC16, va_up_ne _ _ (nz_zh hh 9).symm]; exact hC15_9
  have hC16_10 : C16 (N + 10) = .inl (G.2.2.1, 48, .inl (fun _ => 0)) := by rw [eC16, va_up_ne _ _ (nz_zh hh 10).symm]; exact hC15_10
  have hC16_11 : C16 (N + 11) = .inr (6, [.int (nI 0), .ref q8_0, .ref q8_1, .ref q8_2, .ref q8_3]) := by rw [eC16, va_up_ne _ _ (nz_zh hh 11).symm]; exact hC15_11
  have hC16_12 : C16 (N + 12) = .inl (G.2.2.1, 20, .inl (fun _ => 0)) := by rw [eC16, va_up_ne _ _ (nz_zh hh 12).symm]; exact hC15_12
  have hC16_13 : C16 (N + 13) = .inl (G.2.2.1, 20, .inl (fun _ => 0)) := by rw [eC16, va_up_ne _ _ (nz_zh hh 13).symm]; exact hC15_13
  have hC16_14 : C16 (N + 14) = .inl (G.2.2.1, 20, .inl (fun _ => 0)) := by rw [eC16, va_up_ne _ _ (nz_zh hh 14).symm]; exact hC15_14
  have hC16_15 : C16 (N + 15) = .inl (G.2.2.1, 20, .inl (fun _ => 0)) := by rw [eC16, va_up_ne _ _ (nz_zh hh 15).symm]; exact hC15_15
  have hC16_16 : C16 (N + 16) = .inr (3, [.int (nI 0), .int (nI 0), .int (nI 0), .int (nI 0), .int (nI 0)]) := by rw [eC16, va_up_ne _ _ (nz_zh hh 16).symm]; exact hC15_16
  have hC16_17 : C16 (N + 17) = .inl (G.2.2.1, 200, .inl (fun _ => 0)) := by rw [eC16, va_up_ne _ _ (nz_zh hh 17).symm]; exact hC15_17
  have hC16_18 : C16 (N + 18) = .inl (G.2.2.1, 200, .inl (fun _ => 0)) := by rw [eC16, va_up_ne _ _ (nz_zh hh 18).symm]; exact hC15_18
  have hfC16 : ∀ i, i < N → i ≠ h → C16 i = C i := fun i hi hne => by rw [eC16, va_up_ne _ _ hne]; exact hfC15 i hi hne
  clear eC16 hfC15 hC15_h hC15_0 hC15_1 hC15_2 hC15_3 hC15_4 hC15_5 hC15_6 hC15_7 hC15_8 hC15_9 hC15_10 hC15_11 hC15_12 hC15_13 hC15_14 hC15_15 hC15_16 hC15_17 hC15_18 hw15
  refine lv_aload_n S.1 S.2.1 dX7_init_66 rfl (lv_at hl 0 rfl) ?_
  refine x_new (ci := 1) (fs := [.int 0, .int 0, .int 0, .null, .null, .null, .null]) S hw16 rfl in_X1 tyX1_ok wk_X7_44 wb_X1 wn_X1 df_X1 (by decide) (by decide) dX7_init_67 (fun q17 ad17 C17 H17 ead17 eC17 hw17 => ?_)
  have hC17_h : C17 h = .inr (7, [.ref q1, .ref q4, .ref q7, .ref q10, .ref q13, .ref q15, .null, .null, .int 0]) := by rw [eC17, va_up_ne _ _ (nz_zh hh 19)]; exact hC16_h
  have hC17_0 : C17 N = .inr (5, [.ref q2_0, .ref q2_1, .ref q2_2, .ref q2_3]) := by rw [eC17, va_up_ne _ _ (nz_z0 N 19 (by decide))]; exact hC16_0
  have hC17_1 : C17 (N + 1) = .inl (G.2.2.2.1, 64, .inl (fun j => if j < 64 then nI 1 else 0)) := by rw [eC17, va_up_ne _ _ (nz_zn N 1 19 (by decide))]; exact hC16_1
  have hC17_2 : C17 (N + 2) = .inl (G.2.2.1, 64, .inl (fun _ => 0)) := by rw [eC17, va_up_ne _ _ (nz_zn N 2 19 (by decide))]; exact hC16_2
  have hC17_3 : C17 (N + 3) = .inl (G.2.2.1, 8, .inl (fun _ => 0)) := by rw [eC17, va_up_ne _ _ (nz_zn N 3 19 (by decide))]; exact hC16_3
  have hC17_4 : C17 (N + 4) = .inl (G.2.2.1, 24, .inl (fun j => if j < 24 then nI 1 else 0)) := by rw [eC17, va_up_ne _ _ (nz_zn N 4 19 (by decide))]; exact hC16_4
  have hC17_5 : C17 (N + 5) = .inr (0, [.int (nI 0), .ref q5_0, .ref q5_1, .ref q5_2, .ref q5_3, .ref q5_4]) := by rw [eC17, va_up_ne _ _ (nz_zn N 5 19 (by decide))]; exact hC16_5
  have hC17_6 : C17 (N + 6) = .inl (G.2.2.1, 6, .inl (fun _ => 0)) := by rw [eC17, va_up_ne _ _ (nz_zn N 6 19 (by decide))]; exact hC16_6
  have hC17_7 : C17 (N + 7) = .inl (G.2.2.1, 6, .inl (fun _ => 0)) := by rw [eC17, va_up_ne _ _ (nz_zn N 7 19 (by decide))]; exact hC16_7
  have hC17_8 : C17 (N + 8) = .inl (G.2.2.2.1, 48, .inl (fun _ => 0)) := by rw [eC17, va_up_ne _ _ (nz_zn N 8 19 (by decide))]; exact hC16_8
  have hC17_9 : C17 (N + 9) = .inl (G.2.2.1, 48, .inl (fun _ => 0)) := by rw [eC17, va_up_ne _ _ (nz_zn N 9 19 (by decide))]; exact hC16_9
  have hC17_10 : C17 (N + 10) = .inl (G.2.2.1, 48, .inl (fun _ => 0)) := by rw [eC17, va_up_ne _ _ (nz_zn N 10 19 (by decide))]; exact hC16_10
  have hC17_11 : C17 (N + 11) = .inr (6, [.int (nI 0), .ref q8_0, .ref q8_1, .ref q8_2, .ref q8_3]) := by rw [eC17, va_up_ne _ _ (nz_zn N 11 19 (by decide))]; exact hC16_11
  have hC17_12 : C17 (N + 12) = .inl (G.2.2.1, 20, .inl (fun _ => 0)) := by rw [eC17, va_up_ne _ _ (nz_zn N 12 19 (by decide))]; exact hC16_12
  have hC17_13 : C17 (N + 13) = .inl (G.2.2.1, 20, .inl (fun _ => 0)) := by rw [eC17, va_up_ne _ _ (nz_zn N 13 19 (by decide))]; exact hC16_13
  have hC17_14 : C17 (N + 14) = .inl (G.2.2.1, 20, .inl (fun _ => 0)) := by rw [eC17, va_up_ne _ _ (nz_zn N 14 19 (by decide))]; exact hC16_14
  have hC17_15 : C17 (N + 15) = .inl (G.2.2.1, 20, .inl (fun _ => 0)) := by rw [eC17, va_up_ne _ _ (nz_zn N 15 19 (by decide))]; exact hC16_15
  have hC17_16 : C17 (N + 16) = .inr (3, [.int (nI 0), .int (nI 0), .int (nI 0), .int (nI 0), .int (nI 0)]) := by rw [eC17, va_up_ne _ _ (nz_zn N 16 19 (by decide))]; exact hC16_16
  have hC17_17 : C17 (N + 17) = .inl (G.2.2.1, 200, .inl (fun _ => 0)) := by rw [eC17, va_up_ne _ _ (nz_zn N 17 19 (by decide))]; exact hC16_17
  have hC17_18 : C17 (N + 18) = .inl (G.2.2.1, 200, .inl (fun _ => 0)) := by rw [eC17, va_up_ne _ _ (nz_zn N 18 19 (by decide))]; exact hC16_18
  have hC17_19 : C17 (N + 19) = .inr (1, [.int 0, .int 0, .int 0, .null, .null, .null, .null]) := by rw [eC17]; exact va_up_self _ _ _
  have hfC17 : ∀ i, i < N → i ≠ h → C17 i = C i := fun i hi hne => by rw [eC17, va_up_ne _ _ (nz_zh hi 19)]; exact hfC16 i hi hne
  have ha17_h : ad17 h = (ad h) := by rw [ead17, va_up_ne _ _ (nz_zh hh 19)]; exact ha15_h
  have ha17_0 : ad17 N = q1 := by rw [ead17, va_up_ne _ _ (nz_z0 N 19 (by decide))]; exact ha15_0
  have ha17_1 : ad17 (N + 1) = q2_0 := by rw [ead17, va_up_ne _ _ (nz_zn N 1 19 (by decide))]; exact ha15_1
  have ha17_2 : ad17 (N + 2) = q2_1 := by rw [ead17, va_up_ne _ _ (nz_zn N 2 19 (by decide))]; exact ha15_2
  have ha17_3 : ad17 (N + 3) = q2_2 := by rw [ead17, va_up_ne _ _ (nz_zn N 3 19 (by decide))]; exact ha15_3
  have ha17_4 : ad17 (N + 4) = q2_3 := by rw [ead17, va_up_ne _ _ (nz_zn N 4 19 (by decide))]; exact ha15_4
  have ha17_5 : ad17 (N + 5) = q4 := by rw [ead17, va_up_ne _ _ (nz_zn N 5 19 (by decide))]; exact ha15_5
  have ha17_6 : ad17 (N + 6) = q5_0 := by rw [ead17, va_up_ne _ _ (nz_zn N 6 19 (by decide))]; exact ha15_6
  have ha17_7 : ad17 (N + 7) = q5_1 := by rw [ead17, va_up_ne _ _ (nz_zn N 7 19 (by decide))]; exact ha15_7
  have ha17_8 : ad17 (N + 8) = q5_2 := by rw [ead17, va_up_ne _ _ (nz_zn N 8 19 (by decide))]; exact ha15_8
  have ha17_9 : ad17 (N + 9) = q5_3 := by rw [ead17, va_up_ne _ _ (nz_zn N 9 19 (by decide))]; exact ha15_9
  have ha17_10 : ad17 (N + 10) = q5_4 := by rw [ead17, va_up_ne _ _ (nz_zn N 10 19 (by decide))]; exact ha15_10
  have ha17_11 : ad17 (N + 11) = q7 := by rw [ead17, va_up_ne _ _ (nz_zn N 11 19 (by decide))]; exact ha15_11
  have ha17_12 : ad17 (N + 12) = q8_0 := by rw [ead17, va_up_ne _ _ (nz_zn N 12 19 (by decide))]; exact ha15_12
  have ha17_13 : ad17 (N + 13) = q8_1 := by rw [ead17, va_up_ne _ _ (nz_zn N 13 19 (by decide))]; exact ha15_13
  have ha17_14 : ad17 (N + 14) = q8_2 := by rw [ead17, va_up_ne _ _ (nz_zn N 14 19 (by decide))]; exact ha15_14
  have ha17_15 : ad17 (N + 15) = q8_3 := by rw [ead17, va_up_ne _ _ (nz_zn N 15 19 (by decide))]; exact ha15_15
  have ha17_16 : ad17 (N + 16) = q10 := by rw [ead17, va_up_ne _ _ (nz_zn N 16 19 (by decide))]; exact ha15_16
  have ha17_17 : ad17 (N + 17) = q13 := by rw [ead17, va_up_ne _ _ (nz_zn N 17 19 (by decide))]; exact ha15_17
  have ha17_18 : ad17 (N + 18) = q15 := by rw [ead17, va_up_ne _ _ (nz_zn N 18 19 (by decide))]; exact ha15_18
  have ha17_19 : ad17 (N + 19) = q17 := by rw [ead17]; exact va_up_self _ _ _
  have hfa17 : ∀ i, i < N → ad17 i = ad i := fun i hi => by rw [ead17, va_up_ne _ _ (nz_zh hi 19)]; exact hfa15 i hi
  clear eC17 hfC16 hC16_h hC16_0 hC16_1 hC16_2 hC16_3 hC16_4 hC16_5 hC16_6 hC16_7 hC16_8 hC16_9 hC16_10 hC16_11 hC16_12 hC16_13 hC16_14 hC16_15 hC16_16 hC16_17 hC16_18 ead17 hfa15 ha15_h ha15_0 ha15_1 ha15_2 ha15_3 ha15_4 ha15_5 ha15_6 ha15_7 ha15_8 ha15_9 ha15_10 ha15_11 ha15_12 ha15_13 ha15_14 ha15_15 ha15_16 ha15_17 ha15_18 hw16
  refine lv_dup S.1 S.2.1 dX7_init_70 rfl ?_
  have hM18 := c_X1_init l G (N + 20) ad17 C17 (N + 19) (lt_zn N 19 20 (by decide)) hC17_19
  rw [ha17_19] at hM18
  refine g_cIN (As := []) (rest := [.ref q17, .ref (ad h)]) S hw17 hM18 mf_X1_init (List.mem_of_getElem? (i := 3) rfl) ⟨by decide, by decide⟩ ⟨by decide, by decide⟩ hl.1 rfl (Nat.le_of_ble_eq_true rfl) dX7_init_71 (fun u18 H18 locs18 hp18 hw18 => ?_)
  obtain ⟨N18, ad18, C18⟩ := u18
  obtain ⟨eN18, pa18, pC18, ph18, pn18_0, pn18_1, pn18_2, pn18_3, pn18_4, pn18_5, pn18_6, pn18_7, pn18_8, pn18_9, pn18_10, pn18_11⟩ := hp18
  have eN18 : N18 = (N + 32) := eN18
  subst eN18
  have pa18 : ∀ i, i < (N + 20) → ad18 i = ad17 i := pa18
  have pC18 : ∀ i, i < (N + 20) → i ≠ (N + 19) → C18 i = C17 i := pC18
  obtain ⟨q18_0, ha18_20⟩ : ∃ q, ad18 (N + 20) = q := ⟨_, rfl⟩
  obtain ⟨q18_1, ha18_21⟩ : ∃ q, ad18 (N + 21) = q := ⟨_, rfl⟩
  obtain ⟨q18_2, ha18_22⟩ : ∃ q, ad18 (N + 22) = q := ⟨_, rfl⟩
  obtain ⟨q18_3, ha18_23⟩ : ∃ q, ad18 (N + 23) = q := ⟨_, rfl⟩
  obtain ⟨q18_4, ha18_24⟩ : ∃ q, ad18 (N + 24) = q := ⟨_, rfl⟩
  obtain ⟨q18_5, ha18_25⟩ : ∃ q, ad18 (N + 25) = q := ⟨_, rfl⟩
  obtain ⟨q18_6, ha18_26⟩ : ∃ q, ad18 (N + 26) = q := ⟨_, rfl⟩
  obtain ⟨q18_7, ha18_27⟩ : ∃ q, ad18 (N + 27) = q := ⟨_, rfl⟩
  obtain ⟨q18_8, ha18_28⟩ : ∃ q, ad18 (N + 28) = q := ⟨_, rfl⟩
  obtain ⟨q18_9, ha18_29⟩ : ∃ q, ad18 (N + 29) = q := ⟨_, rfl⟩
  obtain ⟨q18_10, ha18_30⟩ : ∃ q, ad18 (N + 30) = q := ⟨_, rfl⟩
  obtain ⟨q18_11, ha18_31⟩ : ∃ q, ad18 (N + 31) = q := ⟨_, rfl⟩
  have hC18_h : C18 h = .inr (7, [.ref q1, .ref q4, .ref q7, .ref q10, .ref q13, .ref q15, .null, .null, .int 0]) := (pC18 _ (lt_zh hh 20) (nz_zh hh 19)).trans hC17_h
  have ha18_h : ad18 h = (ad h) := (pa18 _ (lt_zh hh 20)).trans ha17_h
  have hC18_0 : C18 N = .inr (5, [.ref q2_0, .ref q2_1, .ref q2_2, .ref q2_3]) := (pC18 _ (lt_z0 N 20 (by decide)) (nz_z0 N 19 (by decide))).trans hC17_0
  have ha18_0 : ad18 N = q1 := (pa18 _ (lt_z0 N 20 (by decide))).trans ha17_0
  have hC18_1 : C18 (N + 1) = .inl (G.2.2.2.1, 64, .inl (fun j => if j < 64 then nI 1 else 0)) := (pC18 _ (lt_zn N 1 20 (by decide)) (nz_zn N 1 19 (by decide))).trans hC17_1
  have ha18_1 : ad18 (N + 1) = q2_0 := (pa18 _ (lt_zn N 1 20 (by decide))).trans ha17_1
  have hC18_2 : C18 (N + 2) = .inl (G.2.2.1, 64, .inl (fun _ => 0)) := (pC18 _ (lt_zn N 2 20 (by decide)) (nz_zn N 2 19 (by decide))).trans hC17_2
  have ha18_2 : ad18 (N + 2) = q2_1 := (pa18 _ (lt_zn N 2 20 (by decide))).trans ha17_2
  have hC18_3 : C18 (N + 3) = .inl (G.2.2.1, 8, .inl (fun _ => 0)) := (pC18 _ (lt_zn N 3 20 (by decide)) (nz_zn N 3 19 (by decide))).trans hC17_3
  have ha18_3 : ad18 (N + 3) = q2_2 := (pa18 _ (lt_zn N 3 20 (by decide))).trans ha17_3
  have hC18_4 : C18 (N + 4) = .inl (G.2.2.1, 24, .inl (fun j => if j < 24 then nI 1 else 0)) := (pC18 _ (lt_zn N 4 20 (by decide)) (nz_zn N 4 19 (by decide))).trans hC17_4
  have ha18_4 : ad18 (N + 4) = q2_3 := (pa18 _ (lt_zn N 4 20 (by decide))).trans ha17_4
  have hC18_5 : C18 (N + 5) = .inr (0, [.int (nI 0), .ref q5_0, .ref q5_1, .ref q5_2, .ref q5_3, .ref q5_4]) := (pC18 _ (lt_zn N 5 20 (by decide)) (nz_zn N 5 19 (by decide))).trans hC17_5
  have ha18_5 : ad18 (N + 5) = q4 := (pa18 _ (lt_zn N 5 20 (by decide))).trans ha17_5
  have hC18_6 : C18 (N + 6) = .inl (G.2.2.1, 6, .inl (fun _ => 0)) := (pC18 _ (lt_zn N 6 20 (by decide)) (nz_zn N 6 19 (by decide))).trans hC17_6
  have ha18_6 : ad18 (N + 6) = q5_0 := (pa18 _ (lt_zn N 6 20 (by decide))).trans ha17_6
  have hC18_7 : C18 (N + 7) = .inl (G.2.2.1, 6, .inl (fun _ => 0)) := (pC18 _ (lt_zn N 7 20 (by decide)) (nz_zn N 7 19 (by decide))).trans hC17_7
  have ha18_7 : ad18 (N + 7) = q5_1 := (pa18 _ (lt_zn N 7 20 (by decide))).trans ha17_7
  have hC18_8 : C18 (N + 8) = .inl (G.2.2.2.1, 48, .inl (fun _ => 0)) := (pC18 _ (lt_zn N 8 20 (by decide)) (nz_zn N 8 19 (by decide))).trans hC17_8
  have ha18_8 : ad18 (N + 8) = q5_2 := (pa18 _ (lt_zn N 8 20 (by decide))).trans ha17_8
  have hC18_9 : C18 (N + 9) = .inl (G.2.2.1, 48, .inl (fun _ => 0)) := (pC18 _ (lt_zn N 9 20 (by decide)) (nz_zn N 9 19 (by decide))).trans hC17_9
  have ha18_9 : ad18 (N + 9) = q5_3 := (pa18 _ (lt_zn N 9 20 (by decide))).trans ha17_9
  have hC18_10 : C18 (N + 10) = .inl (G.2.2.1, 48, .inl (fun _ => 0)) := (pC18 _ (lt_zn N 10 20 (by decide)) (nz_zn N 10 19 (by decide))).trans hC17_10
  have ha18_10 : ad18 (N + 10) = q5_4 := (pa18 _ (lt_zn N 10 20 (by decide))).trans ha17_10
  have hC18_11 : C18 (N + 11) = .inr (6, [.int (nI 0), .ref q8_0, .ref q8_1, .ref q8_2, .ref q8_3]) := (pC18 _ (lt_zn N 11 20 (by decide)) (nz_zn N 11 19 (by decide))).trans hC17_11
  have ha18_11 : ad18 (N + 11) = q7 := (pa18 _ (lt_zn N 11 20 (by decide))).trans ha17_11
  have hC18_12 : C18 (N + 12) = .inl (G.2.2.1, 20, .inl (fun _ => 0)) := (pC18 _ (lt_zn N 12 20 (by decide)) (nz_zn N 12 19 (by decide))).trans hC17_12
  have ha18_12 : ad18 (N + 12) = q8_0 := (pa18 _ (lt_zn N 12 20 (by decide))).trans ha17_12
  have hC18_13 : C18 (N + 13) = .inl (G.2.2.1, 20, .inl (fun _ => 0)) := (pC18 _ (lt_zn N 13 20 (by decide)) (nz_zn N 13 19 (by decide))).trans hC17_13
  have ha18_13 : ad18 (N + 13) = q8_1 := (pa18 _ (lt_zn N 13 20 (by decide))).trans ha17_13
  have hC18_14 : C18 (N + 14) = .inl (G.2.2.1, 20, .inl (fun _ => 0)) := (pC18 _ (lt_zn N 14 20 (by decide)) (nz_zn N 14 19 (by decide))).trans hC17_14
  have ha18_14 : ad18 (N + 14) = q8_2 := (pa18 _ (lt_zn N 14 20 (by decide))).trans ha17_14
  have hC18_15 : C18 (N + 15) = .inl (G.2.2.1, 20, .inl (fun _ => 0)) := (pC18 _ (lt_zn N 15 20 (by decide)) (nz_zn N 15 19 (by decide))).trans hC17_15
  have ha18_15 : ad18 (N + 15) = q8_3 := (pa18 _ (lt_zn N 15 20 (by decide))).trans ha17_15
  have hC18_16 : C18 (N + 16) = .inr (3, [.int (nI 0), .int (nI 0), .int (nI 0), .int (nI 0), .int (nI 0)]) := (pC18 _ (lt_zn N 16 20 (by decide)) (nz_zn N 16 19 (by decide))).trans hC17_16
  have ha18_16 : ad18 (N + 16) = q10 := (pa18 _ (lt_zn N 16 20 (by decide))).trans ha17_16
  have hC18_17 : C18 (N + 17) = .inl (G.2.2.1, 200, .inl (fun _ => 0)) := (pC18 _ (lt_zn N 17 20 (by decide)) (nz_zn N 17 19 (by decide))).trans hC17_17
  have ha18_17 : ad18 (N + 17) = q13 := (pa18 _ (lt_zn N 17 20 (by decide))).trans ha17_17
  have hC18_18 : C18 (N + 18) = .inl (G.2.2.1, 200, .inl (fun _ => 0)) := (pC18 _ (lt_zn N 18 20 (by decide)) (nz_zn N 18 19 (by decide))).trans hC17_18
  have ha18_18 : ad18 (N + 18) = q15 := (pa18 _ (lt_zn N 18 20 (by decide))).trans ha17_18
  have ha18_19 : ad18 (N + 19) = q17 := (pa18 _ (lt_zn N 19 20 (by decide))).trans ha17_19
  have hC18_19 : C18 (N + 19) = .inr (1, [.int (nI 0), .int (nI 0), .int (nI 1), .ref q18_0, .ref q18_5, .ref q18_10, .ref q18_11]) := by rw [← ha18_20, ← ha18_25, ← ha18_30, ← ha18_31]; exact ph18
  have hC18_20 : C18 (N + 20) = .inr (2, [.int (nI 0), .ref q18_1, .ref q18_2, .ref q18_3, .ref q18_4]) := by rw [← ha18_21, ← ha18_22, ← ha18_23, ← ha18_24]; exact pn18_0
  have hC18_21 : C18 (N + 21) = .inl (G.2.2.1, 120, .inl (fun _ => 0)) := by exact pn18_1
  have hC18_22 : C18 (N + 22) = .inl (G.2.2.1, 120, .inl (fun _ => 0)) := by exact pn18_2
  have hC18_23 : C18 (N + 23) = .inl (G.2.2.1, 120, .inl (fun _ => 0)) := by exact pn18_3
  have hC18_24 : C18 (N + 24) = .inl (G.2.2.1, 120, .inl (fun _ => 0)) := by exact pn18_4
  have hC18_25 : C18 (N + 25) = .inr (4, [.ref q18_6, .ref q18_7, .ref q18_8, .ref q18_9]) := by rw [← ha18_26, ← ha18_27, ← ha18_28, ← ha18_29]; exact pn18_5
  have hC18_26 : C18 (N + 26) = .inl (G.2.2.1, 48, .inl (fun _ => 0)) := by exact pn18_6
  have hC18_27 : C18 (N + 27) = .inl (G.2.2.1, 48, .inl (fun _ => 0)) := by exact pn18_7
  have hC18_28 : C18 (N + 28) = .inl (G.2.2.1, 48, .inl (fun _ => 0)) := by exact pn18_8
  have hC18_29 : C18 (N + 29) = .inl (G.2.2.1, 6, .inl (fun _ => 0)) := by exact pn18_9
  have hC18_30 : C18 (N + 30) = .inl (G.2.2.1, 200, .inl (fun _ => 0)) := by exact pn18_10
  have hC18_31 : C18 (N + 31) = .inl (G.2.2.1, 20, .inl (fun _ => 0)) := by exact pn18_11
  have hfC18 : ∀ i, i < N → i ≠ h → C18 i = C i := fun i hi hne => (pC18 i (lt_zh hi 20) (nz_zh hi 19)).trans (hfC17 i hi hne)
  have hfa18 : ∀ i, i < N → ad18 i = ad i := fun i hi => (pa18 i (lt_zh hi 20)).trans (hfa17 i hi)
  clear hfC17 hfa17 hC17_h hC17_0 hC17_1 hC17_2 hC17_3 hC17_4 hC17_5 hC17_6 hC17_7 hC17_8 hC17_9 hC17_10 hC17_11 hC17_12 hC17_13 hC17_14 hC17_15 hC17_16 hC17_17 hC17_18 hC17_19 ha17_h ha17_0 ha17_1 ha17_2 ha17_3 ha17_4 ha17_5 ha17_6 ha17_7 ha17_8 ha17_9 ha17_10 ha17_11 ha17_12 ha17_13 ha17_14 ha17_15 ha17_16 ha17_17 ha17_18 ha17_19 hM18 pa18 pC18 ph18 pn18_0 pn18_1 pn18_2 pn18_3 pn18_4 pn18_5 pn18_6 pn18_7 pn18_8 pn18_9 pn18_10 pn18_11 hw17
  refine x_putF (fs' := [.ref q1, .ref q4, .ref q7, .ref q10, .ref q13, .ref q15, .ref q17, .null, .int 0]) S hw18 h ha18_h (lt_zh hh 32) hC18_h rfl in_X7 tyX7_ok nmX7 6 (by decide) wf_X7_47 rfl hini rfl rfl rfl (by show 6 < 9; decide) rfl dX7_init_74 (fun C19 H19 locs19 eC19 hw19 => ?_)
  have hC19_h : C19 h = .inr (7, [.ref q1, .ref q4, .ref q7, .ref q10, .ref q13, .ref q15, .ref q17, .null, .int 0]) := by rw [eC19]; exact va_up_self _ _ _
  have hC19_0 : C19 N = .inr (5, [.ref q2_0, .ref q2_1, .ref q2_2, .ref q2_3]) := by rw [eC19, va_up_ne _ _ (Nat.ne_of_lt hh).symm]; exact hC18_0
  have hC19_1 : C19 (N + 1) = .inl (G.2.2.2.1, 64, .inl (fun j => if j < 64 then nI 1 else 0)) := by rw [eC19, va_up_ne _ _ (nz_zh hh 1).symm]; exact hC18_1
  have hC19_2 : C19 (N + 2) = .inl (G.2.2.1, 64, .inl (fun _ => 0)) := by rw [eC19, va_up_ne _ _ (nz_zh hh 2).symm]; exact hC18_2
  have hC19_3 : C19 (N + 3) = .inl (G.2.2.1, 8, .inl (fun _ => 0)) := by rw [eC19, va_up_ne _ _ (nz_zh hh 3).symm]; exact hC18_3
  have hC19_4 : C19 (N + 4) = .inl (G.2.2.1, 24, .inl (fun j => if j < 24 then nI 1 else 0)) := by rw [eC19, va_up_ne _ _ (nz_zh hh 4).symm]; exact hC18_4
  have hC19_5 : C19 (N + 5) = .inr (0, [.int (nI 0), .ref q5_0, .ref q5_1, .ref q5_2, .ref q5_3, .ref q5_4]) := by rw [eC19, va_up_ne _ _ (nz_zh hh 5).symm]; exact hC18_5
  have hC19_6 : C19 (N + 6) = .inl (G.2.2.1, 6, .inl (fun _ => 0)) := by rw [eC19, va_up_ne _ _ (nz_zh hh 6).symm]; exact hC18_6
  have hC19_7 : C19 (N + 7) = .inl (G.2.2.1, 6, .inl (fun _ => 0)) := by rw [eC19, va_up_ne _ _ (nz_zh hh 7).symm]; exact hC18_7
  have hC19_8 : C19 (N + 8) = .inl (G.2.2.2.1, 48, .inl (fun _ => 0)) := by rw [eC19, va_up_ne _ _ (nz_zh hh 8).symm]; exact hC18_8
  have hC19_9 : C19 (N + 9) = .inl (G.2.2.1, 48, .inl (fun _ => 0)) := by rw [eC19, va_up_ne _ _ (nz_zh hh 9).symm]; exact hC18_9
  have hC19_10 : C19 (N + 10) = .inl (G.2.2.1, 48, .inl (fun _ => 0)) := by rw [eC19, va_up_ne _ _ (nz_zh hh 10).symm]; exact hC18_10
  have hC19_11 : C19 (N + 11) = .inr (6, [.int (nI 0), .ref q8_0, .ref q8_1, .ref q8_2, .ref q8_3]) := by rw [eC19, va_up_ne _ _ (nz_zh hh 11).symm]; exact hC18_11
  have hC19_12 : C19 (N + 12) = .inl (G.2.2.1, 20, .inl (fun _ => 0)) := by rw [eC19, va_up_ne _ _ (nz_zh hh 12).symm]; exact hC18_12
  have hC19_13 : C19 (N + 13) = .inl (G.2.2.1, 20, .inl (fun _ => 0)) := by rw [eC19, va_up_ne _ _ (nz_zh hh 13).symm]; exact hC18_13
  have hC19_14 : C19 (N + 14) = .inl (G.2.2.1, 20, .inl (fun _ => 0)) := by rw [eC19, va_up_ne _ _ (nz_zh hh 14).symm]; exact hC18_14
  have hC19_15 : C19 (N + 15) = .inl (G.2.2.1, 20, .inl (fun _ => 0)) := by rw [eC19, va_up_ne _ _ (nz_zh hh 15).symm]; exact hC18_15
  have hC19_16 : C19 (N + 16) = .inr (3, [.int (nI 0), .int (nI 0), .int (nI 0), .int (nI 0), .int (nI 0)]) := by rw [eC19, va_up_ne _ _ (nz_zh hh 16).symm]; exact hC18_16
  have hC19_17 : C19 (N + 17) = .inl (G.2.2.1, 200, .inl (fun _ => 0)) := by rw [eC19, va_up_ne _ _ (nz_zh hh 17).symm]; exact hC18_17
  have hC19_18 : C19 (N + 18) = .inl (G.2.2.1, 200, .inl (fun _ => 0)) := by rw [eC19, va_up_ne _ _ (nz_zh hh 18).symm]; exact hC18_18
  have hC19_19 : C19 (N + 19) = .inr (1, [.int (nI 0), .int (nI 0), .int (nI 1), .ref q18_0, .ref q18_5, .ref q18_10, .ref q18_11]) := by rw [eC19, va_up_ne _ _ (nz_zh hh 19).symm]; exact hC18_19
  have hC19_20 : C19 (N + 20) = .inr (2, [.int (nI 0), .ref q18_1, .ref q18_2, .ref q18_3, .ref q18_4]) := by rw [eC19, va_up_ne _ _ (nz_zh hh 20).symm]; exact hC18_20
  have hC19_21 : C19 (N + 21) = .inl (G.2.2.1, 120, .inl (fun _ => 0)) := by rw [eC19, va_up_ne _ _ (nz_zh hh 21).symm]; exact hC18_21
  have hC19_22 : C19 (N + 22) = .inl (G.2.2.1, 120, .inl (fun _ => 0)) := by rw [eC19, va_up_ne _ _ (nz_zh hh 22).symm]; exact hC18_22
  have hC19_23 : C19 (N + 23) = .inl (G.2.2.1, 120, .inl (fun _ => 0)) := by rw [eC19, va_up_ne _ _ (nz_zh hh 23).symm]; exact hC18_23
  have hC19_24 : C19 (N + 24) = .inl (G.2.2.1, 120, .inl (fun _ => 0)) := by rw [eC19, va_up_ne _ _ (nz_zh hh 24).symm]; exact hC18_24
  have hC19_25 : C19 (N + 25) = .inr (4, [.ref q18_6, .ref q18_7, .ref q18_8, .ref q18_9]) := by rw [eC19, va_up_ne _ _ (nz_zh hh 25).symm]; exact hC18_25
  have hC19_26 : C19 (N + 26) = .inl (G.2.2.1, 48, .inl (fun _ => 0)) := by rw [eC19, va_up_ne _ _ (nz_zh hh 26).symm]; exact hC18_26
  have hC19_27 : C19 (N + 27) = .inl (G.2.2.1, 48, .inl (fun _ => 0)) := by rw [eC19, va_up_ne _ _ (nz_zh hh 27).symm]; exact hC18_27
  have hC19_28 : C19 (N + 28) = .inl (G.2.2.1, 48, .inl (fun _ => 0)) := by rw [eC19, va_up_ne _ _ (nz_zh hh 28).symm]; exact hC18_28
  have hC19_29 : C19 (N + 29) = .inl (G.2.2.1, 6, .inl (fun _ => 0)) := by rw [eC19, va_up_ne _ _ (nz_zh hh 29).symm]; exact hC18_29
  have hC19_30 : C19 (N + 30) = .inl (G.2.2.1, 200, .inl (fun _ => 0)) := by rw [eC19, va_up_ne _ _ (nz_zh hh 30).symm]; exact hC18_30
  have hC19_31 : C19 (N + 31) = .inl (G.2.2.1, 20, .inl (fun _ => 0)) := by rw [eC19, va_up_ne _ _ (nz_zh hh 31).symm]; exact hC18_31
  have hfC19 : ∀ i, i < N → i ≠ h → C19 i = C i := fun i hi hne => by rw [eC19, va_up_ne _ _ hne]; exact hfC18 i hi hne
  clear eC19 hfC18 hC18_h hC18_0 hC18_1 hC18_2 hC18_3 hC18_4 hC18_5 hC18_6 hC18_7 hC18_8 hC18_9 hC18_10 hC18_11 hC18_12 hC18_13 hC18_14 hC18_15 hC18_16 hC18_17 hC18_18 hC18_19 hC18_20 hC18_21 hC18_22 hC18_23 hC18_24 hC18_25 hC18_26 hC18_27 hC18_28 hC18_29 hC18_30 hC18_31 hw18
  refine lv_aload_n S.1 S.2.1 dX7_init_77 rfl (lv_at hl 0 rfl) ?_
  refine lv_sipush (v := nI 200) S.1 S.2.1 dX7_init_78 (by decide) ?_
  refine x_newM (N' := 200) S hw19 wk_X7_44 (by decide) (by decide) (by decide) (by decide) (by decide) dX7_init_81 (fun q20 ad20 C20 H20 ead20 eC20 hw20 => ?_)
  have hC20_h : C20 h = .inr (7, [.ref q1, .ref q4, .ref q7, .ref q10, .ref q13, .ref q15, .ref q17, .null, .int 0]) := by rw [eC20, va_up_ne _ _ (nz_zh hh 32)]; exact hC19_h
  have hC20_0 : C20 N = .inr (5, [.ref q2_0, .ref q2_1, .ref q2_2, .ref q2_3]) := by rw [eC20, va_up_ne _ _ (nz_z0 N 32 (by decide))]; exact hC19_0
  have hC20_1 : C20 (N + 1) = .inl (G.2.2.2.1, 64, .inl (fun j => if j < 64 then nI 1 else 0)) := by rw [eC20, va_up_ne _ _ (nz_zn N 1 32 (by decide))]; exact hC19_1
  have hC20_2 : C20 (N + 2) = .inl (G.2.2.1, 64, .inl (fun _ => 0)) := by rw [eC20, va_up_ne _ _ (nz_zn N 2 32 (by decide))]; exact hC19_2
  have hC20_3 : C20 (N + 3) = .inl (G.2.2.1, 8, .inl (fun _ => 0)) := by rw [eC20, va_up_ne _ _ (nz_zn N 3 32 (by decide))]; exact hC19_3
  have hC20_4 : C20 (N + 4) = .inl (G.2.2.1, 24, .inl (fun j => if j < 24 then nI 1 else 0)) := by rw [eC20, va_up_ne _ _ (nz_zn N 4 32 (by decide))]; exact hC19_4
  have hC20_5 : C20 (N + 5) = .inr (0, [.int (nI 0), .ref q5_0, .ref q5_1, .ref q5_2, .ref q5_3, .ref q5_4]) := by rw [eC20, va_up_ne _ _ (nz_zn N 5 32 (by decide))]; exact hC19_5
  have hC20_6 : C20 (N + 6) = .inl (G.2.2.1, 6, .inl (fun _ => 0)) := by rw [eC20, va_up_ne _ _ (nz_zn N 6 32 (by decide))]; exact hC19_6
  have hC20_7 : C20 (N + 7) = .inl (G.2.2.1, 6, .inl (fun _ => 0)) := by rw [eC20, va_up_ne _ _ (nz_zn N 7 32 (by decide))]; exact hC19_7
  have hC20_8 : C20 (N + 8) = .inl (G.2.2.2.1, 48, .inl (fun _ => 0)) := by rw [eC20, va_up_ne _ _ (nz_zn N 8 32 (by decide))]; exact hC19_8
  have hC20_9 : C20 (N + 9) = .inl (G.2.2.1, 48, .inl (fun _ => 0)) := by rw [eC20, va_up_ne _ _ (nz_zn N 9 32 (by decide))]; exact hC19_9
  have hC20_10 : C20 (N + 10) = .inl (G.2.2.1, 48, .inl (fun _ => 0)) := by rw [eC20, va_up_ne _ _ (nz_zn N 10 32 (by decide))]; exact hC19_10
  have hC20_11 : C20 (N + 11) = .inr (6, [.int (nI 0), .ref q8_0, .ref q8_1, .ref q8_2, .ref q8_3]) := by rw [eC20, va_up_ne _ _ (nz_zn N 11 32 (by decide))]; exact hC19_11
  have hC20_12 : C20 (N + 12) = .inl (G.2.2.1, 20, .inl (fun _ => 0)) := by rw [eC20, va_up_ne _ _ (nz_zn N 12 32 (by decide))]; exact hC19_12
  have hC20_13 : C20 (N + 13) = .inl (G.2.2.1, 20, .inl (fun _ => 0)) := by rw [eC20, va_up_ne _ _ (nz_zn N 13 32 (by decide))]; exact hC19_13
  have hC20_14 : C20 (N + 14) = .inl (G.2.2.1, 20, .inl (fun _ => 0)) := by rw [eC20, va_up_ne _ _ (nz_zn N 14 32 (by decide))]; exact hC19_14
  have hC20_15 : C20 (N + 15) = .inl (G.2.2.1, 20, .inl (fun _ => 0)) := by rw [eC20, va_up_ne _ _ (nz_zn N 15 32 (by decide))]; exact hC19_15
  have hC20_16 : C20 (N + 16) = .inr (3, [.int (nI 0), .int (nI 0), .int (nI 0), .int (nI 0), .int (nI 0)]) := by rw [eC20, va_up_ne _ _ (nz_zn N 16 32 (by decide))]; exact hC19_16
  have hC20_17 : C20 (N + 17) = .inl (G.2.2.1, 200, .inl (fun _ => 0)) := by rw [eC20, va_up_ne _ _ (nz_zn N 17 32 (by decide))]; exact hC19_17
  have hC20_18 : C20 (N + 18) = .inl (G.2.2.1, 200, .inl (fun _ => 0)) := by rw [eC20, va_up_ne _ _ (nz_zn N 18 32 (by decide))]; exact hC19_18
  have hC20_19 : C20 (N + 19) = .inr (1, [.int (nI 0), .int (nI 0), .int (nI 1), .ref q18_0, .ref q18_5, .ref q18_10, .ref q18_11]) := by rw [eC20, va_up_ne _ _ (nz_zn N 19 32 (by decide))]; exact hC19_19
  have hC20_20 : C20 (N + 20) = .inr (2, [.int (nI 0), .ref q18_1, .ref q18_2, .ref q18_3, .ref q18_4]) := by rw [eC20, va_up_ne _ _ (nz_zn N 20 32 (by decide))]; exact hC19_20
  have hC20_21 : C20 (N + 21) = .inl (G.2.2.1, 120, .inl (fun _ => 0)) := by rw [eC20, va_up_ne _ _ (nz_zn N 21 32 (by decide))]; exact hC19_21
  have hC20_22 : C20 (N + 22) = .inl (G.2.2.1, 120, .inl (fun _ => 0)) := by rw [eC20, va_up_ne _ _ (nz_zn N 22 32 (by decide))]; exact hC19_22
  have hC20_23 : C20 (N + 23) = .inl (G.2.2.1, 120, .inl (fun _ => 0)) := by rw [eC20, va_up_ne _ _ (nz_zn N 23 32 (by decide))]; exact hC19_23
  have hC20_24 : C20 (N + 24) = .inl (G.2.2.1, 120, .inl (fun _ => 0)) := by rw [eC20, va_up_ne _ _ (nz_zn N 24 32 (by decide))]; exact hC19_24
  have hC20_25 : C20 (N + 25) = .inr (4, [.ref q18_6, .ref q18_7, .ref q18_8, .ref q18_9]) := by rw [eC20, va_up_ne _ _ (nz_zn N 25 32 (by decide))]; exact hC19_25
  have hC20_26 : C20 (N + 26) = .inl (G.2.2.1, 48, .inl (fun _ => 0)) := by rw [eC20, va_up_ne _ _ (nz_zn N 26 32 (by decide))]; exact hC19_26
  have hC20_27 : C20 (N + 27) = .inl (G.2.2.1, 48, .inl (fun _ => 0)) := by rw [eC20, va_up_ne _ _ (nz_zn N 27 32 (by decide))]; exact hC19_27
  have hC20_28 : C20 (N + 28) = .inl (G.2.2.1, 48, .inl (fun _ => 0)) := by rw [eC20, va_up_ne _ _ (nz_zn N 28 32 (by decide))]; exact hC19_28
  have hC20_29 : C20 (N + 29) = .inl (G.2.2.1, 6, .inl (fun _ => 0)) := by rw [eC20, va_up_ne _ _ (nz_zn N 29 32 (by decide))]; exact hC19_29
  have hC20_30 : C20 (N + 30) = .inl (G.2.2.1, 200, .inl (fun _ => 0)) := by rw [eC20, va_up_ne _ _ (nz_zn N 30 32 (by decide))]; exact hC19_30
  have hC20_31 : C20 (N + 31) = .inl (G.2.2.1, 20, .inl (fun _ => 0)) := by rw [eC20, va_up_ne _ _ (nz_zn N 31 32 (by decide))]; exact hC19_31
  have hC20_32 : C20 (N + 32) = .inl (G.2.2.2.2, 200, .inr (.inr (.inr (.inr (fun _ => none))))) := by rw [eC20]; exact va_up_self _ _ _
  have hfC20 : ∀ i, i < N → i ≠ h → C20 i = C i := fun i hi hne => by rw [eC20, va_up_ne _ _ (nz_zh hi 32)]; exact hfC19 i hi hne
  have ha20_h : ad20 h = (ad h) := by rw [ead20, va_up_ne _ _ (nz_zh hh 32)]; exact ha18_h
  have ha20_0 : ad20 N = q1 := by rw [ead20, va_up_ne _ _ (nz_z0 N 32 (by decide))]; exact ha18_0
  have ha20_1 : ad20 (N + 1) = q2_0 := by rw [ead20, va_up_ne _ _ (nz_zn N 1 32 (by decide))]; exact ha18_1
  have ha20_2 : ad20 (N + 2) = q2_1 := by rw [ead20, va_up_ne _ _ (nz_zn N 2 32 (by decide))]; exact ha18_2
  have ha20_3 : ad20 (N + 3) = q2_2 := by rw [ead20, va_up_ne _ _ (nz_zn N 3 32 (by decide))]; exact ha18_3
  have ha20_4 : ad20 (N + 4) = q2_3 := by rw [ead20, va_up_ne _ _ (nz_zn N 4 32 (by decide))]; exact ha18_4
  have ha20_5 : ad20 (N + 5) = q4 := by rw [ead20, va_up_ne _ _ (nz_zn N 5 32 (by decide))]; exact ha18_5
  have ha20_6 : ad20 (N + 6) = q5_0 := by rw [ead20, va_up_ne _ _ (nz_zn N 6 32 (by decide))]; exact ha18_6
  have ha20_7 : ad20 (N + 7) = q5_1 := by rw [ead20, va_up_ne _ _ (nz_zn N 7 32 (by decide))]; exact ha18_7
  have ha20_8 : ad20 (N + 8) = q5_2 := by rw [ead20, va_up_ne _ _ (nz_zn N 8 32 (by decide))]; exact ha18_8
  have ha20_9 : ad20 (N + 9) = q5_3 := by rw [ead20, va_up_ne _ _ (nz_zn N 9 32 (by decide))]; exact ha18_9
  have ha20_10 : ad20 (N + 10) = q5_4 := by rw [ead20, va_up_ne _ _ (nz_zn N 10 32 (by decide))]; exact ha18_10
  have ha20_11 : ad20 (N + 11) = q7 := by rw [ead20, va_up_ne _ _ (nz_zn N 11 32 (by decide))]; exact ha18_11
  have ha20_12 : ad20 (N + 12) = q8_0 := by rw [ead20, va_up_ne _ _ (nz_zn N 12 32 (by decide))]; exact ha18_12
  have ha20_13 : ad20 (N + 13) = q8_1 := by rw [ead20, va_up_ne _ _ (nz_zn N 13 32 (by decide))]; exact ha18_13
  have ha20_14 : ad20 (N + 14) = q8_2 := by rw [ead20, va_up_ne _ _ (nz_zn N 14 32 (by decide))]; exact ha18_14
  have ha20_15 : ad20 (N + 15) = q8_3 := by rw [ead20, va_up_ne _ _ (nz_zn N 15 32 (by decide))]; exact ha18_15
  have ha20_16 : ad20 (N + 16) = q10 := by rw [ead20, va_up_ne _ _ (nz_zn N 16 32 (by decide))]; exact ha18_16
  have ha20_17 : ad20 (N + 17) = q13 := by rw [ead20, va_up_ne _ _ (nz_zn N 17 32 (by decide))]; exact ha18_17
  have ha20_18 : ad20 (N + 18) = q15 := by rw [ead20, va_up_ne _ _ (nz_zn N 18 32 (by decide))]; exact ha18_18
  have ha20_19 : ad20 (N + 19) = q17 := by rw [ead20, va_up_ne _ _ (nz_zn N 19 32 (by decide))]; exact ha18_19
  have ha20_20 : ad20 (N + 20) = q18_0 := by rw [ead20, va_up_ne _ _ (nz_zn N 20 32 (by decide))]; exact ha18_20
  have ha20_21 : ad20 (N + 21) = q18_1 := by rw [ead20, va_up_ne _ _ (nz_zn N 21 32 (by decide))]; exact ha18_21
  have ha20_22 : ad20 (N + 22) = q18_2 := by rw [ead20, va_up_ne _ _ (nz_zn N 22 32 (by decide))]; exact ha18_22
  have ha20_23 : ad20 (N + 23) = q18_3 := by rw [ead20, va_up_ne _ _ (nz_zn N 23 32 (by decide))]; exact ha18_23
  have ha20_24 : ad20 (N + 24) = q18_4 := by rw [ead20, va_up_ne _ _ (nz_zn N 24 32 (by decide))]; exact ha18_24
  have ha20_25 : ad20 (N + 25) = q18_5 := by rw [ead20, va_up_ne _ _ (nz_zn N 25 32 (by decide))]; exact ha18_25
  have ha20_26 : ad20 (N + 26) = q18_6 := by rw [ead20, va_up_ne _ _ (nz_zn N 26 32 (by decide))]; exact ha18_26
  have ha20_27 : ad20 (N + 27) = q18_7 := by rw [ead20, va_up_ne _ _ (nz_zn N 27 32 (by decide))]; exact ha18_27
  have ha20_28 : ad20 (N + 28) = q18_8 := by rw [ead20, va_up_ne _ _ (nz_zn N 28 32 (by decide))]; exact ha18_28
  have ha20_29 : ad20 (N + 29) = q18_9 := by rw [ead20, va_up_ne _ _ (nz_zn N 29 32 (by decide))]; exact ha18_29
  have ha20_30 : ad20 (N + 30) = q18_10 := by rw [ead20, va_up_ne _ _ (nz_zn N 30 32 (by decide))]; exact ha18_30
  have ha20_31 : ad20 (N + 31) = q18_11 := by rw [ead20, va_up_ne _ _ (nz_zn N 31 32 (by decide))]; exact ha18_31
  have ha20_32 : ad20 (N + 32) = q20 := by rw [ead20]; exact va_up_self _ _ _
  have hfa20 : ∀ i, i < N → ad20 i = ad i := fun i hi => by rw [ead20, va_up_ne _ _ (nz_zh hi 32)]; exact hfa18 i hi
  clear eC20 hfC19 hC19_h hC19_0 hC19_1 hC19_2 hC19_3 hC19_4 hC19_5 hC19_6 hC19_7 hC19_8 hC19_9 hC19_10 hC19_11 hC19_12 hC19_13 hC19_14 hC19_15 hC19_16 hC19_17 hC19_18 hC19_19 hC19_20 hC19_21 hC19_22 hC19_23 hC19_24 hC19_25 hC19_26 hC19_27 hC19_28 hC19_29 hC19_30 hC19_31 ead20 hfa18 ha18_h ha18_0 ha18_1 ha18_2 ha18_3 ha18_4 ha18_5 ha18_6 ha18_7 ha18_8 ha18_9 ha18_10 ha18_11 ha18_12 ha18_13 ha18_14 ha18_15 ha18_16 ha18_17 ha18_18 ha18_19 ha18_20 ha18_21 ha18_22 ha18_23 ha18_24 ha18_25 ha18_26 ha18_27 ha18_28 ha18_29 ha18_30 ha18_31 hw19
  refine x_putF (fs' := [.ref q1, .ref q4, .ref q7, .ref q10, .ref q13, .ref q15, .ref q17, .ref q20, .int 0]) S hw20 h ha20_h (lt_zh hh 33) hC20_h rfl in_X7 tyX7_ok nmX7 7 (by decide) wf_X7_51 rfl hini rfl rfl rfl (by show 7 < 9; decide) rfl dX7_init_84 (fun C21 H21 locs21 eC21 hw21 => ?_)
  have hC21_h : C21 h = .inr (7, [.ref q1, .ref q4, .ref q7, .ref q10, .ref q13, .ref q15, .ref q17, .ref q20, .int 0]) := by rw [eC21]; exact va_up_self _ _ _
  have hC21_0 : C21 N = .inr (5, [.ref q2_0, .ref q2_1, .ref q2_2, .ref q2_3]) := by rw [eC21, va_up_ne _ _ (Nat.ne_of_lt hh).symm]; exact hC20_0
  have hC21_1 : C21 (N + 1) = .inl (G.2.2.2.1, 64, .inl (fun j => if j < 64 then nI 1 else 0)) := by rw [eC21, va_up_ne _ _ (nz_zh hh 1).symm]; exact hC20_1
  have hC21_2 : C21 (N + 2) = .inl (G.2.2.1, 64, .inl (fun _ => 0)) := by rw [eC21, va_up_ne _ _ (nz_zh hh 2).symm]; exact hC20_2
  have hC21_3 : C21 (N + 3) = .inl (G.2.2.1, 8, .inl (fun _ => 0)) := by rw [eC21, va_up_ne _ _ (nz_zh hh 3).symm]; exact hC20_3
  have hC21_4 : C21 (N + 4) = .inl (G.2.2.1, 24, .inl (fun j => if j < 24 then nI 1 else 0)) := by rw [eC21, va_up_ne _ _ (nz_zh hh 4).symm]; exact hC20_4
  have hC21_5 : C21 (N + 5) = .inr (0, [.int (nI 0), .ref q5_0, .ref q5_1, .ref q5_2, .ref q5_3, .ref q5_4]) := by rw [eC21, va_up_ne _ _ (nz_zh hh 5).symm]; exact hC20_5
  have hC21_6 : C21 (N + 6) = .inl (G.2.2.1, 6, .inl (fun _ => 0)) := by rw [eC21, va_up_ne _ _ (nz_zh hh 6).symm]; exact hC20_6
  have hC21_7 : C21 (N + 7) = .inl (G.2.2.1, 6, .inl (fun _ => 0)) := by rw [eC21, va_up_ne _ _ (nz_zh hh 7).symm]; exact hC20_7
  have hC21_8 : C21 (N + 8) = .inl (G.2.2.2.1, 48, .inl (fun _ => 0)) := by rw [eC21, va_up_ne _ _ (nz_zh hh 8).symm]; exact hC20_8
  have hC21_9 : C21 (N + 9) = .inl (G.2.2.1, 48, .inl (fun _ => 0)) := by rw [eC21, va_up_ne _ _ (nz_zh hh 9).symm]; exact hC20_9
  have hC21_10 : C21 (N + 10) = .inl (G.2.2.1, 48, .inl (fun _ => 0)) := by rw [eC21, va_up_ne _ _ (nz_zh hh 10).symm]; exact hC20_10
  have hC21_11 : C21 (N + 11) = .inr (6, [.int (nI 0), .ref q8_0, .ref q8_1, .ref q8_2, .ref q8_3]) := by rw [eC21, va_up_ne _ _ (nz_zh hh 11).symm]; exact hC20_11
  have hC21_12 : C21 (N + 12) = .inl (G.2.2.1, 20, .inl (fun _ => 0)) := by rw [eC21, va_up_ne _ _ (nz_zh hh 12).symm]; exact hC20_12
  have hC21_13 : C21 (N + 13) = .inl (G.2.2.1, 20, .inl (fun _ => 0)) := by rw [eC21, va_up_ne _ _ (nz_zh hh 13).symm]; exact hC20_13
  have hC21_14 : C21 (N + 14) = .inl (G.2.2.1, 20, .inl (fun _ => 0)) := by rw [eC21, va_up_ne _ _ (nz_zh hh 14).symm]; exact hC20_14
  have hC21_15 : C21 (N + 15) = .inl (G.2.2.1, 20, .inl (fun _ => 0)) := by rw [eC21, va_up_ne _ _ (nz_zh hh 15).symm]; exact hC20_15
  have hC21_16 : C21 (N + 16) = .inr (3, [.int (nI 0), .int (nI 0), .int (nI 0), .int (nI 0), .int (nI 0)]) := by rw [eC21, va_up_ne _ _ (nz_zh hh 16).symm]; exact hC20_16
  have hC21_17 : C21 (N + 17) = .inl (G.2.2.1, 200, .inl (fun _ => 0)) := by rw [eC21, va_up_ne _ _ (nz_zh hh 17).symm]; exact hC20_17
  have hC21_18 : C21 (N + 18) = .inl (G.2.2.1, 200, .inl (fun _ => 0)) := by rw [eC21, va_up_ne _ _ (nz_zh hh 18).symm]; exact hC20_18
  have hC21_19 : C21 (N + 19) = .inr (1, [.int (nI 0), .int (nI 0), .int (nI 1), .ref q18_0, .ref q18_5, .ref q18_10, .ref q18_11]) := by rw [eC21, va_up_ne _ _ (nz_zh hh 19).symm]; exact hC20_19
  have hC21_20 : C21 (N + 20) = .inr (2, [.int (nI 0), .ref q18_1, .ref q18_2, .ref q18_3, .ref q18_4]) := by rw [eC21, va_up_ne _ _ (nz_zh hh 20).symm]; exact hC20_20
  have hC21_21 : C21 (N + 21) = .inl (G.2.2.1, 120, .inl (fun _ => 0)) := by rw [eC21, va_up_ne _ _ (nz_zh hh 21).symm]; exact hC20_21
  have hC21_22 : C21 (N + 22) = .inl (G.2.2.1, 120, .inl (fun _ => 0)) := by rw [eC21, va_up_ne _ _ (nz_zh hh 22).symm]; exact hC20_22
  have hC21_23 : C21 (N + 23) = .inl (G.2.2.1, 120, .inl (fun _ => 0)) := by rw [eC21, va_up_ne _ _ (nz_zh hh 23).symm]; exact hC20_23
  have hC21_24 : C21 (N + 24) = .inl (G.2.2.1, 120, .inl (fun _ => 0)) := by rw [eC21, va_up_ne _ _ (nz_zh hh 24).symm]; exact hC20_24
  have hC21_25 : C21 (N + 25) = .inr (4, [.ref q18_6, .ref q18_7, .ref q18_8, .ref q18_9]) := by rw [eC21, va_up_ne _ _ (nz_zh hh 25).symm]; exact hC20_25
  have hC21_26 : C21 (N + 26) = .inl (G.2.2.1, 48, .inl (fun _ => 0)) := by rw [eC21, va_up_ne _ _ (nz_zh hh 26).symm]; exact hC20_26
  have hC21_27 : C21 (N + 27) = .inl (G.2.2.1, 48, .inl (fun _ => 0)) := by rw [eC21, va_up_ne _ _ (nz_zh hh 27).symm]; exact hC20_27
  have hC21_28 : C21 (N + 28) = .inl (G.2.2.1, 48, .inl (fun _ => 0)) := by rw [eC21, va_up_ne _ _ (nz_zh hh 28).symm]; exact hC20_28
  have hC21_29 : C21 (N + 29) = .inl (G.2.2.1, 6, .inl (fun _ => 0)) := by rw [eC21, va_up_ne _ _ (nz_zh hh 29).symm]; exact hC20_29
  have hC21_30 : C21 (N + 30) = .inl (G.2.2.1, 200, .inl (fun _ => 0)) := by rw [eC21, va_up_ne _ _ (nz_zh hh 30).symm]; exact hC20_30
  have hC21_31 : C21 (N + 31) = .inl (G.2.2.1, 20, .inl (fun _ => 0)) := by rw [eC21, va_up_ne _ _ (nz_zh hh 31).symm]; exact hC20_31
  have hC21_32 : C21 (N + 32) = .inl (G.2.2.2.2, 200, .inr (.inr (.inr (.inr (fun _ => none))))) := by rw [eC21, va_up_ne _ _ (nz_zh hh 32).symm]; exact hC20_32
  have hfC21 : ∀ i, i < N → i ≠ h → C21 i = C i := fun i hi hne => by rw [eC21, va_up_ne _ _ hne]; exact hfC20 i hi hne
  clear eC21 hfC20 hC20_h hC20_0 hC20_1 hC20_2 hC20_3 hC20_4 hC20_5 hC20_6 hC20_7 hC20_8 hC20_9 hC20_10 hC20_11 hC20_12 hC20_13 hC20_14 hC20_15 hC20_16 hC20_17 hC20_18 hC20_19 hC20_20 hC20_21 hC20_22 hC20_23 hC20_24 hC20_25 hC20_26 hC20_27 hC20_28 hC20_29 hC20_30 hC20_31 hC20_32 hw20
  refine lv_aload_n S.1 S.2.1 dX7_init_87 rfl (lv_at hl 0 rfl) ?_
  refine lv_iconst (v := nI 0) S.1 S.2.1 dX7_init_88 (by decide) ?_
  refine x_put (fs' := [.ref q1, .ref q4, .ref q7, .ref q10, .ref q13, .ref q15, .ref q17, .ref q20, .int (nI 0)]) S hw21 h ha20_h (lt_zh hh 33) hC21_h rfl in_X7 tyX7_ok nmX7 8 (by decide) wf_X7_55 rfl rfl rfl (by show 8 < 9; decide) rfl dX7_init_89 (fun C22 H22 locs22 eC22 hw22 => ?_)
  have hC22_h : C22 h = .inr (7, [.ref q1, .ref q4, .ref q7, .ref q10, .ref q13, .ref q15, .ref q17, .ref q20, .int (nI 0)]) := by rw [eC22]; exact va_up_self _ _ _
  have hC22_0 : C22 N = .inr (5, [.ref q2_0, .ref q2_1, .ref q2_2, .ref q2_3]) := by rw [eC22, va_up_ne _ _ (Nat.ne_of_lt hh).symm]; exact hC21_0
  have hC22_1 : C22 (N + 1) = .inl (G.2.2.2.1, 64, .inl (fun j => if j < 64 then nI 1 else 0)) := by rw [eC22, va_up_ne _ _ (nz_zh hh 1).symm]; exact hC21_1
  have hC22_2 : C22 (N + 2) = .inl (G.2.2.1, 64, .inl (fun _ => 0)) := by rw [eC22, va_up_ne _ _ (nz_zh hh 2).symm]; exact hC21_2
  have hC22_3 : C22 (N + 3) = .inl (G.2.2.1, 8, .inl (fun _ => 0)) := by rw [eC22, va_up_ne _ _ (nz_zh hh 3).symm]; exact hC21_3
  have hC22_4 : C22 (N + 4) = .inl (G.2.2.1, 24, .inl (fun j => if j < 24 then nI 1 else 0)) := by rw [eC22, va_up_ne _ _ (nz_zh hh 4).symm]; exact hC21_4
  have hC22_5 : C22 (N + 5) = .inr (0, [.int (nI 0), .ref q5_0, .ref q5_1, .ref q5_2, .ref q5_3, .ref q5_4]) := by rw [eC22, va_up_ne _ _ (nz_zh hh 5).symm]; exact hC21_5
  have hC22_6 : C22 (N + 6) = .inl (G.2.2.1, 6, .inl (fun _ => 0)) := by rw [eC22, va_up_ne _ _ (nz_zh hh 6).symm]; exact hC21_6
  have hC22_7 : C22 (N + 7) = .inl (G.2.2.1, 6, .inl (fun _ => 0)) := by rw [eC22, va_up_ne _ _ (nz_zh hh 7).symm]; exact hC21_7
  have hC22_8 : C22 (N + 8) = .inl (G.2.2.2.1, 48, .inl (fun _ => 0)) := by rw [eC22, va_up_ne _ _ (nz_zh hh 8).symm]; exact hC21_8
  have hC22_9 : C22 (N + 9) = .inl (G.2.2.1, 48, .inl (fun _ => 0)) := by rw [eC22, va_up_ne _ _ (nz_zh hh 9).symm]; exact hC21_9
  have hC22_10 : C22 (N + 10) = .inl (G.2.2.1, 48, .inl (fun _ => 0)) := by rw [eC22, va_up_ne _ _ (nz_zh hh 10).symm]; exact hC21_10
  have hC22_11 : C22 (N + 11) = .inr (6, [.int (nI 0), .ref q8_0, .ref q8_1, .ref q8_2, .ref q8_3]) := by rw [eC22, va_up_ne _ _ (nz_zh hh 11).symm]; exact hC21_11
  have hC22_12 : C22 (N + 12) = .inl (G.2.2.1, 20, .inl (fun _ => 0)) := by rw [eC22, va_up_ne _ _ (nz_zh hh 12).symm]; exact hC21_12
  have hC22_13 : C22 (N + 13) = .inl (G.2.2.1, 20, .inl (fun _ => 0)) := by rw [eC22, va_up_ne _ _ (nz_zh hh 13).symm]; exact hC21_13
  have hC22_14 : C22 (N + 14) = .inl (G.2.2.1, 20, .inl (fun _ => 0)) := by rw [eC22, va_up_ne _ _ (nz_zh hh 14).symm]; exact hC21_14
  have hC22_15 : C22 (N + 15) = .inl (G.2.2.1, 20, .inl (fun _ => 0)) := by rw [eC22, va_up_ne _ _ (nz_zh hh 15).symm]; exact hC21_15
  have hC22_16 : C22 (N + 16) = .inr (3, [.int (nI 0), .int (nI 0), .int (nI 0), .int (nI 0), .int (nI 0)]) := by rw [eC22, va_up_ne _ _ (nz_zh hh 16).symm]; exact hC21_16
  have hC22_17 : C22 (N + 17) = .inl (G.2.2.1, 200, .inl (fun _ => 0)) := by rw [eC22, va_up_ne _ _ (nz_zh hh 17).symm]; exact hC21_17
  have hC22_18 : C22 (N + 18) = .inl (G.2.2.1, 200, .inl (fun _ => 0)) := by rw [eC22, va_up_ne _ _ (nz_zh hh 18).symm]; exact hC21_18
  have hC22_19 : C22 (N + 19) = .inr (1, [.int (nI 0), .int (nI 0), .int (nI 1), .ref q18_0, .ref q18_5, .ref q18_10, .ref q18_11]) := by rw [eC22, va_up_ne _ _ (nz_zh hh 19).symm]; exact hC21_19
  have hC22_20 : C22 (N + 20) = .inr (2, [.int (nI 0), .ref q18_1, .ref q18_2, .ref q18_3, .ref q18_4]) := by rw [eC22, va_up_ne _ _ (nz_zh hh 20).symm]; exact hC21_20
  have hC22_21 : C22 (N + 21) = .inl (G.2.2.1, 120, .inl (fun _ => 0)) := by rw [eC22, va_up_ne _ _ (nz_zh hh 21).symm]; exact hC21_21
  have hC22_22 : C22 (N + 22) = .inl (G.2.2.1, 120, .inl (fun _ => 0)) := by rw [eC22, va_up_ne _ _ (nz_zh hh 22).symm]; exact hC21_22
  have hC22_23 : C22 (N + 23) = .inl (G.2.2.1, 120, .inl (fun _ => 0)) := by rw [eC22, va_up_ne _ _ (nz_zh hh 23).symm]; exact hC21_23
  have hC22_24 : C22 (N + 24) = .inl (G.2.2.1, 120, .inl (fun _ => 0)) := by rw [eC22, va_up_ne _ _ (nz_zh hh 24).symm]; exact hC21_24
  have hC22_25 : C22 (N + 25) = .inr (4, [.ref q18_6, .ref q18_7, .ref q18_8, .ref q18_9]) := by rw [eC22, va_up_ne _ _ (nz_zh hh 25).symm]; exact hC21_25
  have hC22_26 : C22 (N + 26) = .inl (G.2.2.1, 48, .inl (fun _ => 0)) := by rw [eC22, va_up_ne _ _ (nz_zh hh 26).symm]; exact hC21_26
  have hC22_27 : C22 (N + 27) = .inl (G.2.2.1, 48, .inl (fun _ => 0)) := by rw [eC22, va_up_ne _ _ (nz_zh hh 27).symm]; exact hC21_27
  have hC22_28 : C22 (N + 28) = .inl (G.2.2.1, 48, .inl (fun _ => 0)) := by rw [eC22, va_up_ne _ _ (nz_zh hh 28).symm]; exact hC21_28
  have hC22_29 : C22 (N + 29) = .inl (G.2.2.1, 6, .inl (fun _ => 0)) := by rw [eC22, va_up_ne _ _ (nz_zh hh 29).symm]; exact hC21_29
  have hC22_30 : C22 (N + 30) = .inl (G.2.2.1, 200, .inl (fun _ => 0)) := by rw [eC22, va_up_ne _ _ (nz_zh hh 30).symm]; exact hC21_30
  have hC22_31 : C22 (N + 31) = .inl (G.2.2.1, 20, .inl (fun _ => 0)) := by rw [eC22, va_up_ne _ _ (nz_zh hh 31).symm]; exact hC21_31
  have hC22_32 : C22 (N + 32) = .inl (G.2.2.2.2, 200, .inr (.inr (.inr (.inr (fun _ => none))))) := by rw [eC22, va_up_ne _ _ (nz_zh hh 32).symm]; exact hC21_32
  have hfC22 : ∀ i, i < N → i ≠ h → C22 i = C i := fun i hi hne => by rw [eC22, va_up_ne _ _ hne]; exact hfC21 i hi hne
  clear eC22 hfC21 hC21_h hC21_0 hC21_1 hC21_2 hC21_3 hC21_4 hC21_5 hC21_6 hC21_7 hC21_8 hC21_9 hC21_10 hC21_11 hC21_12 hC21_13 hC21_14 hC21_15 hC21_16 hC21_17 hC21_18 hC21_19 hC21_20 hC21_21 hC21_22 hC21_23 hC21_24 hC21_25 hC21_26 hC21_27 hC21_28 hC21_29 hC21_30 hC21_31 hC21_32 hw21
  have hw := hw22
  subst hN
  subst h0
  have hw : Wd G 34 0 ad20 mZ7 s _ _ := hw.to rfl (fun _ _ => rfl) (conv7 (by rw [show ad20 1 = q1 from ha20_0, show ad20 6 = q4 from ha20_5, show ad20 12 = q7 from ha20_11, show ad20 17 = q10 from ha20_16, show ad20 18 = q13 from ha20_17, show ad20 19 = q15 from ha20_18, show ad20 20 = q17 from ha20_19, show ad20 33 = q20 from ha20_32]; exact hC22_h) (by rw [show ad20 2 = q2_0 from ha20_1, show ad20 3 = q2_1 from ha20_2, show ad20 4 = q2_2 from ha20_3, show ad20 5 = q2_3 from ha20_4]; exact hC22_0) hC22_1 hC22_2 hC22_3 hC22_4 (by rw [show ad20 7 = q5_0 from ha20_6, show ad20 8 = q5_1 from ha20_7, show ad20 9 = q5_2 from ha20_8, show ad20 10 = q5_3 from ha20_9, show ad20 11 = q5_4 from ha20_10]; exact hC22_5) hC22_6 hC22_7 hC22_8 hC22_9 hC22_10 (by rw [show ad20 13 = q8_0 from ha20_12, show ad20 14 = q8_1 from ha20_13, show ad20 15 = q8_2 from ha20_14, show ad20 16 = q8_3 from ha20_15]; exact hC22_11) hC22_12 hC22_13 hC22_14 hC22_15 hC22_16 hC22_17 hC22_18 (by rw [show ad20 21 = q18_0 from ha20_20, show ad20 26 = q18_5 from ha20_25, show ad20 31 = q18_10 from ha20_30, show ad20 32 = q18_11 from ha20_31]; exact hC22_19) (by rw [show ad20 22 = q18_1 from ha20_21, show ad20 23 = q18_2 from ha20_22, show ad20 24 = q18_3 from ha20_23, show ad20 25 = q18_4 from ha20_24]; exact hC22_20) hC22_21 hC22_22 hC22_23 hC22_24 (by rw [show ad20 27 = q18_6 from ha20_26, show ad20 28 = q18_7 from ha20_27, show ad20 29 = q18_8 from ha20_28, show ad20 30 = q18_9 from ha20_29]; exact hC22_25) hC22_26 hC22_27 hC22_28 hC22_29 hC22_30 hC22_31 hC22_32)
  have hl : lv_has ls 1 [(0, .ref (ad20 0))] := by rw [show ad20 0 = ad 0 from ha20_h]; exact hl
  refine lv_aload_n S.1 S.2.1 dX7_init_92 rfl (lv_at hl 0 rfl) ?_
  refine m_getR 0 5 19 S hw (by decide) rfl rfl rfl in_X7 (by decide) wf_X7_41 dX7_init_93 ?_
  refine lv_iconst (v := nI 0) S.1 S.2.1 dX7_init_96 (by decide) ?_
  refine lv_iconst (v := (-1)) S.1 S.2.1 dX7_init_97 (by decide) ?_
  refine n_ast 19 0 S hw (by decide) rfl (by decide) (by decide) rfl dX7_init_98 (fun M1 H locs eM1 hw => ?_)
  refine lv_aload_n S.1 S.2.1 dX7_init_99 rfl (lv_at hl 0 rfl) ?_
  refine m_getR 0 6 20 S hw (by decide) rfl rfl rfl in_X7 (by decide) wf_X7_47 dX7_init_100 ?_
  refine lv_bipush (v := nI 20) S.1 S.2.1 dX7_init_103 (by decide) ?_
  refine m_VV (As := [.int (nI 20)]) (rest := []) 20 S hw (by decide) rfl rfl (c_X1_renew l G 34 0 ad20 M1 20 (isM20 (by decide)) 20 (by decide)) mf_X1_renew wm_X7_59 ⟨by decide, by decide⟩ ⟨by decide, by decide⟩ hl.1 rfl (Nat.le_of_ble_eq_true rfl) dX7_init_105 (fun M2 H locs hp hw => ?_)
  obtain ⟨p0, p1, p2, p21, p22, p23, p24, p25, p27, p28, p29, p30, p31, p32, pf⟩ := hp
  have z : ∀ k, k ≠ 19 → M1 k = mZ7 k := fun k hk => by rw [eM1, va_up_ne _ _ hk]
  have z19 : M1 19 0 = -1 := by rw [eM1, va_up_self, pk_us]
  refine g_retv S hr hlocks hw ⟨rfl, ha20_h, M2, fun _ _ => rfl, ⟨?_, ?_, ?_⟩, ?_, ?_, ?_, ?_, ?_, ?_, ?_, ⟨p0, p1, p2, ?_⟩, fun j hj => ⟨?_, ?_, ?_, ?_⟩, fun j hj => ?_, ?_⟩ dX7_init_108
  · rw [pf 0 (by decide), z 0 (by decide)]; rfl
  · rw [pf 6 (by decide), z 6 (by decide)]; rfl
  · rw [pf 12 (by decide), z 12 (by decide)]; rfl
  · intro j hj
    rw [pf 2 (by decide), z 2 (by decide)]
    exact if_pos hj
  · rw [pf 3 (by decide), z 3 (by decide)]; rfl
  · rw [pf 4 (by decide), z 4 (by decide)]; rfl
  · intro j hj
    rw [pf 5 (by decide), z 5 (by decide)]
    exact if_pos hj
  · rw [pf 9 (by decide), z 9 (by decide)]; rfl
  · rw [pf 18 (by decide), z 18 (by decide)]; rfl
  · rw [pf 19 (by decide)]; exact z19
  · rw [p21]; exact pk_us
  · rw [p22]; exact if_pos hj
  · rw [p23]; exact if_pos hj
  · rw [p24]; exact if_pos hj
  · rw [p25]; exact if_pos hj
  · rw [p30]; exact if_pos hj
  · rw [p31]; exact pk_us
