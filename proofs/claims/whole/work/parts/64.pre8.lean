/-! OilLineModel(): behind it all cells are a memory -/
def mZ8 (M : Mem) : Mem := fun i => if i < 34 then M i else if i = 34 then (fun j => if j = 1 then nI 20 else if j = 6 then nI 1 else 0) else fun _ => 0
theorem mZ8_lt {M : Mem} {i : Nat} (h : i < 34) : mZ8 M i = M i := by simp [mZ8, h]
theorem mZ8_gt {M : Mem} {i : Nat} (h : 34 < i) : mZ8 M i = fun _ => 0 := by
  unfold mZ8
  rw [if_neg (by omega), if_neg (by omega)]
theorem stab_34 : ∀ i, i < 34 → ∀ t, t ∈ (stab.getD i (0, 0, [])).2.2.filterMap id → t < 34 := by decide
theorem cell_34 {G : GT} {ad ad2 : Nat → Nat} {M M2 : Mem} {i : Nat} (hi : i < 34) (ha : ∀ t, t < 34 → ad t = ad2 t) (hM : M i = M2 i) : cellOf G 0 ad M i = cellOf G 0 ad2 M2 i := by
  have ht : ∀ t, some t ∈ (shp i).2.2 → t < 34 := fun t h => by
    unfold shp at h
    rw [if_pos (by omega)] at h
    exact stab_34 i hi t (mem_some h)
  unfold cellOf
  rw [hM, flds_ext (fun t h => ha t (ht t h)), no33, no33]
def Init8 (M : Mem) : Prop := (M 34 1 = nI 20 ∧ M 34 6 = nI 1 ∧ M 34 10 = nI 0 ∧ M 34 26 = nI 0 ∧ M 34 24 = nI 0 ∧ M 34 25 = nI 0 ∧ M 34 33 = nI 0) ∧ (∀ j, j < 120 → M 35 j = nI 0 ∧ M 36 j = nI 0 ∧ M 37 j = -1 ∧ M 38 j = nI 0) ∧ (M 39 0 = nI 0 ∧ M 40 0 = -1 ∧ M 41 0 = nI 0) ∧ (M 51 = fun _ => 0) ∧ (M 52 = fun _ => 0) ∧ (M 53 = fun _ => 0) ∧ (∀ j, j < 24 → M 54 j = nI 1)

theorem lt61c {i : Nat} (h1 : 34 ≤ i) (h : i < 61) : i = 34 ∨ i = 35 ∨ i = 36 ∨ i = 37 ∨ i = 38 ∨ i = 39 ∨ i = 40 ∨ i = 41 ∨ i = 42 ∨ i = 43 ∨ i = 44 ∨ i = 45 ∨ i = 46 ∨ i = 47 ∨ i = 48 ∨ i = 49 ∨ i = 50 ∨ i = 51 ∨ i = 52 ∨ i = 53 ∨ i = 54 ∨ i = 55 ∨ i = 56 ∨ i = 57 ∨ i = 58 ∨ i = 59 ∨ i = 60 := by omega

set_option maxHeartbeats 4000000 in
set_option maxRecDepth 100000 in
theorem conv8 {G : GT} {ad : Nat → Nat} {C : Nat → va_E} {M : Mem} (hM : ∀ i, i < 34 → C i = cellOf G 0 ad M i) (h34 : C 34 = .inr (8, [.int 0, .int (nI 20), .ref (ad 35), .ref (ad 36), .ref (ad 37), .ref (ad 38), .int (nI 1), .ref (ad 39), .ref (ad 40), .ref (ad 41), .int 0, .ref (ad 42), .ref (ad 43), .ref (ad 44), .ref (ad 45), .ref (ad 46), .ref (ad 47), .ref (ad 48), .ref (ad 49), .ref (ad 50), .ref (ad 51), .ref (ad 52), .ref (ad 53), .ref (ad 54), .int 0, .int 0, .int 0, .ref (ad 55), .ref (ad 56), .ref (ad 57), .ref (ad 58), .ref (ad 59), .ref (ad 60), .int 0, .int 0])) (h35 : C 35 = .inl (G.2.2.1, 120, .inl (fun _ => 0))) (h36 : C 36 = .inl (G.2.2.1, 120, .inl (fun _ => 0))) (h37 : C 37 = .inl (G.2.2.1, 120, .inl (fun _ => 0))) (h38 : C 38 = .inl (G.2.2.1, 120, .inl (fun _ => 0))) (h39 : C 39 = .inl (G.2.2.1, 200, .inl (fun _ => 0))) (h40 : C 40 = .inl (G.2.2.1, 200, .inl (fun _ => 0))) (h41 : C 41 = .inl (G.2.2.1, 200, .inl (fun _ => 0))) (h42 : C 42 = .inl (G.2.2.1, 6, .inl (fun _ => 0))) (h43 : C 43 = .inl (G.2.2.1, 6, .inl (fun _ => 0))) (h44 : C 44 = .inl (G.2.2.1, 6, .inl (fun _ => 0))) (h45 : C 45 = .inl (G.2.2.2.1, 48, .inl (fun _ => 0))) (h46 : C 46 = .inl (G.2.2.1, 48, .inl (fun _ => 0))) (h47 : C 47 = .inl (G.2.2.1, 48, .inl (fun _ => 0))) (h48 : C 48 = .inl (G.2.2.1, 48, .inl (fun _ => 0))) (h49 : C 49 = .inl (G.2.2.1, 48, .inl (fun _ => 0))) (h50 : C 50 = .inl (G.2.2.1, 48, .inl (fun _ => 0))) (h51 : C 51 = .inl (G.2.2.2.1, 64, .inl (fun _ => 0))) (h52 : C 52 = .inl (G.2.2.1, 64, .inl (fun _ => 0))) (h53 : C 53 = .inl (G.2.2.1, 8, .inl (fun _ => 0))) (h54 : C 54 = .inl (G.2.2.1, 24, .inl (fun _ => 0))) (h55 : C 55 = .inl (G.2.2.1, 20, .inl (fun _ => 0))) (h56 : C 56 = .inl (G.2.2.1, 20, .inl (fun _ => 0))) (h57 : C 57 = .inl (G.2.2.1, 20, .inl (fun _ => 0))) (h58 : C 58 = .inl (G.2.2.1, 20, .inl (fun _ => 0))) (h59 : C 59 = .inl (G.2.2.1, 20, .inl (fun _ => 0))) (h60 : C 60 = .inl (G.2.2.1, 180900, .inl (fun _ => 0))) : ∀ i, i < 61 → C i = cellOf G 0 ad (mZ8 M) i := by
  intro i hi
  by_cases c34 : i < 34
  · rw [hM i c34]
    exact cell_34 c34 (fun _ _ => rfl) (mZ8_lt c34).symm
  rcases (lt61c (Nat.not_lt.mp c34) hi) with rfl | rfl | rfl | rfl | rfl | rfl | rfl | rfl | rfl | rfl | rfl | rfl | rfl | rfl | rfl | rfl | rfl | rfl | rfl | rfl | rfl | rfl | rfl | rfl | rfl | rfl | rfl
  · exact h34.trans (cell_O (G := G) (K := 0) (ad := ad) (M := (mZ8 M)) (k := 34) (n := 8) (l := [none, none, some 35, some 36, some 37, some 38, none, some 39, some 40, some 41, none, some 42, some 43, some 44, some 45, some 46, some 47, some 48, some 49, some 50, some 51, some 52, some 53, some 54, none, none, none, some 55, some 56, some 57, some 58, some 59, some 60, none, none]) rfl).symm
  · exact h35.trans (cell_I (G := G) (K := 0) (ad := ad) (M := (mZ8 M)) (k := 35) (n := 120) (l := []) rfl).symm
  · exact h36.trans (cell_I (G := G) (K := 0) (ad := ad) (M := (mZ8 M)) (k := 36) (n := 120) (l := []) rfl).symm
  · exact h37.trans (cell_I (G := G) (K := 0) (ad := ad) (M := (mZ8 M)) (k := 37) (n := 120) (l := []) rfl).symm
  · exact h38.trans (cell_I (G := G) (K := 0) (ad := ad) (M := (mZ8 M)) (k := 38) (n := 120) (l := []) rfl).symm
  · exact h39.trans (cell_I (G := G) (K := 0) (ad := ad) (M := (mZ8 M)) (k := 39) (n := 200) (l := []) rfl).symm
  · exact h40.trans (cell_I (G := G) (K := 0) (ad := ad) (M := (mZ8 M)) (k := 40) (n := 200) (l := []) rfl).symm
  · exact h41.trans (cell_I (G := G) (K := 0) (ad := ad) (M := (mZ8 M)) (k := 41) (n := 200) (l := []) rfl).symm
  · exact h42.trans (cell_I (G := G) (K := 0) (ad := ad) (M := (mZ8 M)) (k := 42) (n := 6) (l := []) rfl).symm
  · exact h43.trans (cell_I (G := G) (K := 0) (ad := ad) (M := (mZ8 M)) (k := 43) (n := 6) (l := []) rfl).symm
  · exact h44.trans (cell_I (G := G) (K := 0) (ad := ad) (M := (mZ8 M)) (k := 44) (n := 6) (l := []) rfl).symm
  · exact h45.trans (cell_Z (G := G) (K := 0) (ad := ad) (M := (mZ8 M)) (k := 45) (n := 48) (l := []) rfl).symm
  · exact h46.trans (cell_I (G := G) (K := 0) (ad := ad) (M := (mZ8 M)) (k := 46) (n := 48) (l := []) rfl).symm
  · exact h47.trans (cell_I (G := G) (K := 0) (ad := ad) (M := (mZ8 M)) (k := 47) (n := 48) (l := []) rfl).symm
  · exact h48.trans (cell_I (G := G) (K := 0) (ad := ad) (M := (mZ8 M)) (k := 48) (n := 48) (l := []) rfl).symm
  · exact h49.trans (cell_I (G := G) (K := 0) (ad := ad) (M := (mZ8 M)) (k := 49) (n := 48) (l := []) rfl).symm
  · exact h50.trans (cell_I (G := G) (K := 0) (ad := ad) (M := (mZ8 M)) (k := 50) (n := 48) (l := []) rfl).symm
  · exact h51.trans (cell_Z (G := G) (K := 0) (ad := ad) (M := (mZ8 M)) (k := 51) (n := 64) (l := []) rfl).symm
  · exact h52.trans (cell_I (G := G) (K := 0) (ad := ad) (M := (mZ8 M)) (k := 52) (n := 64) (l := []) rfl).symm
  · exact h53.trans (cell_I (G := G) (K := 0) (ad := ad) (M := (mZ8 M)) (k := 53) (n := 8) (l := []) rfl).symm
  · exact h54.trans (cell_I (G := G) (K := 0) (ad := ad) (M := (mZ8 M)) (k := 54) (n := 24) (l := []) rfl).symm
  · exact h55.trans (cell_I (G := G) (K := 0) (ad := ad) (M := (mZ8 M)) (k := 55) (n := 20) (l := []) rfl).symm
  · exact h56.trans (cell_I (G := G) (K := 0) (ad := ad) (M := (mZ8 M)) (k := 56) (n := 20) (l := []) rfl).symm
  · exact h57.trans (cell_I (G := G) (K := 0) (ad := ad) (M := (mZ8 M)) (k := 57) (n := 20) (l := []) rfl).symm
  · exact h58.trans (cell_I (G := G) (K := 0) (ad := ad) (M := (mZ8 M)) (k := 58) (n := 20) (l := []) rfl).symm
  · exact h59.trans (cell_I (G := G) (K := 0) (ad := ad) (M := (mZ8 M)) (k := 59) (n := 20) (l := []) rfl).symm
  · exact h60.trans (cell_I (G := G) (K := 0) (ad := ad) (M := (mZ8 M)) (k := 60) (n := 180900) (l := []) rfl).symm

set_option maxHeartbeats 4000000 in
set_option maxRecDepth 100000 in
theorem pre8 {p : Program} {l : Launch} {e : Env} {s : State} {m : MethodId} {A : Array Value} {below : List Frame} {meth : Method} {c : Code} {ls : Array Slot} {Q : State → Prop} {G : GT} {N : Nat} {ad : Nat → Nat} {C : Nat → va_E} {h : Nat} {H0 : Heap} {locs0 : List Loc} (S : CallFix p m c cX8_init 2 s A TB RX8) (hini : meth.name = "<init>") (hh : h < N) (hC : C h = .inr (8, [.int 0, .int 0, .null, .null, .null, .null, .int 0, .null, .null, .null, .int 0, .null, .null, .null, .null, .null, .null, .null, .null, .null, .null, .null, .null, .null, .int 0, .int 0, .int 0, .null, .null, .null, .null, .null, .null, .int 0, .int 0])) (hw0 : Wg G N ad C s H0 locs0) (hl : lv_has ls 2 [(0, .ref (ad h))]) (kk : ∀ (ad1 : Nat → Nat) (C1 : Nat → va_E) (H1 : Heap) (locs1 : List Loc), Wg G (N + 26) ad1 C1 s H1 locs1 → (∀ i, i < N → ad1 i = ad i) → (∀ i, i < N → i ≠ h → C1 i = C i) → C1 h = .inr (8, [.int 0, .int (nI 20), .ref (ad1 N), .ref (ad1 (N + 1)), .ref (ad1 (N + 2)), .ref (ad1 (N + 3)), .int (nI 1), .ref (ad1 (N + 4)), .ref (ad1 (N + 5)), .ref (ad1 (N + 6)), .int 0, .ref (ad1 (N + 7)), .ref (ad1 (N + 8)), .ref (ad1 (N + 9)), .ref (ad1 (N + 10)), .ref (ad1 (N + 11)), .ref (ad1 (N + 12)), .ref (ad1 (N + 13)), .ref (ad1 (N + 14)), .ref (ad1 (N + 15)), .ref (ad1 (N + 16)), .ref (ad1 (N + 17)), .ref (ad1 (N + 18)), .ref (ad1 (N + 19)), .int 0, .int 0, .int 0, .ref (ad1 (N + 20)), .ref (ad1 (N + 21)), .ref (ad1 (N + 22)), .ref (ad1 (N + 23)), .ref (ad1 (N + 24)), .ref (ad1 (N + 25)), .int 0, .int 0]) → C1 N = .inl (G.2.2.1, 120, .inl (fun _ => 0)) → C1 (N + 1) = .inl (G.2.2.1, 120, .inl (fun _ => 0)) → C1 (N + 2) = .inl (G.2.2.1, 120, .inl (fun _ => 0)) → C1 (N + 3) = .inl (G.2.2.1, 120, .inl (fun _ => 0)) → C1 (N + 4) = .inl (G.2.2.1, 200, .inl (fun _ => 0)) → C1 (N + 5) = .inl (G.2.2.1, 200, .inl (fun _ => 0)) → C1 (N + 6) = .inl (G.2.2.1, 200, .inl (fun _ => 0)) → C1 (N + 7) = .inl (G.2.2.1, 6, .inl (fun _ => 0)) → C1 (N + 8) = .inl (G.2.2.1, 6, .inl (fun _ => 0)) → C1 (N + 9) = .inl (G.2.2.1, 6, .inl (fun _ => 0)) → C1 (N + 10) = .inl (G.2.2.2.1, 48, .inl (fun _ => 0)) → C1 (N + 11) = .inl (G.2.2.1, 48, .inl (fun _ => 0)) → C1 (N + 12) = .inl (G.2.2.1, 48, .inl (fun _ => 0)) → C1 (N + 13) = .inl (G.2.2.1, 48, .inl (fun _ => 0)) → C1 (N + 14) = .inl (G.2.2.1, 48, .inl (fun _ => 0)) → C1 (N + 15) = .inl (G.2.2.1, 48, .inl (fun _ => 0)) → C1 (N + 16) = .inl (G.2.2.2.1, 64, .inl (fun _ => 0)) → C1 (N + 17) = .inl (G.2.2.1, 64, .inl (fun _ => 0)) → C1 (N + 18) = .inl (G.2.2.1, 8, .inl (fun _ => 0)) → C1 (N + 19) = .inl (G.2.2.1, 24, .inl (fun _ => 0)) → C1 (N + 20) = .inl (G.2.2.1, 20, .inl (fun _ => 0)) → C1 (N + 21) = .inl (G.2.2.1, 20, .inl (fun _ => 0)) → C1 (N + 22) = .inl (G.2.2.1, 20, .inl (fun _ => 0)) → C1 (N + 23) = .inl (G.2.2.1, 20, .inl (fun _ => 0)) → C1 (N + 24) = .inl (G.2.2.1, 20, .inl (fun _ => 0)) → C1 (N + 25) = .inl (G.2.2.1, 180900, .inl (fun _ => 0)) → W p l e { frames := 2, cells := 26, slots := 182546, locals := 44 } s m A below meth c H1 locs1 26 182546 Q (F0 m 226 ls [])) : W p l e { frames := 2, cells := 26, slots := 182546, locals := 44 } s m A below meth c H0 locs0 0 0 Q (F0 m 0 ls []) := by
  refine lv_aload_n S.1 S.2.1 dX8_init_0 rfl (lv_at hl 0 rfl) ?_
  refine x_oi S wm_X8_7 hl.1 dX8_init_1 (by decide) (by decide) ?_
  refine lv_aload_n S.1 S.2.1 dX8_init_4 rfl (lv_at hl 0 rfl) ?_
  refine lv_bipush (v := nI 20) S.1 S.2.1 dX8_init_5 (by decide) ?_
  refine x_put (fs' := [.int 0, .int (nI 20), .null, .null, .null, .null, .int 0, .null, .null, .null, .int 0, .null, .null, .null, .null, .null, .null, .null, .null, .null, .null, .null, .null, .null, .int 0, .int 0, .int 0, .null, .null, .null, .null, .null, .null, .int 0, .int 0]) S hw0 h rfl hh hC rfl in_X8 tyX8_ok nmX8 1 (by decide) wf_X8_13 rfl rfl rfl (by show 1 < 35; decide) rfl dX8_init_7 (fun C1 H1 locs1 eC1 hw1 => ?_)
  have hC1_h : C1 h = .inr (8, [.int 0, .int (nI 20), .null, .null, .null, .null, .int 0, .null, .null, .null, .int 0, .null, .null, .null, .null, .null, .null, .null, .null, .null, .null, .null, .null, .null, .int 0, .int 0, .int 0, .null, .null, .null, .null, .null, .null, .int 0, .int 0]) := by rw [eC1]; exact va_up_self _ _ _
  have hfC1 : ∀ i, i < N → i ≠ h → C1 i = C i := fun i hi hne => by rw [eC1, va_up_ne _ _ hne]
  clear eC1 hw0
  refine lv_aload_n S.1 S.2.1 dX8_init_10 rfl (lv_at hl 0 rfl) ?_
  refine lv_bipush (v := nI 120) S.1 S.2.1 dX8_init_11 (by decide) ?_
  refine x_newI (N' := 120) S hw1 (by decide) (by decide) (by decide) (by decide) (by decide) rfl dX8_init_13 (fun q2 ad2 C2 H2 ead2 eC2 hw2 => ?_)
  have hC2_h : C2 h = .inr (8, [.int 0, .int (nI 20), .null, .null, .null, .null, .int 0, .null, .null, .null, .int 0, .null, .null, .null, .null, .null, .null, .null, .null, .null, .null, .null, .null, .null, .int 0, .int 0, .int 0, .null, .null, .null, .null, .null, .null, .int 0, .int 0]) := by rw [eC2, va_up_ne _ _ (Nat.ne_of_lt hh)]; exact hC1_h
  have hC2_0 : C2 N = .inl (G.2.2.1, 120, .inl (fun _ => 0)) := by rw [eC2]; exact va_up_self _ _ _
  have hfC2 : ∀ i, i < N → i ≠ h → C2 i = C i := fun i hi hne => by rw [eC2, va_up_ne _ _ (Nat.ne_of_lt hi)]; exact hfC1 i hi hne
  have ha2_h : ad2 h = (ad h) := by rw [ead2, va_up_ne _ _ (Nat.ne_of_lt hh)]
  have ha2_0 : ad2 N = q2 := by rw [ead2]; exact va_up_self _ _ _
  have hfa2 : ∀ i, i < N → ad2 i = ad i := fun i hi => by rw [ead2, va_up_ne _ _ (Nat.ne_of_lt hi)]
  clear eC2 hfC1 hC1_h ead2 hw1
  refine x_putF (fs' := [.int 0, .int (nI 20), .ref q2, .null, .null, .null, .int 0, .null, .null, .null, .int 0, .null, .null, .null, .null, .null, .null, .null, .null, .null, .null, .null, .null, .null, .int 0, .int 0, .int 0, .null, .null, .null, .null, .null, .null, .int 0, .int 0]) S hw2 h ha2_h (lt_zh hh 1) hC2_h rfl in_X8 tyX8_ok nmX8 2 (by decide) wf_X8_16 rfl hini rfl rfl rfl (by show 2 < 35; decide) rfl dX8_init_15 (fun C3 H3 locs3 eC3 hw3 => ?_)
  have hC3_h : C3 h = .inr (8, [.int 0, .int (nI 20), .ref q2, .null, .null, .null, .int 0, .null, .null, .null, .int 0, .null, .null, .null, .null, .null, .null, .null, .null, .null, .null, .null, .null, .null, .int 0, .int 0, .int 0, .null, .null, .null, .null, .null, .null, .int 0, .int 0]) := by rw [eC3]; exact va_up_self _ _ _
  have hC3_0 : C3 N = .inl (G.2.2.1, 120, .inl (fun _ => 0)) := by rw [eC3, va_up_ne _ _ (Nat.ne_of_lt hh).symm]; exact hC2_0
  have hfC3 : ∀ i, i < N → i ≠ h → C3 i = C i := fun i hi hne => by rw [eC3, va_up_ne _ _ hne]; exact hfC2 i hi hne
  clear eC3 hfC2 hC2_h hC2_0 hw2
  refine lv_aload_n S.1 S.2.1 dX8_init_18 rfl (lv_at hl 0 rfl) ?_
  refine lv_bipush (v := nI 120) S.1 S.2.1 dX8_init_19 (by decide) ?_
  refine x_newI (N' := 120) S hw3 (by decide) (by decide) (by decide) (by decide) (by decide) rfl dX8_init_21 (fun q4 ad4 C4 H4 ead4 eC4 hw4 => ?_)
  have hC4_h : C4 h = .inr (8, [.int 0, .int (nI 20), .ref q2, .null, .null, .null, .int 0, .null, .null, .null, .int 0, .null, .null, .null, .null, .null, .null, .null, .null, .null, .null, .null, .null, .null, .int 0, .int 0, .int 0, .null, .null, .null, .null, .null, .null, .int 0, .int 0]) := by rw [eC4, va_up_ne _ _ (nz_zh hh 1)]; exact hC3_h
  have hC4_0 : C4 N = .inl (G.2.2.1, 120, .inl (fun _ => 0)) := by rw [eC4, va_up_ne _ _ (nz_z0 N 1 (by decide))]; exact hC3_0
  have hC4_1 : C4 (N + 1) = .inl (G.2.2.1, 120, .inl (fun _ => 0)) := by rw [eC4]; exact va_up_self _ _ _
  have hfC4 : ∀ i, i < N → i ≠ h → C4 i = C i := fun i hi hne => by rw [eC4, va_up_ne _ _ (nz_zh hi 1)]; exact hfC3 i hi hne
  have ha4_h : ad4 h = (ad h) := by rw [ead4, va_up_ne _ _ (nz_zh hh 1)]; exact ha2_h
  have ha4_0 : ad4 N = q2 := by rw [ead4, va_up_ne _ _ (nz_z0 N 1 (by decide))]; exact ha2_0
  have ha4_1 : ad4 (N + 1) = q4 := by rw [ead4]; exact va_up_self _ _ _
  have hfa4 : ∀ i, i < N → ad4 i = ad i := fun i hi => by rw [ead4, va_up_ne _ _ (nz_zh hi 1)]; exact hfa2 i hi
  clear eC4 hfC3 hC3_h hC3_0 ead4 hfa2 ha2_h ha2_0 hw3
  refine x_putF (fs' := [.int 0, .int (nI 20), .ref q2, .ref q4, .null, .null, .int 0, .null, .null, .null, .int 0, .null, .null, .null, .null, .null, .null, .null, .null, .null, .null, .null, .null, .null, .int 0, .int 0, .int 0, .null, .null, .null, .null, .null, .null, .int 0, .int 0]) S hw4 h ha4_h (lt_zh hh 2) hC4_h rfl in_X8 tyX8_ok nmX8 3 (by decide) wf_X8_20 rfl hini rfl rfl rfl (by show 3 < 35; decide) rfl dX8_init_23 (fun C5 H5 locs5 eC5 hw5 => ?_)
  have hC5_h : C5 h = .inr (8, [.int 0, .int (nI 20), .ref q2, .ref q4, .null, .null, .int 0, .null, .null, .null, .int 0, .null, .null, .null, .null, .null, .null, .null, .null, .null, .null, .null, .null, .null, .int 0, .int 0, .int 0, .null, .null, .null, .null, .null, .null, .int 0, .int 0]) := by rw [eC5]; exact va_up_self _ _ _
  have hC5_0 : C5 N = .inl (G.2.2.1, 120, .inl (fun _ => 0)) := by rw [eC5, va_up_ne _ _ (Nat.ne_of_lt hh).symm]; exact hC4_0
  have hC5_1 : C5 (N + 1) = .inl (G.2.2.1, 120, .inl (fun _ => 0)) := by rw [eC5, va_up_ne _ _ (nz_zh hh 1).symm]; exact hC4_1
  have hfC5 : ∀ i, i < N → i ≠ h → C5 i = C i := fun i hi hne => by rw [eC5, va_up_ne _ _ hne]; exact hfC4 i hi hne
  clear eC5 hfC4 hC4_h hC4_0 hC4_1 hw4
  refine lv_aload_n S.1 S.2.1 dX8_init_26 rfl (lv_at hl 0 rfl) ?_
  refine lv_bipush (v := nI 120) S.1 S.2.1 dX8_init_27 (by decide) ?_
  refine x_newI (N' := 120) S hw5 (by decide) (by decide) (by decide) (by decide) (by decide) rfl dX8_init_29 (fun q6 ad6 C6 H6 ead6 eC6 hw6 => ?_)
  have hC6_h : C6 h = .inr (8, [.int 0, .int (nI 20), .ref q2, .ref q4, .null, .null, .int 0, .null, .null, .null, .int 0, .null, .null, .null, .null, .null, .null, .null, .null, .null, .null, .null, .null, .null, .int 0, .int 0, .int 0, .null, .null, .null, .null, .null, .null, .int 0, .int 0]) := by rw [eC6, va_up_ne _ _ (nz_zh hh 2)]; exact hC5_h
  have hC6_0 : C6 N = .inl (G.2.2.1, 120, .inl (fun _ => 0)) := by rw [eC6, va_up_ne _ _ (nz_z0 N 2 (by decide))]; exact hC5_0
  have hC6_1 : C6 (N + 1) = .inl (G.2.2.1, 120, .inl (fun _ => 0)) := by rw [eC6, va_up_ne _ _ (nz_zn N 1 2 (by decide))]; exact hC5_1
  have hC6_2 : C6 (N + 2) = .inl (G.2.2.1, 120, .inl (fun _ => 0)) := by rw [eC6]; exact va_up_self _ _ _
  have hfC6 : ∀ i, i < N → i ≠ h → C6 i = C i := fun i hi hne => by rw [eC6, va_up_ne _ _ (nz_zh hi 2)]; exact hfC5 i hi hne
  have ha6_h : ad6 h = (ad h) := by rw [ead6, va_up_ne _ _ (nz_zh hh 2)]; exact ha4_h
  have ha6_0 : ad6 N = q2 := by rw [ead6, va_up_ne _ _ (nz_z0 N 2 (by decide))]; exact ha4_0
  have ha6_1 : ad6 (N + 1) = q4 := by rw [ead6, va_up_ne _ _ (nz_zn N 1 2 (by decide))]; exact ha4_1
  have ha6_2 : ad6 (N + 2) = q6 := by rw [ead6]; exact va_up_self _ _ _
  have hfa6 : ∀ i, i < N → ad6 i = ad i := fun i hi => by rw [ead6, va_up_ne _ _ (nz_zh hi 2)]; exact hfa4 i hi
  clear eC6 hfC5 hC5_h hC5_0 hC5_1 ead6 hfa4 ha4_h ha4_0 ha4_1 hw5
  refine x_putF (fs' := [.int 0, .int (nI 20), .ref q2, .ref q4, .ref q6, .null, .int 0, .null, .null, .null, .int 0, .null, .null, .null, .null, .null, .null, .null, .null, .null, .null, .null, .null, .null, .int 0, .int 0, .int 0, .null, .null, .null, .null, .null, .null, .int 0, .int 0]) S hw6 h ha6_h (lt_zh hh 3) hC6_h rfl in_X8 tyX8_ok nmX8 4 (by decide) wf_X8_23 rfl hini rfl rfl rfl (by show 4 < 35; decide) rfl dX8_init_31 (fun C7 H7 locs7 eC7 hw7 => ?_)
  have hC7_h : C7 h = .inr (8, [.int 0, .int (nI 20), .ref q2, .ref q4, .ref q6, .null, .int 0, .null, .null, .null, .int 0, .null, .null, .null, .null, .null, .null, .null, .null, .null, .null, .null, .null, .null, .int 0, .int 0, .int 0, .null, .null, .null, .null, .null, .null, .int 0, .int 0]) := by rw [eC7]; exact va_up_self _ _ _
  have hC7_0 : C7 N = .inl (G.2.2.1, 120, .inl (fun _ => 0)) := by rw [eC7, va_up_ne _ _ (Nat.ne_of_lt hh).symm]; exact hC6_0
  have hC7_1 : C7 (N + 1) = .inl (G.2.2.1, 120, .inl (fun _ => 0)) := by rw [eC7, va_up_ne _ _ (nz_zh hh 1).symm]; exact hC6_1
  have hC7_2 : C7 (N + 2) = .inl (G.2.2.1, 120, .inl (fun _ => 0)) := by rw [eC7, va_up_ne _ _ (nz_zh hh 2).symm]; exact hC6_2
  have hfC7 : ∀ i, i < N → i ≠ h → C7 i = C i := fun i hi hne => by rw [eC7, va_up_ne _ _ hne]; exact hfC6 i hi hne
  clear eC7 hfC6 hC6_h hC6_0 hC6_1 hC6_2 hw6
  refine lv_aload_n S.1 S.2.1 dX8_init_34 rfl (lv_at hl 0 rfl) ?_
  refine lv_bipush (v := nI 120) S.1 S.2.1 dX8_init_35 (by decide) ?_
  refine x_newI (N' := 120) S hw7 (by decide) (by decide) (by decide) (by decide) (by decide) rfl dX8_init_37 (fun q8 ad8 C8 H8 ead8 eC8 hw8 => ?_)
  have hC8_h : C8 h = .inr (8, [.int 0, .int (nI 20), .ref q2, .ref q4, .ref q6, .null, .int 0, .null, .null, .null, .int 0, .null, .null, .null, .null, .null, .null, .null, .null, .null, .null, .null, .null, .null, .int 0, .int 0, .int 0, .null, .null, .null, .null, .null, .null, .int 0, .int 0]) := by rw [eC8, va_up_ne _ _ (nz_zh hh 3)]; exact hC7_h
  have hC8_0 : C8 N = .inl (G.2.2.1, 120, .inl (fun _ => 0)) := by rw [eC8, va_up_ne _ _ (nz_z0 N 3 (by decide))]; exact hC7_0
  have hC8_1 : C8 (N + 1) = .inl (G.2.2.1, 120, .inl (fun _ => 0)) := by rw [eC8, va_up_ne _ _ (nz_zn N 1 3 (by decide))]; exact hC7_1
  have hC8_2 : C8 (N + 2) = .inl (G.2.2.1, 120, .inl (fun _ => 0)) := by rw [eC8, va_up_ne _ _ (nz_zn N 2 3 (by decide))]; exact hC7_2
  have hC8_3 : C8 (N + 3) = .inl (G.2.2.1, 120, .inl (fun _ => 0)) := by rw [eC8]; exact va_up_self _ _ _
  have hfC8 : ∀ i, i < N → i ≠ h → C8 i = C i := fun i hi hne => by rw [eC8, va_up_ne _ _ (nz_zh hi 3)]; exact hfC7 i hi hne
  have ha8_h : ad8 h = (ad h) := by rw [ead8, va_up_ne _ _ (nz_zh hh 3)]; exact ha6_h
  have ha8_0 : ad8 N = q2 := by rw [ead8, va_up_ne _ _ (nz_z0 N 3 (by decide))]; exact ha6_0
  have ha8_1 : ad8 (N + 1) = q4 := by rw [ead8, va_up_ne _ _ (nz_zn N 1 3 (by decide))]; exact ha6_1
  have ha8_2 : ad8 (N + 2) = q6 := by rw [ead8, va_up_ne _ _ (nz_zn N 2 3 (by decide))]; exact ha6_2
  have ha8_3 : ad8 (N + 3) = q8 := by rw [ead8]; exact va_up_self _ _ _
  have hfa8 : ∀ i, i < N → ad8 i = ad i := fun i hi => by rw [ead8, va_up_ne _ _ (nz_zh hi 3)]; exact hfa6 i hi
  clear eC8 hfC7 hC7_h hC7_0 hC7_1 hC7_2 ead8 hfa6 ha6_h ha6_0 ha6_1 ha6_2 hw7
  refine x_putF (fs' := [.int 0, .int (nI 20), .ref q2, .ref q4, .ref q6, .ref q8, .int 0, .null, .null, .null, .int 0, .null, .null, .null, .null, .null, .null, .null, .null, .null, .null, .null, .null, .null, .int 0, .int 0, .int 0, .null, .null, .null, .null, .null, .null, .int 0, .int 0]) S hw8 h ha8_h (lt_zh hh 4) hC8_h rfl in_X8 tyX8_ok nmX8 5 (by decide) wf_X8_26 rfl hini rfl rfl rfl (by show 5 < 35; decide) rfl dX8_init_39 (fun C9 H9 locs9 eC9 hw9 => ?_)
  have hC9_h : C9 h = .inr (8, [.int 0, .int (nI 20), .ref q2, .ref q4, .ref q6, .ref q8, .int 0, .null, .null, .null, .int 0, .null, .null, .null, .null, .null, .null, .null, .null, .null, .null, .null, .null, .null, .int 0, .int 0, .int 0, .null, .null, .null, .null, .null, .null, .int 0, .int 0]) := by rw [eC9]; exact va_up_self _ _ _
  have hC9_0 : C9 N = .inl (G.2.2.1, 120, .inl (fun _ => 0)) := by rw [eC9, va_up_ne _ _ (Nat.ne_of_lt hh).symm]; exact hC8_0
  have hC9_1 : C9 (N + 1) = .inl (G.2.2.1, 120, .inl (fun _ => 0)) := by rw [eC9, va_up_ne _ _ (nz_zh hh 1).symm]; exact hC8_1
  have hC9_2 : C9 (N + 2) = .inl (G.2.2.1, 120, .inl (fun _ => 0)) := by rw [eC9, va_up_ne _ _ (nz_zh hh 2).symm]; exact hC8_2
  have hC9_3 : C9 (N + 3) = .inl (G.2.2.1, 120, .inl (fun _ => 0)) := by rw [eC9, va_up_ne _ _ (nz_zh hh 3).symm]; exact hC8_3
  have hfC9 : ∀ i, i < N → i ≠ h → C9 i = C i := fun i hi hne => by rw [eC9, va_up_ne _ _ hne]; exact hfC8 i hi hne
  clear eC9 hfC8 hC8_h hC8_0 hC8_1 hC8_2 hC8_3 hw8
  refine lv_aload_n S.1 S.2.1 dX8_init_42 rfl (lv_at hl 0 rfl) ?_
  refine lv_iconst (v := nI 1) S.1 S.2.1 dX8_init_43 (by decide) ?_
  refine x_put (fs' := [.int 0, .int (nI 20), .ref q2, .ref q4, .ref q6, .ref q8, .int (nI 1), .null, .null, .null, .int 0, .null, .null, .null, .null, .null, .null, .null, .null, .null, .null, .null, .null, .null, .int 0, .int 0, .int 0, .null, .null, .null, .null, .null, .null, .int 0, .int 0]) S hw9 h ha8_h (lt_zh hh 4) hC9_h rfl in_X8 tyX8_ok nmX8 6 (by decide) wf_X8_29 rfl rfl rfl (by show 6 < 35; decide) rfl dX8_init_44 (fun C10 H10 locs10 eC10 hw10 => ?_)
  have hC10_h : C10 h = .inr (8, [.int 0, .int (nI 20), .ref q2, .ref q4, .ref q6, .ref q8, .int (nI 1), .null, .null, .null, .int 0, .null, .null, .null, .null, .null, .null, .null, .null, .null, .null, .null, .null, .null, .int 0, .int 0, .int 0, .null, .null, .null, .null, .null, .null, .int 0, .int 0]) := by rw [eC10]; exact va_up_self _ _ _
  have hC10_0 : C10 N = .inl (G.2.2.1, 120, .inl (fun _ => 0)) := by rw [eC10, va_up_ne _ _ (Nat.ne_of_lt hh).symm]; exact hC9_0
  have hC10_1 : C10 (N + 1) = .inl (G.2.2.1, 120, .inl (fun _ => 0)) := by rw [eC10, va_up_ne _ _ (nz_zh hh 1).symm]; exact hC9_1
  have hC10_2 : C10 (N + 2) = .inl (G.2.2.1, 120, .inl (fun _ => 0)) := by rw [eC10, va_up_ne _ _ (nz_zh hh 2).symm]; exact hC9_2
  have hC10_3 : C10 (N + 3) = .inl (G.2.2.1, 120, .inl (fun _ => 0)) := by rw [eC10, va_up_ne _ _ (nz_zh hh 3).symm]; exact hC9_3
  have hfC10 : ∀ i, i < N → i ≠ h → C10 i = C i := fun i hi hne => by rw [eC10, va_up_ne _ _ hne]; exact hfC9 i hi hne
  clear eC10 hfC9 hC9_h hC9_0 hC9_1 hC9_2 hC9_3 hw9
  refine lv_aload_n S.1 S.2.1 dX8_init_47 rfl (lv_at hl 0 rfl) ?_
  refine lv_sipush (v := nI 200) S.1 S.2.1 dX8_init_48 (by decide) ?_
  refine x_newI (N' := 200) S hw10 (by decide) (by decide) (by decide) (by decide) (by decide) rfl dX8_init_51 (fun q11 ad11 C11 H11 ead11 eC11 hw11 => ?_)
  have hC11_h : C11 h = .inr (8, [.int 0, .int (nI 20), .ref q2, .ref q4, .ref q6, .ref q8, .int (nI 1), .null, .null, .null, .int 0, .null, .null, .null, .null, .null, .null, .null, .null, .null, .null, .null, .null, .null, .int 0, .int 0, .int 0, .null, .null, .null, .null, .null, .null, .int 0, .int 0]) := by rw [eC11, va_up_ne _ _ (nz_zh hh 4)]; exact hC10_h
  have hC11_0 : C11 N = .inl (G.2.2.1, 120, .inl (fun _ => 0)) := by rw [eC11, va_up_ne _ _ (nz_z0 N 4 (by decide))]; exact hC10_0
  have hC11_1 : C11 (N + 1) = .inl (G.2.2.1, 120, .inl (fun _ => 0)) := by rw [eC11, va_up_ne _ _ (nz_zn N 1 4 (by decide))]; exact hC10_1
  have hC11_2 : C11 (N + 2) = .inl (G.2.2.1, 120, .inl (fun _ => 0)) := by rw [eC11, va_up_ne _ _ (nz_zn N 2 4 (by decide))]; exact hC10_2
  have hC11_3 : C11 (N + 3) = .inl (G.2.2.1, 120, .inl (fun _ => 0)) := by rw [eC11, va_up_ne _ _ (nz_zn N 3 4 (by decide))]; exact hC10_3
  have hC11_4 : C11 (N + 4) = .inl (G.2.2.1, 200, .inl (fun _ => 0)) := by rw [eC11]; exact va_up_self _ _ _
  have hfC11 : ∀ i, i < N → i ≠ h → C11 i = C i := fun i hi hne => by rw [eC11, va_up_ne _ _ (nz_zh hi 4)]; exact hfC10 i hi hne
  have ha11_h : ad11 h = (ad h) := by rw [ead11, va_up_ne _ _ (nz_zh hh 4)]; exact ha8_h
  have ha11_0 : ad11 N = q2 := by rw [ead11, va_up_ne _ _ (nz_z0 N 4 (by decide))]; exact ha8_0
  have ha11_1 : ad11 (N + 1) = q4 := by rw [ead11, va_up_ne _ _ (nz_zn N 1 4 (by decide))]; exact ha8_1
  have ha11_2 : ad11 (N + 2) = q6 := by rw [ead11, va_up_ne _ _ (nz_zn N 2 4 (by decide))]; exact ha8_2
  have ha11_3 : ad11 (N + 3) = q8 := by rw [ead11, va_up_ne _ _ (nz_zn N 3 4 (by decide))]; exact ha8_3
  have ha11_4 : ad11 (N + 4) = q11 := by rw [ead11]; exact va_up_self _ _ _
  have hfa11 : ∀ i, i < N → ad11 i = ad i := fun i hi => by rw [ead11, va_up_ne _ _ (nz_zh hi 4)]; exact hfa8 i hi
  clear eC11 hfC10 hC10_h hC10_0 hC10_1 hC10_2 hC10_3 ead11 hfa8 ha8_h ha8_0 ha8_1 ha8_2 ha8_3 hw10
  refine x_putF (fs' := [.int 0, .int (nI 20), .ref q2, .ref q4, .ref q6, .ref q8, .int (nI 1), .ref q11, .null, .null, .int 0, .null, .null, .null, .null, .null, .null, .null, .null, .null, .null, .null, .null, .null, .int 0, .int 0, .int 0, .null, .null, .null, .null, .null, .null, .int 0, .int 0]) S hw11 h ha11_h (lt_zh hh 5) hC11_h rfl in_X8 tyX8_ok nmX8 7 (by decide) wf_X8_32 rfl hini rfl rfl rfl (by show 7 < 35; decide) rfl dX8_init_53 (fun C12 H12 locs12 eC12 hw12 => ?_)
  have hC12_h : C12 h = .inr (8, [.int 0, .int (nI 20), .ref q2, .ref q4, .ref q6, .ref q8, .int (nI 1), .ref q11, .null, .null, .int 0, .null, .null, .null, .null, .null, .null, .null, .null, .null, .null, .null, .null, .null, .int 0, .int 0, .int 0, .null, .null, .null, .null, .null, .null, .int 0, .int 0]) := by rw [eC12]; exact va_up_self _ _ _
  have hC12_0 : C12 N = .inl (G.2.2.1, 120, .inl (fun _ => 0)) := by rw [eC12, va_up_ne _ _ (Nat.ne_of_lt hh).symm]; exact hC11_0
  have hC12_1 : C12 (N + 1) = .inl (G.2.2.1, 120, .inl (fun _ => 0)) := by rw [eC12, va_up_ne _ _ (nz_zh hh 1).symm]; exact hC11_1
  have hC12_2 : C12 (N + 2) = .inl (G.2.2.1, 120, .inl (fun _ => 0)) := by rw [eC12, va_up_ne _ _ (nz_zh hh 2).symm]; exact hC11_2
  have hC12_3 : C12 (N + 3) = .inl (G.2.2.1, 120, .inl (fun _ => 0)) := by rw [eC12, va_up_ne _ _ (nz_zh hh 3).symm]; exact hC11_3
  have hC12_4 : C12 (N + 4) = .inl (G.2.2.1, 200, .inl (fun _ => 0)) := by rw [eC12, va_up_ne _ _ (nz_zh hh 4).symm]; exact hC11_4
  have hfC12 : ∀ i, i < N → i ≠ h → C12 i = C i := fun i hi hne => by rw [eC12, va_up_ne _ _ hne]; exact hfC11 i hi hne
  clear eC12 hfC11 hC11_h hC11_0 hC11_1 hC11_2 hC11_3 hC11_4 hw11
  refine lv_aload_n S.1 S.2.1 dX8_init_56 rfl (lv_at hl 0 rfl) ?_
  refine lv_sipush (v := nI 200) S.1 S.2.1 dX8_init_57 (by decide) ?_
  refine x_newI (N' := 200) S hw12 (by decide) (by decide) (by decide) (by decide) (by decide) rfl dX8_init_60 (fun q13 ad13 C13 H13 ead13 eC13 hw13 => ?_)
  have hC13_h : C13 h = .inr (8, [.int 0, .int (nI 20), .ref q2, .ref q4, .ref q6, .ref q8, .int (nI 1), .ref q11, .null, .null, .int 0, .null, .null, .null, .null, .null, .null, .null, .null, .null, .null, .null, .null, .null, .int 0, .int 0, .int 0, .null, .null, .null, .null, .null, .null, .int 0, .int 0]) := by rw [eC13, va_up_ne _ _ (nz_zh hh 5)]; exact hC12_h
  have hC13_0 : C13 N = .inl (G.2.2.1, 120, .inl (fun _ => 0)) := by rw [eC13, va_up_ne _ _ (nz_z0 N 5 (by decide))]; exact hC12_0
  have hC13_1 : C13 (N + 1) = .inl (G.2.2.1, 120, .inl (fun _ => 0)) := by rw [eC13, va_up_ne _ _ (nz_zn N 1 5 (by decide))]; exact hC12_1
  have hC13_2 : C13 (N + 2) = .inl (G.2.2.1, 120, .inl (fun _ => 0)) := by rw [eC13, va_up_ne _ _ (nz_zn N 2 5 (by decide))]; exact hC12_2
  have hC13_3 : C13 (N + 3) = .inl (G.2.2.1, 120, .inl (fun _ => 0)) := by rw [eC13, va_up_ne _ _ (nz_zn N 3 5 (by decide))]; exact hC12_3
  have hC13_4 : C13 (N + 4) = .inl (G.2.2.1, 200, .inl (fun _ => 0)) := by rw [eC13, va_up_ne _ _ (nz_zn N 4 5 (by decide))]; exact hC12_4
  have hC13_5 : C13 (N + 5) = .inl (G.2.2.1, 200, .inl (fun _ => 0)) := by rw [eC13]; exact va_up_self _ _ _
  have hfC13 : ∀ i, i < N → i ≠ h → C13 i = C i := fun i hi hne => by rw [eC13, va_up_ne _ _ (nz_zh hi 5)]; exact hfC12 i hi hne
  have ha13_h : ad13 h = (ad h) := by rw [ead13, va_up_ne _ _ (nz_zh hh 5)]; exact ha11_h
  have ha13_0 : ad13 N = q2 := by rw [ead13, va_up_ne _ _ (nz_z0 N 5 (by decide))]; exact ha11_0
  have ha13_1 : ad13 (N + 1) = q4 := by rw [ead13, va_up_ne _ _ (nz_zn N 1 5 (by decide))]; exact ha11_1
  have ha13_2 : ad13 (N + 2) = q6 := by rw [ead13, va_up_ne _ _ (nz_zn N 2 5 (by decide))]; exact ha11_2
  have ha13_3 : ad13 (N + 3) = q8 := by rw [ead13, va_up_ne _ _ (nz_zn N 3 5 (by decide))]; exact ha11_3
  have ha13_4 : ad13 (N + 4) = q11 := by rw [ead13, va_up_ne _ _ (nz_zn N 4 5 (by decide))]; exact ha11_4
  have ha13_5 : ad13 (N + 5) = q13 := by rw [ead13]; exact va_up_self _ _ _
  have hfa13 : ∀ i, i < N → ad13 i = ad i := fun i hi => by rw [ead13, va_up_ne _ _ (nz_zh hi 5)]; exact hfa11 i hi
  clear eC13 hfC12 hC12_h hC12_0 hC12_1 hC12_2 hC12_3 hC12_4 ead13 hfa11 ha11_h ha11_0 ha11_1 ha11_2 ha11_3 ha11_4 hw12
  refine x_putF (fs' := [.int 0, .int (nI 20), .ref q2, .ref q4, .ref q6, .ref q8, .int (nI 1), .ref q11, .ref q13, .null, .int 0, .null, .null, .null, .null, .null, .null, .null, .null, .null, .null, .null, .null, .null, .int 0, .int 0, .int 0, .null, .null, .null, .null, .null, .null, .int 0, .int 0]) S hw13 h ha13_h (lt_zh hh 6) hC13_h rfl in_X8 tyX8_ok nmX8 8 (by decide) wf_X8_35 rfl hini rfl rfl rfl (by show 8 < 35; decide) rfl dX8_init_62 (fun C14 H14 locs14 eC14 hw14 => ?_)
  have hC14_h : C14 h = .inr (8, [.int 0, .int (nI 20), .ref q2, .ref q4, .ref q6, .ref q8, .int (nI 1), .ref q11, .ref q13, .null, .int 0, .null, .null, .null, .null, .null, .null, .null, .null, .null, .null, .null, .null, .null, .int 0, .int 0, .int 0, .null, .null, .null, .null, .null, .null, .int 0, .int 0]) := by rw [eC14]; exact va_up_self _ _ _
  have hC14_0 : C14 N = .inl (G.2.2.1, 120, .inl (fun _ => 0)) := by rw [eC14, va_up_ne _ _ (Nat.ne_of_lt hh).symm]; exact hC13_0
  have hC14_1 : C14 (N + 1) = .inl (G.2.2.1, 120, .inl (fun _ => 0)) := by rw [eC14, va_up_ne _ _ (nz_zh hh 1).symm]; exact hC13_1
  have hC14_2 : C14 (N + 2) = .inl (G.2.2.1, 120, .inl (fun _ => 0)) := by rw [eC14, va_up_ne _ _ (nz_zh hh 2).symm]; exact hC13_2
  have hC14_3 : C14 (N + 3) = .inl (G.2.2.1, 120, .inl (fun _ => 0)) := by rw [eC14, va_up_ne _ _ (nz_zh hh 3).symm]; exact hC13_3
  have hC14_4 : C14 (N + 4) = .inl (G.2.2.1, 200, .inl (fun _ => 0)) := by rw [eC14, va_up_ne _ _ (nz_zh hh 4).symm]; exact hC13_4
  have hC14_5 : C14 (N + 5) = .inl (G.2.2.1, 200, .inl (fun _ => 0)) := by rw [eC14, va_up_ne _ _ (nz_zh hh 5).symm]; exact hC13_5
  have hfC14 : ∀ i, i < N → i ≠ h → C14 i = C i := fun i hi hne => by rw [eC14, va_up_ne _ _ hne]; exact hfC13 i hi hne
  clear eC14 hfC13 hC13_h hC13_0 hC13_1 hC13_2 hC13_3 hC13_4 hC13_5 hw13
  refine lv_aload_n S.1 S.2.1 dX8_init_65 rfl (lv_at hl 0 rfl) ?_
  refine lv_sipush (v := nI 200) S.1 S.2.1 dX8_init_66 (by decide) ?_
  refine x_newI (N' := 200) S hw14 (by decide) (by decide) (by decide) (by decide) (by decide) rfl dX8_init_69 (fun q15 ad15 C15 H15 ead15 eC15 hw15 => ?_)
  have hC15_h : C15 h = .inr (8, [.int 0, .int (nI 20), .ref q2, .ref q4, .ref q6, .ref q8, .int (nI 1), .ref q11, .ref q13, .null, .int 0, .null, .null, .null, .null, .null, .null, .null, .null, .null, .null, .null, .null, .null, .int 0, .int 0, .int 0, .null, .null, .null, .null, .null, .null, .int 0, .int 0]) := by rw [eC15, va_up_ne _ _ (nz_zh hh 6)]; exact hC14_h
  have hC15_0 : C15 N = .inl (G.2.2.1, 120, .inl (fun _ => 0)) := by rw [eC15, va_up_ne _ _ (nz_z0 N 6 (by decide))]; exact hC14_0
  have hC15_1 : C15 (N + 1) = .inl (G.2.2.1, 120, .inl (fun _ => 0)) := by rw [eC15, va_up_ne _ _ (nz_zn N 1 6 (by decide))]; exact hC14_1
  have hC15_2 : C15 (N + 2) = .inl (G.2.2.1, 120, .inl (fun _ => 0)) := by rw [eC15, va_up_ne _ _ (nz_zn N 2 6 (by decide))]; exact hC14_2
  have hC15_3 : C15 (N + 3) = .inl (G.2.2.1, 120, .inl (fun _ => 0)) := by rw [eC15, va_up_ne _ _ (nz_zn N 3 6 (by decide))]; exact hC14_3
  have hC15_4 : C15 (N + 4) = .inl (G.2.2.1, 200, .inl (fun _ => 0)) := by rw [eC15, va_up_ne _ _ (nz_zn N 4 6 (by decide))]; exact hC14_4
  have hC15_5 : C15 (N + 5) = .inl (G.2.2.1, 200, .inl (fun _ => 0)) := by rw [eC15, va_up_ne _ _ (nz_zn N 5 6 (by decide))]; exact hC14_5
  have hC15_6 : C15 (N + 6) = .inl (G.2.2.1, 200, .inl (fun _ => 0)) := by rw [eC15]; exact va_up_self _ _ _
  have hfC15 : ∀ i, i < N → i ≠ h → C15 i = C i := fun i hi hne => by rw [eC15, va_up_ne _ _ (nz_zh hi 6)]; exact hfC14 i hi hne
  have ha15_h : ad15 h = (ad h) := by rw [ead15, va_up_ne _ _ (nz_zh hh 6)]; exact ha13_h
  have ha15_0 : ad15 N = q2 := by rw [ead15, va_up_ne _ _ (nz_z0 N 6 (by decide))]; exact ha13_0
  have ha15_1 : ad15 (N + 1) = q4 := by rw [ead15, va_up_ne _ _ (nz_zn N 1 6 (by decide))]; exact ha13_1
  have ha15_2 : ad15 (N + 2) = q6 := by rw [ead15, va_up_ne _ _ (nz_zn N 2 6 (by decide))]; exact ha13_2
  have ha15_3 : ad15 (N + 3) = q8 := by rw [ead15, va_up_ne _ _ (nz_zn N 3 6 (by decide))]; exact ha13_3
  have ha15_4 : ad15 (N + 4) = q11 := by rw [ead15, va_up_ne _ _ (nz_zn N 4 6 (by decide))]; exact ha13_4
  have ha15_5 : ad15 (N + 5) = q13 := by rw [ead15, va_up_ne _ _ (nz_zn N 5 6 (by decide))]; exact ha13_5
  have ha15_6 : ad15 (N + 6) = q15 := by rw [ead15]; exact va_up_self _ _ _
  have hfa15 : ∀ i, i < N → ad15 i = ad i := fun i hi => by rw [ead15, va_up_ne _ _ (nz_zh hi 6)]; exact hfa13 i hi
  clear eC15 hfC14 hC14_h hC14_0 hC14_1 hC14_2 hC14_3 hC14_4 hC14_5 ead15 hfa13 ha13_h ha13_0 ha13_1 ha13_2 ha13_3 ha13_4 ha13_5 hw14
  refine x_putF (fs' := [.int 0, .int (nI 20), .ref q2, .ref q4, .ref q6, .ref q8, .int (nI 1), .ref q11, .ref q13, .ref q15, .int 0, .null, .null, .null, .null, .null, .null, .null, .null, .null, .null, .null, .null, .null, .int 0, .int 0, .int 0, .null, .null, .null, .null, .null, .null, .int 0, .int 0]) S hw15 h ha15_h (lt_zh hh 7) hC15_h rfl in_X8 tyX8_ok nmX8 9 (by decide) wf_X8_38 rfl hini rfl rfl rfl (by show 9 < 35; decide) rfl dX8_init_71 (fun C16 H16 locs16 eC16 hw16 => ?_)
  have hC16_h : C16 h = .inr (8, [.int 0, .int (nI 20), .ref q2, .ref q4, .ref q6, .ref q8, .int (nI 1), .ref q11, .ref q13, .ref q15, .int 0, .null, .null, .null, .null, .null, .null, .null, .null, .null, .null, .null, .null, .null, .int 0, .int 0, .int 0, .null, .null, .null, .null, .null, .null, .int 0, .int 0]) := by rw [eC16]; exact va_up_self _ _ _
  have hC16_0 : C16 N = .inl (G.2.2.1, 120, .inl (fun _ => 0)) := by rw [eC16, va_up_ne _ _ (Nat.ne_of_lt hh).symm]; exact hC15_0
  have hC16_1 : C16 (N + 1) = .inl (G.2.2.1, 120, .inl (fun _ => 0)) := by rw [eC16, va_up_ne _ _ (nz_zh hh 1).symm]; exact hC15_1
  have hC16_2 : C16 (N + 2) = .inl (G.2.2.1, 120, .inl (fun _ => 0)) := by rw [eC16, va_up_ne _ _ (nz_zh hh 2).symm]; exact hC15_2
  have hC16_3 : C16 (N + 3) = .inl (G.2.2.1, 120, .inl (fun _ => 0)) := by rw [eC16, va_up_ne _ _ (nz_zh hh 3).symm]; exact hC15_3
  have hC16_4 : C16 (N + 4) = .inl (G.2.2.1, 200, .inl (fun _ => 0)) := by rw [eC16, va_up_ne _ _ (nz_zh hh 4).symm]; exact hC15_4
  have hC16_5 : C16 (N + 5) = .inl (G.2.2.1, 200, .inl (fun _ => 0)) := by rw [eC16, va_up_ne _ _ (nz_zh hh 5).symm]; exact hC15_5
  have hC16_6 : C16 (N + 6) = .inl (G.2.2.1, 200, .inl (fun _ => 0)) := by rw [eC16, va_up_ne _ _ (nz_zh hh 6).symm]; exact hC15_6
  have hfC16 : ∀ i, i < N → i ≠ h → C16 i = C i := fun i hi hne => by rw [eC16, va_up_ne _ _ hne]; exact hfC15 i hi hne
  clear eC16 hfC15 hC15_h hC15_0 hC15_1 hC15_2 hC15_3 hC15_4 hC15_5 hC15_6 hw15
  refine lv_aload_n S.1 S.2.1 dX8_init_74 rfl (lv_at hl 0 rfl) ?_
  refine lv_bipush (v := nI 6) S.1 S.2.1 dX8_init_75 (by decide) ?_
  refine x_newI (N' := 6) S hw16 (by decide) (by decide) (by decide) (by decide) (by decide) rfl dX8_init_77 (fun q17 ad17 C17 H17 ead17 eC17 hw17 => ?_)
  have hC17_h : C17 h = .inr (8, [.int 0, .int (nI 20), .ref q2, .ref q4, .ref q6, .ref q8, .int (nI 1), .ref q11, .ref q13, .ref q15, .int 0, .null, .null, .null, .null, .null, .null, .null, .null, .null, .null, .null, .null, .null, .int 0, .int 0, .int 0, .null, .null, .null, .null, .null, .null, .int 0, .int 0]) := by rw [eC17, va_up_ne _ _ (nz_zh hh 7)]; exact hC16_h
  have hC17_0 : C17 N = .inl (G.2.2.1, 120, .inl (fun _ => 0)) := by rw [eC17, va_up_ne _ _ (nz_z0 N 7 (by decide))]; exact hC16_0
  have hC17_1 : C17 (N + 1) = .inl (G.2.2.1, 120, .inl (fun _ => 0)) := by rw [eC17, va_up_ne _ _ (nz_zn N 1 7 (by decide))]; exact hC16_1
  have hC17_2 : C17 (N + 2) = .inl (G.2.2.1, 120, .inl (fun _ => 0)) := by rw [eC17, va_up_ne _ _ (nz_zn N 2 7 (by decide))]; exact hC16_2
  have hC17_3 : C17 (N + 3) = .inl (G.2.2.1, 120, .inl (fun _ => 0)) := by rw [eC17, va_up_ne _ _ (nz_zn N 3 7 (by decide))]; exact hC16_3
  have hC17_4 : C17 (N + 4) = .inl (G.2.2.1, 200, .inl (fun _ => 0)) := by rw [eC17, va_up_ne _ _ (nz_zn N 4 7 (by decide))]; exact hC16_4
  have hC17_5 : C17 (N + 5) = .inl (G.2.2.1, 200, .inl (fun _ => 0)) := by rw [eC17, va_up_ne _ _ (nz_zn N 5 7 (by decide))]; exact hC16_5
  have hC17_6 : C17 (N + 6) = .inl (G.2.2.1, 200, .inl (fun _ => 0)) := by rw [eC17, va_up_ne _ _ (nz_zn N 6 7 (by decide))]; exact hC16_6
  have hC17_7 : C17 (N + 7) = .inl (G.2.2.1, 6, .inl (fun _ => 0)) := by rw [eC17]; exact va_up_self _ _ _
  have hfC17 : ∀ i, i < N → i ≠ h → C17 i = C i := fun i hi hne => by rw [eC17, va_up_ne _ _ (nz_zh hi 7)]; exact hfC16 i hi hne
  have ha17_h : ad17 h = (ad h) := by rw [ead17, va_up_ne _ _ (nz_zh hh 7)]; exact ha15_h
  have ha17_0 : ad17 N = q2 := by rw [ead17, va_up_ne _ _ (nz_z0 N 7 (by decide))]; exact ha15_0
  have ha17_1 : ad17 (N + 1) = q4 := by rw [ead17, va_up_ne _ _ (nz_zn N 1 7 (by decide))]; exact ha15_1
  have ha17_2 : ad17 (N + 2) = q6 := by rw [ead17, va_up_ne _ _ (nz_zn N 2 7 (by decide))]; exact ha15_2
  have ha17_3 : ad17 (N + 3) = q8 := by rw [ead17, va_up_ne _ _ (nz_zn N 3 7 (by decide))]; exact ha15_3
  have ha17_4 : ad17 (N + 4) = q11 := by rw [ead17, va_up_ne _ _ (nz_zn N 4 7 (by decide))]; exact ha15_4
  have ha17_5 : ad17 (N + 5) = q13 := by rw [ead17, va_up_ne _ _ (nz_zn N 5 7 (by decide))]; exact ha15_5
  have ha17_6 : ad17 (N + 6) = q15 := by rw [ead17, va_up_ne _ _ (nz_zn N 6 7 (by decide))]; exact ha15_6
  have ha17_7 : ad17 (N + 7) = q17 := by rw [ead17]; exact va_up_self _ _ _
  have hfa17 : ∀ i, i < N → ad17 i = ad i := fun i hi => by rw [ead17, va_up_ne _ _ (nz_zh hi 7)]; exact hfa15 i hi
  clear eC17 hfC16 hC16_h hC16_0 hC16_1 hC16_2 hC16_3 hC16_4 hC16_5 hC16_6 ead17 hfa15 ha15_h ha15_0 ha15_1 ha15_2 ha15_3 ha15_4 ha15_5 ha15_6 hw16
  refine x_putF (fs' := [.int 0, .int (nI 20), .ref q2, .ref q4, .ref q6, .ref q8, .int (nI 1), .ref q11, .ref q13, .ref q15, .int 0, .ref q17, .null, .null, .null, .null, .null, .null, .null, .null, .null, .null, .null, .null, .int 0, .int 0, .int 0, .null, .null, .null, .null, .null, .null, .int 0, .int 0]) S hw17 h ha17_h (lt_zh hh 8) hC17_h rfl in_X8 tyX8_ok nmX8 11 (by decide) wf_X8_41 rfl hini rfl rfl rfl (by show 11 < 35; decide) rfl dX8_init_79 (fun C18 H18 locs18 eC18 hw18 => ?_)
  have hC18_h : C18 h = .inr (8, [.int 0, .int (nI 20), .ref q2, .ref q4, .ref q6, .ref q8, .int (nI 1), .ref q11, .ref q13, .ref q15, .int 0, .ref q17, .null, .null, .null, .null, .null, .null, .null, .null, .null, .null, .null, .null, .int 0, .int 0, .int 0, .null, .null, .null, .null, .null, .null, .int 0, .int 0]) := by rw [eC18]; exact va_up_self _ _ _
  have hC18_0 : C18 N = .inl (G.2.2.1, 120, .inl (fun _ => 0)) := by rw [eC18, va_up_ne _ _ (Nat.ne_of_lt hh).symm]; exact hC17_0
  have hC18_1 : C18 (N + 1) = .inl (G.2.2.1, 120, .inl (fun _ => 0)) := by rw [eC18, va_up_ne _ _ (nz_zh hh 1).symm]; exact hC17_1
  have hC18_2 : C18 (N + 2) = .inl (G.2.2.1, 120, .inl (fun _ => 0)) := by rw [eC18, va_up_ne _ _ (nz_zh hh 2).symm]; exact hC17_2
  have hC18_3 : C18 (N + 3) = .inl (G.2.2.1, 120, .inl (fun _ => 0)) := by rw [eC18, va_up_ne _ _ (nz_zh hh 3).symm]; exact hC17_3
  have hC18_4 : C18 (N + 4) = .inl (G.2.2.1, 200, .inl (fun _ => 0)) := by rw [eC18, va_up_ne _ _ (nz_zh hh 4).symm]; exact hC17_4
  have hC18_5 : C18 (N + 5) = .inl (G.2.2.1, 200, .inl (fun _ => 0)) := by rw [eC18, va_up_ne _ _ (nz_zh hh 5).symm]; exact hC17_5
  have hC18_6 : C18 (N + 6) = .inl (G.2.2.1, 200, .inl (fun _ => 0)) := by rw [eC18, va_up_ne _ _ (nz_zh hh 6).symm]; exact hC17_6
  have hC18_7 : C18 (N + 7) = .inl (G.2.2.1, 6, .inl (fun _ => 0)) := by rw [eC18, va_up_ne _ _ (nz_zh hh 7).symm]; exact hC17_7
  have hfC18 : ∀ i, i < N → i ≠ h → C18 i = C i := fun i hi hne => by rw [eC18, va_up_ne _ _ hne]; exact hfC17 i hi hne
  clear eC18 hfC17 hC17_h hC17_0 hC17_1 hC17_2 hC17_3 hC17_4 hC17_5 hC17_6 hC17_7 hw17
  refine lv_aload_n S.1 S.2.1 dX8_init_82 rfl (lv_at hl 0 rfl) ?_
  refine lv_bipush (v := nI 6) S.1 S.2.1 dX8_init_83 (by decide) ?_
  refine x_newI (N' := 6) S hw18 (by decide) (by decide) (by decide) (by decide) (by decide) rfl dX8_init_85 (fun q19 ad19 C19 H19 ead19 eC19 hw19 => ?_)
  have hC19_h : C19 h = .inr (8, [.int 0, .int (nI 20), .ref q2, .ref q4, .ref q6, .ref q8, .int (nI 1), .ref q11, .ref q13, .ref q15, .int 0, .ref q17, .null, .null, .null, .null, .null, .null, .null, .null, .null, .null, .null, .null, .int 0, .int 0, .int 0, .null, .null, .null, .null, .null, .null, .int 0, .int 0]) := by rw [eC19, va_up_ne _ _ (nz_zh hh 8)]; exact hC18_h
  have hC19_0 : C19 N = .inl (G.2.2.1, 120, .inl (fun _ => 0)) := by rw [eC19, va_up_ne _ _ (nz_z0 N 8 (by decide))]; exact hC18_0
  have hC19_1 : C19 (N + 1) = .inl (G.2.2.1, 120, .inl (fun _ => 0)) := by rw [eC19, va_up_ne _ _ (nz_zn N 1 8 (by decide))]; exact hC18_1
  have hC19_2 : C19 (N + 2) = .inl (G.2.2.1, 120, .inl (fun _ => 0)) := by rw [eC19, va_up_ne _ _ (nz_zn N 2 8 (by decide))]; exact hC18_2
  have hC19_3 : C19 (N + 3) = .inl (G.2.2.1, 120, .inl (fun _ => 0)) := by rw [eC19, va_up_ne _ _ (nz_zn N 3 8 (by decide))]; exact hC18_3
  have hC19_4 : C19 (N + 4) = .inl (G.2.2.1, 200, .inl (fun _ => 0)) := by rw [eC19, va_up_ne _ _ (nz_zn N 4 8 (by decide))]; exact hC18_4
  have hC19_5 : C19 (N + 5) = .inl (G.2.2.1, 200, .inl (fun _ => 0)) := by rw [eC19, va_up_ne _ _ (nz_zn N 5 8 (by decide))]; exact hC18_5
  have hC19_6 : C19 (N + 6) = .inl (G.2.2.1, 200, .inl (fun _ => 0)) := by rw [eC19, va_up_ne _ _ (nz_zn N 6 8 (by decide))]; exact hC18_6
  have hC19_7 : C19 (N + 7) = .inl (G.2.2.1, 6, .inl (fun _ => 0)) := by rw [eC19, va_up_ne _ _ (nz_zn N 7 8 (by decide))]; exact hC18_7
  have hC19_8 : C19 (N + 8) = .inl (G.2.2.1, 6, .inl (fun _ => 0)) := by rw [eC19]; exact va_up_self _ _ _
  have hfC19 : ∀ i, i < N → i ≠ h → C19 i = C i := fun i hi hne => by rw [eC19, va_up_ne _ _ (nz_zh hi 8)]; exact hfC18 i hi hne
  have ha19_h : ad19 h = (ad h) := by rw [ead19, va_up_ne _ _ (nz_zh hh 8)]; exact ha17_h
  have ha19_0 : ad19 N = q2 := by rw [ead19, va_up_ne _ _ (nz_z0 N 8 (by decide))]; exact ha17_0
  have ha19_1 : ad19 (N + 1) = q4 := by rw [ead19, va_up_ne _ _ (nz_zn N 1 8 (by decide))]; exact ha17_1
  have ha19_2 : ad19 (N + 2) = q6 := by rw [ead19, va_up_ne _ _ (nz_zn N 2 8 (by decide))]; exact ha17_2
  have ha19_3 : ad19 (N + 3) = q8 := by rw [ead19, va_up_ne _ _ (nz_zn N 3 8 (by decide))]; exact ha17_3
  have ha19_4 : ad19 (N + 4) = q11 := by rw [ead19, va_up_ne _ _ (nz_zn N 4 8 (by decide))]; exact ha17_4
  have ha19_5 : ad19 (N + 5) = q13 := by rw [ead19, va_up_ne _ _ (nz_zn N 5 8 (by decide))]; exact ha17_5
  have ha19_6 : ad19 (N + 6) = q15 := by rw [ead19, va_up_ne _ _ (nz_zn N 6 8 (by decide))]; exact ha17_6
  have ha19_7 : ad19 (N + 7) = q17 := by rw [ead19, va_up_ne _ _ (nz_zn N 7 8 (by decide))]; exact ha17_7
  have ha19_8 : ad19 (N + 8) = q19 := by rw [ead19]; exact va_up_self _ _ _
  have hfa19 : ∀ i, i < N → ad19 i = ad i := fun i hi => by rw [ead19, va_up_ne _ _ (nz_zh hi 8)]; exact hfa17 i hi
  clear eC19 hfC18 hC18_h hC18_0 hC18_1 hC18_2 hC18_3 hC18_4 hC18_5 hC18_6 hC18_7 ead19 hfa17 ha17_h ha17_0 ha17_1 ha17_2 ha17_3 ha17_4 ha17_5 ha17_6 ha17_7 hw18
  refine x_putF (fs' := [.int 0, .int (nI 20), .ref q2, .ref q4, .ref q6, .ref q8, .int (nI 1), .ref q11, .ref q13, .ref q15, .int 0, .ref q17, .ref q19, .null, .null, .null, .null, .null, .null, .null, .null, .null, .null, .null, .int 0, .int 0, .int 0, .null, .null, .null, .null, .null, .null, .int 0, .int 0]) S hw19 h ha19_h (lt_zh hh 9) hC19_h rfl in_X8 tyX8_ok nmX8 12 (by decide) wf_X8_44 rfl hini rfl rfl rfl (by show 12 < 35; decide) rfl dX8_init_87 (fun C20 H20 locs20 eC20 hw20 => ?_)
  have hC20_h : C20 h = .inr (8, [.int 0, .int (nI 20), .ref q2, .ref q4, .ref q6, .ref q8, .int (nI 1), .ref q11, .ref q13, .ref q15, .int 0, .ref q17, .ref q19, .null, .null, .null, .null, .null, .null, .null, .null, .null, .null, .null, .int 0, .int 0, .int 0, .null, .null, .null, .null, .null, .null, .int 0, .int 0]) := by rw [eC20]; exact va_up_self _ _ _
  have hC20_0 : C20 N = .inl (G.2.2.1, 120, .inl (fun _ => 0)) := by rw [eC20, va_up_ne _ _ (Nat.ne_of_lt hh).symm]; exact hC19_0
  have hC20_1 : C20 (N + 1) = .inl (G.2.2.1, 120, .inl (fun _ => 0)) := by rw [eC20, va_up_ne _ _ (nz_zh hh 1).symm]; exact hC19_1
  have hC20_2 : C20 (N + 2) = .inl (G.2.2.1, 120, .inl (fun _ => 0)) := by rw [eC20, va_up_ne _ _ (nz_zh hh 2).symm]; exact hC19_2
  have hC20_3 : C20 (N + 3) = .inl (G.2.2.1, 120, .inl (fun _ => 0)) := by rw [eC20, va_up_ne _ _ (nz_zh hh 3).symm]; exact hC19_3
  have hC20_4 : C20 (N + 4) = .inl (G.2.2.1, 200, .inl (fun _ => 0)) := by rw [eC20, va_up_ne _ _ (nz_zh hh 4).symm]; exact hC19_4
  have hC20_5 : C20 (N + 5) = .inl (G.2.2.1, 200, .inl (fun _ => 0)) := by rw [eC20, va_up_ne _ _ (nz_zh hh 5).symm]; exact hC19_5
  have hC20_6 : C20 (N + 6) = .inl (G.2.2.1, 200, .inl (fun _ => 0)) := by rw [eC20, va_up_ne _ _ (nz_zh hh 6).symm]; exact hC19_6
  have hC20_7 : C20 (N + 7) = .inl (G.2.2.1, 6, .inl (fun _ => 0)) := by rw [eC20, va_up_ne _ _ (nz_zh hh 7).symm]; exact hC19_7
  have hC20_8 : C20 (N + 8) = .inl (G.2.2.1, 6, .inl (fun _ => 0)) := by rw [eC20, va_up_ne _ _ (nz_zh hh 8).symm]; exact hC19_8
  have hfC20 : ∀ i, i < N → i ≠ h → C20 i = C i := fun i hi hne => by rw [eC20, va_up_ne _ _ hne]; exact hfC19 i hi hne
  clear eC20 hfC19 hC19_h hC19_0 hC19_1 hC19_2 hC19_3 hC19_4 hC19_5 hC19_6 hC19_7 hC19_8 hw19
  refine lv_aload_n S.1 S.2.1 dX8_init_90 rfl (lv_at hl 0 rfl) ?_
  refine lv_bipush (v := nI 6) S.1 S.2.1 dX8_init_91 (by decide) ?_
  refine x_newI (N' := 6) S hw20 (by decide) (by decide) (by decide) (by decide) (by decide) rfl dX8_init_93 (fun q21 ad21 C21 H21 ead21 eC21 hw21 => ?_)
  have hC21_h : C21 h = .inr (8, [.int 0, .int (nI 20), .ref q2, .ref q4, .ref q6, .ref q8, .int (nI 1), .ref q11, .ref q13, .ref q15, .int 0, .ref q17, .ref q19, .null, .null, .null, .null, .null, .null, .null, .null, .null, .null, .null, .int 0, .int 0, .int 0, .null, .null, .null, .null, .null, .null, .int 0, .int 0]) := by rw [eC21, va_up_ne _ _ (nz_zh hh 9)]; exact hC20_h
  have hC21_0 : C21 N = .inl (G.2.2.1, 120, .inl (fun _ => 0)) := by rw [eC21, va_up_ne _ _ (nz_z0 N 9 (by decide))]; exact hC20_0
  have hC21_1 : C21 (N + 1) = .inl (G.2.2.1, 120, .inl (fun _ => 0)) := by rw [eC21, va_up_ne _ _ (nz_zn N 1 9 (by decide))]; exact hC20_1
  have hC21_2 : C21 (N + 2) = .inl (G.2.2.1, 120, .inl (fun _ => 0)) := by rw [eC21, va_up_ne _ _ (nz_zn N 2 9 (by decide))]; exact hC20_2
  have hC21_3 : C21 (N + 3) = .inl (G.2.2.1, 120, .inl (fun _ => 0)) := by rw [eC21, va_up_ne _ _ (nz_zn N 3 9 (by decide))]; exact hC20_3
  have hC21_4 : C21 (N + 4) = .inl (G.2.2.1, 200, .inl (fun _ => 0)) := by rw [eC21, va_up_ne _ _ (nz_zn N 4 9 (by decide))]; exact hC20_4
  have hC21_5 : C21 (N + 5) = .inl (G.2.2.1, 200, .inl (fun _ => 0)) := by rw [eC21, va_up_ne _ _ (nz_zn N 5 9 (by decide))]; exact hC20_5
  have hC21_6 : C21 (N + 6) = .inl (G.2.2.1, 200, .inl (fun _ => 0)) := by rw [eC21, va_up_ne _ _ (nz_zn N 6 9 (by decide))]; exact hC20_6
  have hC21_7 : C21 (N + 7) = .inl (G.2.2.1, 6, .inl (fun _ => 0)) := by rw [eC21, va_up_ne _ _ (nz_zn N 7 9 (by decide))]; exact hC20_7
  have hC21_8 : C21 (N + 8) = .inl (G.2.2.1, 6, .inl (fun _ => 0)) := by rw [eC21, va_up_ne _ _ (nz_zn N 8 9 (by decide))]; exact hC20_8
  have hC21_9 : C21 (N + 9) = .inl (G.2.2.1, 6, .inl (fun _ => 0)) := by rw [eC21]; exact va_up_self _ _ _
  have hfC21 : ∀ i, i < N → i ≠ h → C21 i = C i := fun i hi hne => by rw [eC21, va_up_ne _ _ (nz_zh hi 9)]; exact hfC20 i hi hne
  have ha21_h : ad21 h = (ad h) := by rw [ead21, va_up_ne _ _ (nz_zh hh 9)]; exact ha19_h
  have ha21_0 : ad21 N = q2 := by rw [ead21, va_up_ne _ _ (nz_z0 N 9 (by decide))]; exact ha19_0
  have ha21_1 : ad21 (N + 1) = q4 := by rw [ead21, va_up_ne _ _ (nz_zn N 1 9 (by decide))]; exact ha19_1
  have ha21_2 : ad21 (N + 2) = q6 := by rw [ead21, va_up_ne _ _ (nz_zn N 2 9 (by decide))]; exact ha19_2
  have ha21_3 : ad21 (N + 3) = q8 := by rw [ead21, va_up_ne _ _ (nz_zn N 3 9 (by decide))]; exact ha19_3
  have ha21_4 : ad21 (N + 4) = q11 := by rw [ead21, va_up_ne _ _ (nz_zn N 4 9 (by decide))]; exact ha19_4
  have ha21_5 : ad21 (N + 5) = q13 := by rw [ead21, va_up_ne _ _ (nz_zn N 5 9 (by decide))]; exact ha19_5
  have ha21_6 : ad21 (N + 6) = q15 := by rw [ead21, va_up_ne _ _ (nz_zn N 6 9 (by decide))]; exact ha19_6
  have ha21_7 : ad21 (N + 7) = q17 := by rw [ead21, va_up_ne _ _ (nz_zn N 7 9 (by decide))]; exact ha19_7
  have ha21_8 : ad21 (N + 8) = q19 := by rw [ead21, va_up_ne _ _ (nz_zn N 8 9 (by decide))]; exact ha19_8
  have ha21_9 : ad21 (N + 9) = q21 := by rw [ead21]; exact va_up_self _ _ _
  have hfa21 : ∀ i, i < N → ad21 i = ad i := fun i hi => by rw [ead21, va_up_ne _ _ (nz_zh hi 9)]; exact hfa19 i hi
  clear eC21 hfC20 hC20_h hC20_0 hC20_1 hC20_2 hC20_3 hC20_4 hC20_5 hC20_6 hC20_7 hC20_8 ead21 hfa19 ha19_h ha19_0 ha19_1 ha19_2 ha19_3 ha19_4 ha19_5 ha19_6 ha19_7 ha19_8 hw20
  refine x_putF (fs' := [.int 0, .int (nI 20), .ref q2, .ref q4, .ref q6, .ref q8, .int (nI 1), .ref q11, .ref q13, .ref q15, .int 0, .ref q17, .ref q19, .ref q21, .null, .null, .null, .null, .null, .null, .null, .null, .null, .null, .int 0, .int 0, .int 0, .null, .null, .null, .null, .null, .null, .int 0, .int 0]) S hw21 h ha21_h (lt_zh hh 10) hC21_h rfl in_X8 tyX8_ok nmX8 13 (by decide) wf_X8_47 rfl hini rfl rfl rfl (by show 13 < 35; decide) rfl dX8_init_95 (fun C22 H22 locs22 eC22 hw22 => ?_)
  have hC22_h : C22 h = .inr (8, [.int 0, .int (nI 20), .ref q2, .ref q4, .ref q6, .ref q8, .int (nI 1), .ref q11, .ref q13, .ref q15, .int 0, .ref q17, .ref q19, .ref q21, .null, .null, .null, .null, .null, .null, .null, .null, .null, .null, .int 0, .int 0, .int 0, .null, .null, .null, .null, .null, .null, .int 0, .int 0]) := by rw [eC22]; exact va_up_self _ _ _
  have hC22_0 : C22 N = .inl (G.2.2.1, 120, .inl (fun _ => 0)) := by rw [eC22, va_up_ne _ _ (Nat.ne_of_lt hh).symm]; exact hC21_0
  have hC22_1 : C22 (N + 1) = .inl (G.2.2.1, 120, .inl (fun _ => 0)) := by rw [eC22, va_up_ne _ _ (nz_zh hh 1).symm]; exact hC21_1
  have hC22_2 : C22 (N + 2) = .inl (G.2.2.1, 120, .inl (fun _ => 0)) := by rw [eC22, va_up_ne _ _ (nz_zh hh 2).symm]; exact hC21_2
  have hC22_3 : C22 (N + 3) = .inl (G.2.2.1, 120, .inl (fun _ => 0)) := by rw [eC22, va_up_ne _ _ (nz_zh hh 3).symm]; exact hC21_3
  have hC22_4 : C22 (N + 4) = .inl (G.2.2.1, 200, .inl (fun _ => 0)) := by rw [eC22, va_up_ne _ _ (nz_zh hh 4).symm]; exact hC21_4
  have hC22_5 : C22 (N + 5) = .inl (G.2.2.1, 200, .inl (fun _ => 0)) := by rw [eC22, va_up_ne _ _ (nz_zh hh 5).symm]; exact hC21_5
  have hC22_6 : C22 (N + 6) = .inl (G.2.2.1, 200, .inl (fun _ => 0)) := by rw [eC22, va_up_ne _ _ (nz_zh hh 6).symm]; exact hC21_6
  have hC22_7 : C22 (N + 7) = .inl (G.2.2.1, 6, .inl (fun _ => 0)) := by rw [eC22, va_up_ne _ _ (nz_zh hh 7).symm]; exact hC21_7
  have hC22_8 : C22 (N + 8) = .inl (G.2.2.1, 6, .inl (fun _ => 0)) := by rw [eC22, va_up_ne _ _ (nz_zh hh 8).symm]; exact hC21_8
  have hC22_9 : C22 (N + 9) = .inl (G.2.2.1, 6, .inl (fun _ => 0)) := by rw [eC22, va_up_ne _ _ (nz_zh hh 9).symm]; exact hC21_9
  have hfC22 : ∀ i, i < N → i ≠ h → C22 i = C i := fun i hi hne => by rw [eC22, va_up_ne _ _ hne]; exact hfC21 i hi hne
  clear eC22 hfC21 hC21_h hC21_0 hC21_1 hC21_2 hC21_3 hC21_4 hC21_5 hC21_6 hC21_7 hC21_8 hC21_9 hw21
  refine lv_aload_n S.1 S.2.1 dX8_init_98 rfl (lv_at hl 0 rfl) ?_
  refine lv_bipush (v := nI 48) S.1 S.2.1 dX8_init_99 (by decide) ?_
  refine x_newZ (N' := 48) S hw22 (by decide) (by decide) (by decide) (by decide) (by decide) rfl dX8_init_101 (fun q23 ad23 C23 H23 ead23 eC23 hw23 => ?_)
  have hC23_h : C23 h = .inr (8, [.int 0, .int (nI 20), .ref q2, .ref q4, .ref q6, .ref q8, .int (nI 1), .ref q11, .ref q13, .ref q15, .int 0, .ref q17, .ref q19, .ref q21, .null, .null, .null, .null, .null, .null, .null, .null, .null, .null, .int 0, .int 0, .int 0, .null, .null, .null, .null, .null, .null, .int 0, .int 0]) := by rw [eC23, va_up_ne _ _ (nz_zh hh 10)]; exact hC22_h
  have hC23_0 : C23 N = .inl (G.2.2.1, 120, .inl (fun _ => 0)) := by rw [eC23, va_up_ne _ _ (nz_z0 N 10 (by decide))]; exact hC22_0
  have hC23_1 : C23 (N + 1) = .inl (G.2.2.1, 120, .inl (fun _ => 0)) := by rw [eC23, va_up_ne _ _ (nz_zn N 1 10 (by decide))]; exact hC22_1
  have hC23_2 : C23 (N + 2) = .inl (G.2.2.1, 120, .inl (fun _ => 0)) := by rw [eC23, va_up_ne _ _ (nz_zn N 2 10 (by decide))]; exact hC22_2
  have hC23_3 : C23 (N + 3) = .inl (G.2.2.1, 120, .inl (fun _ => 0)) := by rw [eC23, va_up_ne _ _ (nz_zn N 3 10 (by decide))]; exact hC22_3
  have hC23_4 : C23 (N + 4) = .inl (G.2.2.1, 200, .inl (fun _ => 0)) := by rw [eC23, va_up_ne _ _ (nz_zn N 4 10 (by decide))]; exact hC22_4
  have hC23_5 : C23 (N + 5) = .inl (G.2.2.1, 200, .inl (fun _ => 0)) := by rw [eC23, va_up_ne _ _ (nz_zn N 5 10 (by decide))]; exact hC22_5
  have hC23_6 : C23 (N + 6) = .inl (G.2.2.1, 200, .inl (fun _ => 0)) := by rw [eC23, va_up_ne _ _ (nz_zn N 6 10 (by decide))]; exact hC22_6
  have hC23_7 : C23 (N + 7) = .inl (G.2.2.1, 6, .inl (fun _ => 0)) := by rw [eC23, va_up_ne _ _ (nz_zn N 7 10 (by decide))]; exact hC22_7
  have hC23_8 : C23 (N + 8) = .inl (G.2.2.1, 6, .inl (fun _ => 0)) := by rw [eC23, va_up_ne _ _ (nz_zn N 8 10 (by decide))]; exact hC22_8
  have hC23_9 : C23 (N + 9) = .inl (G.2.2.1, 6, .inl (fun _ => 0)) := by rw [eC23, va_up_ne _ _ (nz_zn N 9 10 (by decide))]; exact hC22_9
  have hC23_10 : C23 (N + 10) = .inl (G.2.2.2.1, 48, .inl (fun _ => 0)) := by rw [eC23]; exact va_up_self _ _ _
  have hfC23 : ∀ i, i < N → i ≠ h → C23 i = C i := fun i hi hne => by rw [eC23, va_up_ne _ _ (nz_zh hi 10)]; exact hfC22 i hi hne
  have ha23_h : ad23 h = (ad h) := by rw [ead23, va_up_ne _ _ (nz_zh hh 10)]; exact ha21_h
  have ha23_0 : ad23 N = q2 := by rw [ead23, va_up_ne _ _ (nz_z0 N 10 (by decide))]; exact ha21_0
  have ha23_1 : ad23 (N + 1) = q4 := by rw [ead23, va_up_ne _ _ (nz_zn N 1 10 (by decide))]; exact ha21_1
  have ha23_2 : ad23 (N + 2) = q6 := by rw [ead23, va_up_ne _ _ (nz_zn N 2 10 (by decide))]; exact ha21_2
  have ha23_3 : ad23 (N + 3) = q8 := by rw [ead23, va_up_ne _ _ (nz_zn N 3 10 (by decide))]; exact ha21_3
  have ha23_4 : ad23 (N + 4) = q11 := by rw [ead23, va_up_ne _ _ (nz_zn N 4 10 (by decide))]; exact ha21_4
  have ha23_5 : ad23 (N + 5) = q13 := by rw [ead23, va_up_ne _ _ (nz_zn N 5 10 (by decide))]; exact ha21_5
  have ha23_6 : ad23 (N + 6) = q15 := by rw [ead23, va_up_ne _ _ (nz_zn N 6 10 (by decide))]; exact ha21_6
  have ha23_7 : ad23 (N + 7) = q17 := by rw [ead23, va_up_ne _ _ (nz_zn N 7 10 (by decide))]; exact ha21_7
  have ha23_8 : ad23 (N + 8) = q19 := by rw [ead23, va_up_ne _ _ (nz_zn N 8 10 (by decide))]; exact ha21_8
  have ha23_9 : ad23 (N + 9) = q21 := by rw [ead23, va_up_ne _ _ (nz_zn N 9 10 (by decide))]; exact ha21_9
  have ha23_10 : ad23 (N + 10) = q23 := by rw [ead23]; exact va_up_self _ _ _
  have hfa23 : ∀ i, i < N → ad23 i = ad i := fun i hi => by rw [ead23, va_up_ne _ _ (nz_zh hi 10)]; exact hfa21 i hi
  clear eC23 hfC22 hC22_h hC22_0 hC22_1 hC22_2 hC22_3 hC22_4 hC22_5 hC22_6 hC22_7 hC22_8 hC22_9 ead23 hfa21 ha21_h ha21_0 ha21_1 ha21_2 ha21_3 ha21_4 ha21_5 ha21_6 ha21_7 ha21_8 ha21_9 hw22
  refine x_putF (fs' := [.int 0, .int (nI 20), .ref q2, .ref q4, .ref q6, .ref q8, .int (nI 1), .ref q11, .ref q13, .ref q15, .int 0, .ref q17, .ref q19, .ref q21, .ref q23, .null, .null, .null, .null, .null, .null, .null, .null, .null, .int 0, .int 0, .int 0, .null, .null, .null, .null, .null, .null, .int 0, .int 0]) S hw23 h ha23_h (lt_zh hh 11) hC23_h rfl in_X8 tyX8_ok nmX8 14 (by decide) wf_X8_50 rfl hini rfl rfl rfl (by show 14 < 35; decide) rfl dX8_init_103 (fun C24 H24 locs24 eC24 hw24 => ?_)
  have hC24_h : C24 h = .inr (8, [.int 0, .int (nI 20), .ref q2, .ref q4, .ref q6, .ref q8, .int (nI 1), .ref q11, .ref q13, .ref q15, .int 0, .ref q17, .ref q19, .ref q21, .ref q23, .null, .null, .null, .null, .null, .null, .null, .null, .null, .int 0, .int 0, .int 0, .null, .null, .null, .null, .null, .null, .int 0, .int 0]) := by rw [eC24]; exact va_up_self _ _ _
  have hC24_0 : C24 N = .inl (G.2.2.1, 120, .inl (fun _ => 0)) := by rw [eC24, va_up_ne _ _ (Nat.ne_of_lt hh).symm]; exact hC23_0
  have hC24_1 : C24 (N + 1) = .inl (G.2.2.1, 120, .inl (fun _ => 0)) := by rw [eC24, va_up_ne _ _ (nz_zh hh 1).symm]; exact hC23_1
  have hC24_2 : C24 (N + 2) = .inl (G.2.2.1, 120, .inl (fun _ => 0)) := by rw [eC24, va_up_ne _ _ (nz_zh hh 2).symm]; exact hC23_2
  have hC24_3 : C24 (N + 3) = .inl (G.2.2.1, 120, .inl (fun _ => 0)) := by rw [eC24, va_up_ne _ _ (nz_zh hh 3).symm]; exact hC23_3
  have hC24_4 : C24 (N + 4) = .inl (G.2.2.1, 200, .inl (fun _ => 0)) := by rw [eC24, va_up_ne _ _ (nz_zh hh 4).symm]; exact hC23_4
  have hC24_5 : C24 (N + 5) = .inl (G.2.2.1, 200, .inl (fun _ => 0)) := by rw [eC24, va_up_ne _ _ (nz_zh hh 5).symm]; exact hC23_5
  have hC24_6 : C24 (N + 6) = .inl (G.2.2.1, 200, .inl (fun _ => 0)) := by rw [eC24, va_up_ne _ _ (nz_zh hh 6).symm]; exact hC23_6
  have hC24_7 : C24 (N + 7) = .inl (G.2.2.1, 6, .inl (fun _ => 0)) := by rw [eC24, va_up_ne _ _ (nz_zh hh 7).symm]; exact hC23_7
  have hC24_8 : C24 (N + 8) = .inl (G.2.2.1, 6, .inl (fun _ => 0)) := by rw [eC24, va_up_ne _ _ (nz_zh hh 8).symm]; exact hC23_8
  have hC24_9 : C24 (N + 9) = .inl (G.2.2.1, 6, .inl (fun _ => 0)) := by rw [eC24, va_up_ne _ _ (nz_zh hh 9).symm]; exact hC23_9
  have hC24_10 : C24 (N + 10) = .inl (G.2.2.2.1, 48, .inl (fun _ => 0)) := by rw [eC24, va_up_ne _ _ (nz_zh hh 10).symm]; exact hC23_10
  have hfC24 : ∀ i, i < N → i ≠ h → C24 i = C i := fun i hi hne => by rw [eC24, va_up_ne _ _ hne]; exact hfC23 i hi hne
  clear eC24 hfC23 hC23_h hC23_0 hC23_1 hC23_2 hC23_3 hC23_4 hC23_5 hC23_6 hC23_7 hC23_8 hC23_9 hC23_10 hw23
  refine lv_aload_n S.1 S.2.1 dX8_init_106 rfl (lv_at hl 0 rfl) ?_
  refine lv_bipush (v := nI 48) S.1 S.2.1 dX8_init_107 (by decide) ?_
  refine x_newI (N' := 48) S hw24 (by decide) (by decide) (by decide) (by decide) (by decide) rfl dX8_init_109 (fun q25 ad25 C25 H25 ead25 eC25 hw25 => ?_)
  have hC25_h : C25 h = .inr (8, [.int 0, .int (nI 20), .ref q2, .ref q4, .ref q6, .ref q8, .int (nI 1), .ref q11, .ref q13, .ref q15, .int 0, .ref q17, .ref q19, .ref q21, .ref q23, .null, .null, .null, .null, .null, .null, .null, .null, .null, .int 0, .int 0, .int 0, .null, .null, .null, .null, .null, .null, .int 0, .int 0]) := by rw [eC25, va_up_ne _ _ (nz_zh hh 11)]; exact hC24_h
  have hC25_0 : C25 N = .inl (G.2.2.1, 120, .inl (fun _ => 0)) := by rw [eC25, va_up_ne _ _ (nz_z0 N 11 (by decide))]; exact hC24_0
  have hC25_1 : C25 (N + 1) = .inl (G.2.2.1, 120, .inl (fun _ => 0)) := by rw [eC25, va_up_ne _ _ (nz_zn N 1 11 (by decide))]; exact hC24_1
  have hC25_2 : C25 (N + 2) = .inl (G.2.2.1, 120, .inl (fun _ => 0)) := by rw [eC25, va_up_ne _ _ (nz_zn N 2 11 (by decide))]; exact hC24_2
  have hC25_3 : C25 (N + 3) = .inl (G.2.2.1, 120, .inl (fun _ => 0)) := by rw [eC25, va_up_ne _ _ (nz_zn N 3 11 (by decide))]; exact hC24_3
  have hC25_4 : C25 (N + 4) = .inl (G.2.2.1, 200, .inl (fun _ => 0)) := by rw [eC25, va_up_ne _ _ (nz_zn N 4 11 (by decide))]; exact hC24_4
  have hC25_5 : C25 (N + 5) = .inl (G.2.2.1, 200, .inl (fun _ => 0)) := by rw [eC25, va_up_ne _ _ (nz_zn N 5 11 (by decide))]; exact hC24_5
  have hC25_6 : C25 (N + 6) = .inl (G.2.2.1, 200, .inl (fun _ => 0)) := by rw [eC25, va_up_ne _ _ (nz_zn N 6 11 (by decide))]; exact hC24_6
  have hC25_7 : C25 (N + 7) = .inl (G.2.2.1, 6, .inl (fun _ => 0)) := by rw [eC25, va_up_ne _ _ (nz_zn N 7 11 (by decide))]; exact hC24_7
  have hC25_8 : C25 (N + 8) = .inl (G.2.2.1, 6, .inl (fun _ => 0)) := by rw [eC25, va_up_ne _ _ (nz_zn N 8 11 (by decide))]; exact hC24_8
  have hC25_9 : C25 (N + 9) = .inl (G.2.2.1, 6, .inl (fun _ => 0)) := by rw [eC25, va_up_ne _ _ (nz_zn N 9 11 (by decide))]; exact hC24_9
  have hC25_10 : C25 (N + 10) = .inl (G.2.2.2.1, 48, .inl (fun _ => 0)) := by rw [eC25, va_up_ne _ _ (nz_zn N 10 11 (by decide))]; exact hC24_10
  have hC25_11 : C25 (N + 11) = .inl (G.2.2.1, 48, .inl (fun _ => 0)) := by rw [eC25]; exact va_up_self _ _ _
  have hfC25 : ∀ i, i < N → i ≠ h → C25 i = C i := fun i hi hne => by rw [eC25, va_up_ne _ _ (nz_zh hi 11)]; exact hfC24 i hi hne
  have ha25_h : ad25 h = (ad h) := by rw [ead25, va_up_ne _ _ (nz_zh hh 11)]; exact ha23_h
  have ha25_0 : ad25 N = q2 := by rw [ead25, va_up_ne _ _ (nz_z0 N 11 (by decide))]; exact ha23_0
  have ha25_1 : ad25 (N + 1) = q4 := by rw [ead25, va_up_ne _ _ (nz_zn N 1 11 (by decide))]; exact ha23_1
  have ha25_2 : ad25 (N + 2) = q6 := by rw [ead25, va_up_ne _ _ (nz_zn N 2 11 (by decide))]; exact ha23_2
  have ha25_3 : ad25 (N + 3) = q8 := by rw [ead25, va_up_ne _ _ (nz_zn N 3 11 (by decide))]; exact ha23_3
  have ha25_4 : ad25 (N + 4) = q11 := by rw [ead25, va_up_ne _ _ (nz_zn N 4 11 (by decide))]; exact ha23_4
  have ha25_5 : ad25 (N + 5) = q13 := by rw [ead25, va_up_ne _ _ (nz_zn N 5 11 (by decide))]; exact ha23_5
  have ha25_6 : ad25 (N + 6) = q15 := by rw [ead25, va_up_ne _ _ (nz_zn N 6 11 (by decide))]; exact ha23_6
  have ha25_7 : ad25 (N + 7) = q17 := by rw [ead25, va_up_ne _ _ (nz_zn N 7 11 (by decide))]; exact ha23_7
  have ha25_8 : ad25 (N + 8) = q19 := by rw [ead25, va_up_ne _ _ (nz_zn N 8 11 (by decide))]; exact ha23_8
  have ha25_9 : ad25 (N + 9) = q21 := by rw [ead25, va_up_ne _ _ (nz_zn N 9 11 (by decide))]; exact ha23_9
  have ha25_10 : ad25 (N + 10) = q23 := by rw [ead25, va_up_ne _ _ (nz_zn N 10 11 (by decide))]; exact ha23_10
  have ha25_11 : ad25 (N + 11) = q25 := by rw [ead25]; exact va_up_self _ _ _
  have hfa25 : ∀ i, i < N → ad25 i = ad i := fun i hi => by rw [ead25, va_up_ne _ _ (nz_zh hi 11)]; exact hfa23 i hi
  clear eC25 hfC24 hC24_h hC24_0 hC24_1 hC24_2 hC24_3 hC24_4 hC24_5 hC24_6 hC24_7 hC24_8 hC24_9 hC24_10 ead25 hfa23 ha23_h ha23_0 ha23_1 ha23_2 ha23_3 ha23_4 ha23_5 ha23_6 ha23_7 ha23_8 ha23_9 ha23_10 hw24
  refine x_putF (fs' := [.int 0, .int (nI 20), .ref q2, .ref q4, .ref q6, .ref q8, .int (nI 1), .ref q11, .ref q13, .ref q15, .int 0, .ref q17, .ref q19, .ref q21, .ref q23, .ref q25, .null, .null, .null, .null, .null, .null, .null, .null, .int 0, .int 0, .int 0, .null, .null, .null, .null, .null, .null, .int 0, .int 0]) S hw25 h ha25_h (lt_zh hh 12) hC25_h rfl in_X8 tyX8_ok nmX8 15 (by decide) wf_X8_54 rfl hini rfl rfl rfl (by show 15 < 35; decide) rfl dX8_init_111 (fun C26 H26 locs26 eC26 hw26 => ?_)
  have hC26_h : C26 h = .inr (8, [.int 0, .int (nI 20), .ref q2, .ref q4, .ref q6, .ref q8, .int (nI 1), .ref q11, .ref q13, .ref q15, .int 0, .ref q17, .ref q19, .ref q21, .ref q23, .ref q25, .null, .null, .null, .null, .null, .null, .null, .null, .int 0, .int 0, .int 0, .null, .null, .null, .null, .null, .null, .int 0, .int 0]) := by rw [eC26]; exact va_up_self _ _ _
  have hC26_0 : C26 N = .inl (G.2.2.1, 120, .inl (fun _ => 0)) := by rw [eC26, va_up_ne _ _ (Nat.ne_of_lt hh).symm]; exact hC25_0
  have hC26_1 : C26 (N + 1) = .inl (G.2.2.1, 120, .inl (fun _ => 0)) := by rw [eC26, va_up_ne _ _ (nz_zh hh 1).symm]; exact hC25_1
  have hC26_2 : C26 (N + 2) = .inl (G.2.2.1, 120, .inl (fun _ => 0)) := by rw [eC26, va_up_ne _ _ (nz_zh hh 2).symm]; exact hC25_2
  have hC26_3 : C26 (N + 3) = .inl (G.2.2.1, 120, .inl (fun _ => 0)) := by rw [eC26, va_up_ne _ _ (nz_zh hh 3).symm]; exact hC25_3
  have hC26_4 : C26 (N + 4) = .inl (G.2.2.1, 200, .inl (fun _ => 0)) := by rw [eC26, va_up_ne _ _ (nz_zh hh 4).symm]; exact hC25_4
  have hC26_5 : C26 (N + 5) = .inl (G.2.2.1, 200, .inl (fun _ => 0)) := by rw [eC26, va_up_ne _ _ (nz_zh hh 5).symm]; exact hC25_5
  have hC26_6 : C26 (N + 6) = .inl (G.2.2.1, 200, .inl (fun _ => 0)) := by rw [eC26, va_up_ne _ _ (nz_zh hh 6).symm]; exact hC25_6
  have hC26_7 : C26 (N + 7) = .inl (G.2.2.1, 6, .inl (fun _ => 0)) := by rw [eC26, va_up_ne _ _ (nz_zh hh 7).symm]; exact hC25_7
  have hC26_8 : C26 (N + 8) = .inl (G.2.2.1, 6, .inl (fun _ => 0)) := by rw [eC26, va_up_ne _ _ (nz_zh hh 8).symm]; exact hC25_8
  have hC26_9 : C26 (N + 9) = .inl (G.2.2.1, 6, .inl (fun _ => 0)) := by rw [eC26, va_up_ne _ _ (nz_zh hh 9).symm]; exact hC25_9
  have hC26_10 : C26 (N + 10) = .inl (G.2.2.2.1, 48, .inl (fun _ => 0)) := by rw [eC26, va_up_ne _ _ (nz_zh hh 10).symm]; exact hC25_10
  have hC26_11 : C26 (N + 11) = .inl (G.2.2.1, 48, .inl (fun _ => 0)) := by rw [eC26, va_up_ne _ _ (nz_zh hh 11).symm]; exact hC25_11
  have hfC26 : ∀ i, i < N → i ≠ h → C26 i = C i := fun i hi hne => by rw [eC26, va_up_ne _ _ hne]; exact hfC25 i hi hne
  clear eC26 hfC25 hC25_h hC25_0 hC25_1 hC25_2 hC25_3 hC25_4 hC25_5 hC25_6 hC25_7 hC25_8 hC25_9 hC25_10 hC25_11 hw25
  refine lv_aload_n S.1 S.2.1 dX8_init_114 rfl (lv_at hl 0 rfl) ?_
  refine lv_bipush (v := nI 48) S.1 S.2.1 dX8_init_115 (by decide) ?_
  refine x_newI (N' := 48) S hw26 (by decide) (by decide) (by decide) (by decide) (by decide) rfl dX8_init_117 (fun q27 ad27 C27 H27 ead27 eC27 hw27 => ?_)
  have hC27_h : C27 h = .inr (8, [.int 0, .int (nI 20), .ref q2, .ref q4, .ref q6, .ref q8, .int (nI 1), .ref q11, .ref q13, .ref q15, .int 0, .ref q17, .ref q19, .ref q21, .ref q23, .ref q25, .null, .null, .null, .null, .null, .null, .null, .null, .int 0, .int 0, .int 0, .null, .null, .null, .null, .null, .null, .int 0, .int 0]) := by rw [eC27, va_up_ne _ _ (nz_zh hh 12)]; exact hC26_h
  have hC27_0 : C27 N = .inl (G.2.2.1, 120, .inl (fun _ => 0)) := by rw [eC27, va_up_ne _ _ (nz_z0 N 12 (by decide))]; exact hC26_0
  have hC27_1 : C27 (N + 1) = .inl (G.2.2.1, 120, .inl (fun _ => 0)) := by rw [eC27, va_up_ne _ _ (nz_zn N 1 12 (by decide))]; exact hC26_1
  have hC27_2 : C27 (N + 2) = .inl (G.2.2.1, 120, .inl (fun _ => 0)) := by rw [eC27, va_up_ne _ _ (nz_zn N 2 12 (by decide))]; exact hC26_2
  have hC27_3 : C27 (N + 3) = .inl (G.2.2.1, 120, .inl (fun _ => 0)) := by rw [eC27, va_up_ne _ _ (nz_zn N 3 12 (by decide))]; exact hC26_3
  have hC27_4 : C27 (N + 4) = .inl (G.2.2.1, 200, .inl (fun _ => 0)) := by rw [eC27, va_up_ne _ _ (nz_zn N 4 12 (by decide))]; exact hC26_4
  have hC27_5 : C27 (N + 5) = .inl (G.2.2.1, 200, .inl (fun _ => 0)) := by rw [eC27, va_up_ne _ _ (nz_zn N 5 12 (by decide))]; exact hC26_5
  have hC27_6 : C27 (N + 6) = .inl (G.2.2.1, 200, .inl (fun _ => 0)) := by rw [eC27, va_up_ne _ _ (nz_zn N 6 12 (by decide))]; exact hC26_6
  have hC27_7 : C27 (N + 7) = .inl (G.2.2.1, 6, .inl (fun _ => 0)) := by rw [eC27, va_up_ne _ _ (nz_zn N 7 12 (by decide))]; exact hC26_7
  have hC27_8 : C27 (N + 8) = .inl (G.2.2.1, 6, .inl (fun _ => 0)) := by rw [eC27, va_up_ne _ _ (nz_zn N 8 12 (by decide))]; exact hC26_8
  have hC27_9 : C27 (N + 9) = .inl (G.2.2.1, 6, .inl (fun _ => 0)) := by rw [eC27, va_up_ne _ _ (nz_zn N 9 12 (by decide))]; exact hC26_9
  have hC27_10 : C27 (N + 10) = .inl (G.2.2.2.1, 48, .inl (fun _ => 0)) := by rw [eC27, va_up_ne _ _ (nz_zn N 10 12 (by decide))]; exact hC26_10
  have hC27_11 : C27 (N + 11) = .inl (G.2.2.1, 48, .inl (fun _ => 0)) := by rw [eC27, va_up_ne _ _ (nz_zn N 11 12 (by decide))]; exact hC26_11
  have hC27_12 : C27 (N + 12) = .inl (G.2.2.1, 48, .inl (fun _ => 0)) := by rw [eC27]; exact va_up_self _ _ _
  have hfC27 : ∀ i, i < N → i ≠ h → C27 i = C i := fun i hi hne => by rw [eC27, va_up_ne _ _ (nz_zh hi 12)]; exact hfC26 i hi hne
  have ha27_h : ad27 h = (ad h) := by rw [ead27, va_up_ne _ _ (nz_zh hh 12)]; exact ha25_h
  have ha27_0 : ad27 N = q2 := by rw [ead27, va_up_ne _ _ (nz_z0 N 12 (by decide))]; exact ha25_0
  have ha27_1 : ad27 (N + 1) = q4 := by rw [ead27, va_up_ne _ _ (nz_zn N 1 12 (by decide))]; exact ha25_1
  have ha27_2 : ad27 (N + 2) = q6 := by rw [ead27, va_up_ne _ _ (nz_zn N 2 12 (by decide))]; exact ha25_2
  have ha27_3 : ad27 (N + 3) = q8 := by rw [ead27, va_up_ne _ _ (nz_zn N 3 12 (by decide))]; exact ha25_3
  have ha27_4 : ad27 (N + 4) = q11 := by rw [ead27, va_up_ne _ _ (nz_zn N 4 12 (by decide))]; exact ha25_4
  have ha27_5 : ad27 (N + 5) = q13 := by rw [ead27, va_up_ne _ _ (nz_zn N 5 12 (by decide))]; exact ha25_5
  have ha27_6 : ad27 (N + 6) = q15 := by rw [ead27, va_up_ne _ _ (nz_zn N 6 12 (by decide))]; exact ha25_6
  have ha27_7 : ad27 (N + 7) = q17 := by rw [ead27, va_up_ne _ _ (nz_zn N 7 12 (by decide))]; exact ha25_7
  have ha27_8 : ad27 (N + 8) = q19 := by rw [ead27, va_up_ne _ _ (nz_zn N 8 12 (by decide))]; exact ha25_8
  have ha27_9 : ad27 (N + 9) = q21 := by rw [ead27, va_up_ne _ _ (nz_zn N 9 12 (by decide))]; exact ha25_9
  have ha27_10 : ad27 (N + 10) = q23 := by rw [ead27, va_up_ne _ _ (nz_zn N 10 12 (by decide))]; exact ha25_10
  have ha27_11 : ad27 (N + 11) = q25 := by rw [ead27, va_up_ne _ _ (nz_zn N 11 12 (by decide))]; exact ha25_11
  have ha27_12 : ad27 (N + 12) = q27 := by rw [ead27]; exact va_up_self _ _ _
  have hfa27 : ∀ i, i < N → ad27 i = ad i := fun i hi => by rw [ead27, va_up_ne _ _ (nz_zh hi 12)]; exact hfa25 i hi
  clear eC27 hfC26 hC26_h hC26_0 hC26_1 hC26_2 hC26_3 hC26_4 hC26_5 hC26_6 hC26_7 hC26_8 hC26_9 hC26_10 hC26_11 ead27 hfa25 ha25_h ha25_0 ha25_1 ha25_2 ha25_3 ha25_4 ha25_5 ha25_6 ha25_7 ha25_8 ha25_9 ha25_10 ha25_11 hw26
  refine x_putF (fs' := [.int 0, .int (nI 20), .ref q2, .ref q4, .ref q6, .ref q8, .int (nI 1), .ref q11, .ref q13, .ref q15, .int 0, .ref q17, .ref q19, .ref q21, .ref q23, .ref q25, .ref q27, .null, .null, .null, .null, .null, .null, .null, .int 0, .int 0, .int 0, .null, .null, .null, .null, .null, .null, .int 0, .int 0]) S hw27 h ha27_h (lt_zh hh 13) hC27_h rfl in_X8 tyX8_ok nmX8 16 (by decide) wf_X8_57 rfl hini rfl rfl rfl (by show 16 < 35; decide) rfl dX8_init_119 (fun C28 H28 locs28 eC28 hw28 => ?_)
  have hC28_h : C28 h = .inr (8, [.int 0, .int (nI 20), .ref q2, .ref q4, .ref q6, .ref q8, .int (nI 1), .ref q11, .ref q13, .ref q15, .int 0, .ref q17, .ref q19, .ref q21, .ref q23, .ref q25, .ref q27, .null, .null, .null, .null, .null, .null, .null, .int 0, .int 0, .int 0, .null, .null, .null, .null, .null, .null, .int 0, .int 0]) := by rw [eC28]; exact va_up_self _ _ _
  have hC28_0 : C28 N = .inl (G.2.2.1, 120, .inl (fun _ => 0)) := by rw [eC28, va_up_ne _ _ (Nat.ne_of_lt hh).symm]; exact hC27_0
  have hC28_1 : C28 (N + 1) = .inl (G.2.2.1, 120, .inl (fun _ => 0)) := by rw [eC28, va_up_ne _ _ (nz_zh hh 1).symm]; exact hC27_1
  have hC28_2 : C28 (N + 2) = .inl (G.2.2.1, 120, .inl (fun _ => 0)) := by rw [eC28, va_up_ne _ _ (nz_zh hh 2).symm]; exact hC27_2
  have hC28_3 : C28 (N + 3) = .inl (G.2.2.1, 120, .inl (fun _ => 0)) := by rw [eC28, va_up_ne _ _ (nz_zh hh 3).symm]; exact hC27_3
  have hC28_4 : C28 (N + 4) = .inl (G.2.2.1, 200, .inl (fun _ => 0)) := by rw [eC28, va_up_ne _ _ (nz_zh hh 4).symm]; exact hC27_4
  have hC28_5 : C28 (N + 5) = .inl (G.2.2.1, 200, .inl (fun _ => 0)) := by rw [eC28, va_up_ne _ _ (nz_zh hh 5).symm]; exact hC27_5
  have hC28_6 : C28 (N + 6) = .inl (G.2.2.1, 200, .inl (fun _ => 0)) := by rw [eC28, va_up_ne _ _ (nz_zh hh 6).symm]; exact hC27_6
  have hC28_7 : C28 (N + 7) = .inl (G.2.2.1, 6, .inl (fun _ => 0)) := by rw [eC28, va_up_ne _ _ (nz_zh hh 7).symm]; exact hC27_7
  have hC28_8 : C28 (N + 8) = .inl (G.2.2.1, 6, .inl (fun _ => 0)) := by rw [eC28, va_up_ne _ _ (nz_zh hh 8).symm]; exact hC27_8
  have hC28_9 : C28 (N + 9) = .inl (G.2.2.1, 6, .inl (fun _ => 0)) := by rw [eC28, va_up_ne _ _ (nz_zh hh 9).symm]; exact hC27_9
  have hC28_10 : C28 (N + 10) = .inl (G.2.2.2.1, 48, .inl (fun _ => 0)) := by rw [eC28, va_up_ne _ _ (nz_zh hh 10).symm]; exact hC27_10
  have hC28_11 : C28 (N + 11) = .inl (G.2.2.1, 48, .inl (fun _ => 0)) := by rw [eC28, va_up_ne _ _ (nz_zh hh 11).symm]; exact hC27_11
  have hC28_12 : C28 (N + 12) = .inl (G.2.2.1, 48, .inl (fun _ => 0)) := by rw [eC28, va_up_ne _ _ (nz_zh hh 12).symm]; exact hC27_12
  have hfC28 : ∀ i, i < N → i ≠ h → C28 i = C i := fun i hi hne => by rw [eC28, va_up_ne _ _ hne]; exact hfC27 i hi hne
  clear eC28 hfC27 hC27_h hC27_0 hC27_1 hC27_2 hC27_3 hC27_4 hC27_5 hC27_6 hC27_7 hC27_8 hC27_9 hC27_10 hC27_11 hC27_12 hw27
  refine lv_aload_n S.1 S.2.1 dX8_init_122 rfl (lv_at hl 0 rfl) ?_
  refine lv_bipush (v := nI 48) S.1 S.2.1 dX8_init_123 (by decide) ?_
  refine x_newI (N' := 48) S hw28 (by decide) (by decide) (by decide) (by decide) (by decide) rfl dX8_init_125 (fun q29 ad29 C29 H29 ead29 eC29 hw29 => ?_)
  have hC29_h : C29 h = .inr (8, [.int 0, .int (nI 20), .ref q2, .ref q4, .ref q6, .ref q8, .int (nI 1), .ref q11, .ref q13, .ref q15, .int 0, .ref q17, .ref q19, .ref q21, .ref q23, .ref q25, .ref q27, .null, .null, .null, .null, .null, .null, .null, .int 0, .int 0, .int 0, .null, .null, .null, .null, .null, .null, .int 0, .int 0]) := by rw [eC29, va_up_ne _ _ (nz_zh hh 13)]; exact hC28_h
  have hC29_0 : C29 N = .inl (G.2.2.1, 120, .inl (fun _ => 0)) := by rw [eC29, va_up_ne _ _ (nz_z0 N 13 (by decide))]; exact hC28_0
  have hC29_1 : C29 (N + 1) = .inl (G.2.2.1, 120, .inl (fun _ => 0)) := by rw [eC29, va_up_ne _ _ (nz_zn N 1 13 (by decide))]; exact hC28_1
  have hC29_2 : C29 (N + 2) = .inl (G.2.2.1, 120, .inl (fun _ => 0)) := by rw [eC29, va_up_ne _ _ (nz_zn N 2 13 (by decide))]; exact hC28_2
  have hC29_3 : C29 (N + 3) = .inl (G.2.2.1, 120, .inl (fun _ => 0)) := by rw [eC29, va_up_ne _ _ (nz_zn N 3 13 (by decide))]; exact hC28_3
  have hC29_4 : C29 (N + 4) = .inl (G.2.2.1, 200, .inl (fun _ => 0)) := by rw [eC29, va_up_ne _ _ (nz_zn N 4 13 (by decide))]; exact hC28_4
  have hC29_5 : C29 (N + 5) = .inl (G.2.2.1, 200, .inl (fun _ => 0)) := by rw [eC29, va_up_ne _ _ (nz_zn N 5 13 (by decide))]; exact hC28_5
  have hC29_6 : C29 (N + 6) = .inl (G.2.2.1, 200, .inl (fun _ => 0)) := by rw [eC29, va_up_ne _ _ (nz_zn N 6 13 (by decide))]; exact hC28_6
  have hC29_7 : C29 (N + 7) = .inl (G.2.2.1, 6, .inl (fun _ => 0)) := by rw [eC29, va_up_ne _ _ (nz_zn N 7 13 (by decide))]; exact hC28_7
  have hC29_8 : C29 (N + 8) = .inl (G.2.2.1, 6, .inl (fun _ => 0)) := by rw [eC29, va_up_ne _ _ (nz_zn N 8 13 (by decide))]; exact hC28_8
  have hC29_9 : C29 (N + 9) = .inl (G.2.2.1, 6, .inl (fun _ => 0)) := by rw [eC29, va_up_ne _ _ (nz_zn N 9 13 (by decide))]; exact hC28_9
  have hC29_10 : C29 (N + 10) = .inl (G.2.2.2.1, 48, .inl (fun _ => 0)) := by rw [eC29, va_up_ne _ _ (nz_zn N 10 13 (by decide))]; exact hC28_10
  have hC29_11 : C29 (N + 11) = .inl (G.2.2.1, 48, .inl (fun _ => 0)) := by rw [eC29, va_up_ne _ _ (nz_zn N 11 13 (by decide))]; exact hC28_11
  have hC29_12 : C29 (N + 12) = .inl (G.2.2.1, 48, .inl (fun _ => 0)) := by rw [eC29, va_up_ne _ _ (nz_zn N 12 13 (by decide))]; exact hC28_12
  have hC29_13 : C29 (N + 13) = .inl (G.2.2.1, 48, .inl (fun _ => 0)) := by rw [eC29]; exact va_up_self _ _ _
  have hfC29 : ∀ i, i < N → i ≠ h → C29 i = C i := fun i hi hne => by rw [eC29, va_up_ne _ _ (nz_zh hi 13)]; exact hfC28 i hi hne
  have ha29_h : ad29 h = (ad h) := by rw [ead29, va_up_ne _ _ (nz_zh hh 13)]; exact ha27_h
  have ha29_0 : ad29 N = q2 := by rw [ead29, va_up_ne _ _ (nz_z0 N 13 (by decide))]; exact ha27_0
  have ha29_1 : ad29 (N + 1) = q4 := by rw [ead29, va_up_ne _ _ (nz_zn N 1 13 (by decide))]; exact ha27_1
  have ha29_2 : ad29 (N + 2) = q6 := by rw [ead29, va_up_ne _ _ (nz_zn N 2 13 (by decide))]; exact ha27_2
  have ha29_3 : ad29 (N + 3) = q8 := by rw [ead29, va_up_ne _ _ (nz_zn N 3 13 (by decide))]; exact ha27_3
  have ha29_4 : ad29 (N + 4) = q11 := by rw [ead29, va_up_ne _ _ (nz_zn N 4 13 (by decide))]; exact ha27_4
  have ha29_5 : ad29 (N + 5) = q13 := by rw [ead29, va_up_ne _ _ (nz_zn N 5 13 (by decide))]; exact ha27_5
  have ha29_6 : ad29 (N + 6) = q15 := by rw [ead29, va_up_ne _ _ (nz_zn N 6 13 (by decide))]; exact ha27_6
  have ha29_7 : ad29 (N + 7) = q17 := by rw [ead29, va_up_ne _ _ (nz_zn N 7 13 (by decide))]; exact ha27_7
  have ha29_8 : ad29 (N + 8) = q19 := by rw [ead29, va_up_ne _ _ (nz_zn N 8 13 (by decide))]; exact ha27_8
  have ha29_9 : ad29 (N + 9) = q21 := by rw [ead29, va_up_ne _ _ (nz_zn N 9 13 (by decide))]; exact ha27_9
  have ha29_10 : ad29 (N + 10) = q23 := by rw [ead29, va_up_ne _ _ (nz_zn N 10 13 (by decide))]; exact ha27_10
  have ha29_11 : ad29 (N + 11) = q25 := by rw [ead29, va_up_ne _ _ (nz_zn N 11 13 (by decide))]; exact ha27_11
  have ha29_12 : ad29 (N + 12) = q27 := by rw [ead29, va_up_ne _ _ (nz_zn N 12 13 (by decide))]; exact ha27_12
  have ha29_13 : ad29 (N + 13) = q29 := by rw [ead29]; exact va_up_self _ _ _
  have hfa29 : ∀ i, i < N → ad29 i = ad i := fun i hi => by rw [ead29, va_up_ne _ _ (nz_zh hi 13)]; exact hfa27 i hi
  clear eC29 hfC28 hC28_h hC28_0 hC28_1 hC28_2 hC28_3 hC28_4 hC28_5 hC28_6 hC28_7 hC28_8 hC28_9 hC28_10 hC28_11 hC28_12 ead29 hfa27 ha27_h ha27_0 ha27_1 ha27_2 ha27_3 ha27_4 ha27_5 ha27_6 ha27_7 ha27_8 ha27_9 ha27_10 ha27_11 ha27_12 hw28
  refine x_putF (fs' := [.int 0, .int (nI 20), .ref q2, .ref q4, .ref q6, .ref q8, .int (nI 1), .ref q11, .ref q13, .ref q15, .int 0, .ref q17, .ref q19, .ref q21, .ref q23, .ref q25, .ref q27, .ref q29, .null, .null, .null, .null, .null, .null, .int 0, .int 0, .int 0, .null, .null, .null, .null, .null, .null, .int 0, .int 0]) S hw29 h ha29_h (lt_zh hh 14) hC29_h rfl in_X8 tyX8_ok nmX8 17 (by decide) wf_X8_60 rfl hini rfl rfl rfl (by show 17 < 35; decide) rfl dX8_init_127 (fun C30 H30 locs30 eC30 hw30 => ?_)
  have hC30_h : C30 h = .inr (8, [.int 0, .int (nI 20), .ref q2, .ref q4, .ref q6, .ref q8, .int (nI 1), .ref q11, .ref q13, .ref q15, .int 0, .ref q17, .ref q19, .ref q21, .ref q23, .ref q25, .ref q27, .ref q29, .null, .null, .null, .null, .null, .null, .int 0, .int 0, .int 0, .null, .null, .null, .null, .null, .null, .int 0, .int 0]) := by rw [eC30]; exact va_up_self _ _ _
  have hC30_0 : C30 N = .inl (G.2.2.1, 120, .inl (fun _ => 0)) := by rw [eC30, va_up_ne _ _ (Nat.ne_of_lt hh).symm]; exact hC29_0
  have hC30_1 : C30 (N + 1) = .inl (G.2.2.1, 120, .inl (fun _ => 0)) := by rw [eC30, va_up_ne _ _ (nz_zh hh 1).symm]; exact hC29_1
  have hC30_2 : C30 (N + 2) = .inl (G.2.2.1, 120, .inl (fun _ => 0)) := by rw [eC30, va_up_ne _ _ (nz_zh hh 2).symm]; exact hC29_2
  have hC30_3 : C30 (N + 3) = .inl (G.2.2.1, 120, .inl (fun _ => 0)) := by rw [eC30, va_up_ne _ _ (nz_zh hh 3).symm]; exact hC29_3
  have hC30_4 : C30 (N + 4) = .inl (G.2.2.1, 200, .inl (fun _ => 0)) := by rw [eC30, va_up_ne _ _ (nz_zh hh 4).symm]; exact hC29_4
  have hC30_5 : C30 (N + 5) = .inl (G.2.2.1, 200, .inl (fun _ => 0)) := by rw [eC30, va_up_ne _ _ (nz_zh hh 5).symm]; exact hC29_5
  have hC30_6 : C30 (N + 6) = .inl (G.2.2.1, 200, .inl (fun _ => 0)) := by rw [eC30, va_up_ne _ _ (nz_zh hh 6).symm]; exact hC29_6
  have hC30_7 : C30 (N + 7) = .inl (G.2.2.1, 6, .inl (fun _ => 0)) := by rw [eC30, va_up_ne _ _ (nz_zh hh 7).symm]; exact hC29_7
  have hC30_8 : C30 (N + 8) = .inl (G.2.2.1, 6, .inl (fun _ => 0)) := by rw [eC30, va_up_ne _ _ (nz_zh hh 8).symm]; exact hC29_8
  have hC30_9 : C30 (N + 9) = .inl (G.2.2.1, 6, .inl (fun _ => 0)) := by rw [eC30, va_up_ne _ _ (nz_zh hh 9).symm]; exact hC29_9
  have hC30_10 : C30 (N + 10) = .inl (G.2.2.2.1, 48, .inl (fun _ => 0)) := by rw [eC30, va_up_ne _ _ (nz_zh hh 10).symm]; exact hC29_10
  have hC30_11 : C30 (N + 11) = .inl (G.2.2.1, 48, .inl (fun _ => 0)) := by rw [eC30, va_up_ne _ _ (nz_zh hh 11).symm]; exact hC29_11
  have hC30_12 : C30 (N + 12) = .inl (G.2.2.1, 48, .inl (fun _ => 0)) := by rw [eC30, va_up_ne _ _ (nz_zh hh 12).symm]; exact hC29_12
  have hC30_13 : C30 (N + 13) = .inl (G.2.2.1, 48, .inl (fun _ => 0)) := by rw [eC30, va_up_ne _ _ (nz_zh hh 13).symm]; exact hC29_13
  have hfC30 : ∀ i, i < N → i ≠ h → C30 i = C i := fun i hi hne => by rw [eC30, va_up_ne _ _ hne]; exact hfC29 i hi hne
  clear eC30 hfC29 hC29_h hC29_0 hC29_1 hC29_2 hC29_3 hC29_4 hC29_5 hC29_6 hC29_7 hC29_8 hC29_9 hC29_10 hC29_11 hC29_12 hC29_13 hw29
  refine lv_aload_n S.1 S.2.1 dX8_init_130 rfl (lv_at hl 0 rfl) ?_
  refine lv_bipush (v := nI 48) S.1 S.2.1 dX8_init_131 (by decide) ?_
  refine x_newI (N' := 48) S hw30 (by decide) (by decide) (by decide) (by decide) (by decide) rfl dX8_init_133 (fun q31 ad31 C31 H31 ead31 eC31 hw31 => ?_)
  have hC31_h : C31 h = .inr (8, [.int 0, .int (nI 20), .ref q2, .ref q4, .ref q6, .ref q8, .int (nI 1), .ref q11, .ref q13, .ref q15, .int 0, .ref q17, .ref q19, .ref q21, .ref q23, .ref q25, .ref q27, .ref q29, .null, .null, .null, .null, .null, .null, .int 0, .int 0, .int 0, .null, .null, .null, .null, .null, .null, .int 0, .int 0]) := by rw [eC31, va_up_ne _ _ (nz_zh hh 14)]; exact hC30_h
  have hC31_0 : C31 N = .inl (G.2.2.1, 120, .inl (fun _ => 0)) := by rw [eC31, va_up_ne _ _ (nz_z0 N 14 (by decide))]; exact hC30_0
  have hC31_1 : C31 (N + 1) = .inl (G.2.2.1, 120, .inl (fun _ => 0)) := by rw [eC31, va_up_ne _ _ (nz_zn N 1 14 (by decide))]; exact hC30_1
  have hC31_2 : C31 (N + 2) = .inl (G.2.2.1, 120, .inl (fun _ => 0)) := by rw [eC31, va_up_ne _ _ (nz_zn N 2 14 (by decide))]; exact hC30_2
  have hC31_3 : C31 (N + 3) = .inl (G.2.2.1, 120, .inl (fun _ => 0)) := by rw [eC31, va_up_ne _ _ (nz_zn N 3 14 (by decide))]; exact hC30_3
  have hC31_4 : C31 (N + 4) = .inl (G.2.2.1, 200, .inl (fun _ => 0)) := by rw [eC31, va_up_ne _ _ (nz_zn N 4 14 (by decide))]; exact hC30_4
  have hC31_5 : C31 (N + 5) = .inl (G.2.2.1, 200, .inl (fun _ => 0)) := by rw [eC31, va_up_ne _ _ (nz_zn N 5 14 (by decide))]; exact hC30_5
  have hC31_6 : C31 (N + 6) = .inl (G.2.2.1, 200, .inl (fun _ => 0)) := by rw [eC31, va_up_ne _ _ (nz_zn N 6 14 (by decide))]; exact hC30_6
  have hC31_7 : C31 (N + 7) = .inl (G.2.2.1, 6, .inl (fun _ => 0)) := by rw [eC31, va_up_ne _ _ (nz_zn N 7 14 (by decide))]; exact hC30_7
  have hC31_8 : C31 (N + 8) = .inl (G.2.2.1, 6, .inl (fun _ => 0)) := by rw [eC31, va_up_ne _ _ (nz_zn N 8 14 (by decide))]; exact hC30_8
  have hC31_9 : C31 (N + 9) = .inl (G.2.2.1, 6, .inl (fun _ => 0)) := by rw [eC31, va_up_ne _ _ (nz_zn N 9 14 (by decide))]; exact hC30_9
  have hC31_10 : C31 (N + 10) = .inl (G.2.2.2.1, 48, .inl (fun _ => 0)) := by rw [eC31, va_up_ne _ _ (nz_zn N 10 14 (by decide))]; exact hC30_10
  have hC31_11 : C31 (N + 11) = .inl (G.2.2.1, 48, .inl (fun _ => 0)) := by rw [eC31, va_up_ne _ _ (nz_zn N 11 14 (by decide))]; exact hC30_11
  have hC31_12 : C31 (N + 12) = .inl (G.2.2.1, 48, .inl (fun _ => 0)) := by rw [eC31, va_up_ne _ _ (nz_zn N 12 14 (by decide))]; exact hC30_12
  have hC31_13 : C31 (N + 13) = .inl (G.2.2.1, 48, .inl (fun _ => 0)) := by rw [eC31, va_up_ne _ _ (nz_zn N 13 14 (by decide))]; exact hC30_13
  have hC31_14 : C31 (N + 14) = .inl (G.2.2.1, 48, .inl (fun _ => 0)) := by rw [eC31]; exact va_up_self _ _ _
  have hfC31 : ∀ i, i < N → i ≠ h → C31 i = C i := fun i hi hne => by rw [eC31, va_up_ne _ _ (nz_zh hi 14)]; exact hfC30 i hi hne
  have ha31_h : ad31 h = (ad h) := by rw [ead31, va_up_ne _ _ (nz_zh hh 14)]; exact ha29_h
  have ha31_0 : ad31 N = q2 := by rw [ead31, va_up_ne _ _ (nz_z0 N 14 (by decide))]; exact ha29_0
  have ha31_1 : ad31 (N + 1) = q4 := by rw [ead31, va_up_ne _ _ (nz_zn N 1 14 (by decide))]; exact ha29_1
  have ha31_2 : ad31 (N + 2) = q6 := by rw [ead31, va_up_ne _ _ (nz_zn N 2 14 (by decide))]; exact ha29_2
  have ha31_3 : ad31 (N + 3) = q8 := by rw [ead31, va_up_ne _ _ (nz_zn N 3 14 (by decide))]; exact ha29_3
  have ha31_4 : ad31 (N + 4) = q11 := by rw [ead31, va_up_ne _ _ (nz_zn N 4 14 (by decide))]; exact ha29_4
  have ha31_5 : ad31 (N + 5) = q13 := by rw [ead31, va_up_ne _ _ (nz_zn N 5 14 (by decide))]; exact ha29_5
  have ha31_6 : ad31 (N + 6) = q15 := by rw [ead31, va_up_ne _ _ (nz_zn N 6 14 (by decide))]; exact ha29_6
  have ha31_7 : ad31 (N + 7) = q17 := by rw [ead31, va_up_ne _ _ (nz_zn N 7 14 (by decide))]; exact ha29_7
  have ha31_8 : ad31 (N + 8) = q19 := by rw [ead31, va_up_ne _ _ (nz_zn N 8 14 (by decide))]; exact ha29_8
  have ha31_9 : ad31 (N + 9) = q21 := by rw [ead31, va_up_ne _ _ (nz_zn N 9 14 (by decide))]; exact ha29_9
  have ha31_10 : ad31 (N + 10) = q23 := by rw [ead31, va_up_ne _ _ (nz_zn N 10 14 (by decide))]; exact ha29_10
  have ha31_11 : ad31 (N + 11) = q25 := by rw [ead31, va_up_ne _ _ (nz_zn N 11 14 (by decide))]; exact ha29_11
  have ha31_12 : ad31 (N + 12) = q27 := by rw [ead31, va_up_ne _ _ (nz_zn N 12 14 (by decide))]; exact ha29_12
  have ha31_13 : ad31 (N + 13) = q29 := by rw [ead31, va_up_ne _ _ (nz_zn N 13 14 (by decide))]; exact ha29_13
  have ha31_14 : ad31 (N + 14) = q31 := by rw [ead31]; exact va_up_self _ _ _
  have hfa31 : ∀ i, i < N → ad31 i = ad i := fun i hi => by rw [ead31, va_up_ne _ _ (nz_zh hi 14)]; exact hfa29 i hi
  clear eC31 hfC30 hC30_h hC30_0 hC30_1 hC30_2 hC30_3 hC30_4 hC30_5 hC30_6 hC30_7 hC30_8 hC30_9 hC30_10 hC30_11 hC30_12 hC30_13 ead31 hfa29 ha29_h ha29_0 ha29_1 ha29_2 ha29_3 ha29_4 ha29_5 ha29_6 ha29_7 ha29_8 ha29_9 ha29_10 ha29_11 ha29_12 ha29_13 hw30
  refine x_putF (fs' := [.int 0, .int (nI 20), .ref q2, .ref q4, .ref q6, .ref q8, .int (nI 1), .ref q11, .ref q13, .ref q15, .int 0, .ref q17, .ref q19, .ref q21, .ref q23, .ref q25, .ref q27, .ref q29, .ref q31, .null, .null, .null, .null, .null, .int 0, .int 0, .int 0, .null, .null, .null, .null, .null, .null, .int 0, .int 0]) S hw31 h ha31_h (lt_zh hh 15) hC31_h rfl in_X8 tyX8_ok nmX8 18 (by decide) wf_X8_63 rfl hini rfl rfl rfl (by show 18 < 35; decide) rfl dX8_init_135 (fun C32 H32 locs32 eC32 hw32 => ?_)
  have hC32_h : C32 h = .inr (8, [.int 0, .int (nI 20), .ref q2, .ref q4, .ref q6, .ref q8, .int (nI 1), .ref q11, .ref q13, .ref q15, .int 0, .ref q17, .ref q19, .ref q21, .ref q23, .ref q25, .ref q27, .ref q29, .ref q31, .null, .null, .null, .null, .null, .int 0, .int 0, .int 0, .null, .null, .null, .null, .null, .null, .int 0, .int 0]) := by rw [eC32]; exact va_up_self _ _ _
  have hC32_0 : C32 N = .inl (G.2.2.1, 120, .inl (fun _ => 0)) := by rw [eC32, va_up_ne _ _ (Nat.ne_of_lt hh).symm]; exact hC31_0
  have hC32_1 : C32 (N + 1) = .inl (G.2.2.1, 120, .inl (fun _ => 0)) := by rw [eC32, va_up_ne _ _ (nz_zh hh 1).symm]; exact hC31_1
  have hC32_2 : C32 (N + 2) = .inl (G.2.2.1, 120, .inl (fun _ => 0)) := by rw [eC32, va_up_ne _ _ (nz_zh hh 2).symm]; exact hC31_2
  have hC32_3 : C32 (N + 3) = .inl (G.2.2.1, 120, .inl (fun _ => 0)) := by rw [eC32, va_up_ne _ _ (nz_zh hh 3).symm]; exact hC31_3
  have hC32_4 : C32 (N + 4) = .inl (G.2.2.1, 200, .inl (fun _ => 0)) := by rw [eC32, va_up_ne _ _ (nz_zh hh 4).symm]; exact hC31_4
  have hC32_5 : C32 (N + 5) = .inl (G.2.2.1, 200, .inl (fun _ => 0)) := by rw [eC32, va_up_ne _ _ (nz_zh hh 5).symm]; exact hC31_5
  have hC32_6 : C32 (N + 6) = .inl (G.2.2.1, 200, .inl (fun _ => 0)) := by rw [eC32, va_up_ne _ _ (nz_zh hh 6).symm]; exact hC31_6
  have hC32_7 : C32 (N + 7) = .inl (G.2.2.1, 6, .inl (fun _ => 0)) := by rw [eC32, va_up_ne _ _ (nz_zh hh 7).symm]; exact hC31_7
  have hC32_8 : C32 (N + 8) = .inl (G.2.2.1, 6, .inl (fun _ => 0)) := by rw [eC32, va_up_ne _ _ (nz_zh hh 8).symm]; exact hC31_8
  have hC32_9 : C32 (N + 9) = .inl (G.2.2.1, 6, .inl (fun _ => 0)) := by rw [eC32, va_up_ne _ _ (nz_zh hh 9).symm]; exact hC31_9
  have hC32_10 : C32 (N + 10) = .inl (G.2.2.2.1, 48, .inl (fun _ => 0)) := by rw [eC32, va_up_ne _ _ (nz_zh hh 10).symm]; exact hC31_10
  have hC32_11 : C32 (N + 11) = .inl (G.2.2.1, 48, .inl (fun _ => 0)) := by rw [eC32, va_up_ne _ _ (nz_zh hh 11).symm]; exact hC31_11
  have hC32_12 : C32 (N + 12) = .inl (G.2.2.1, 48, .inl (fun _ => 0)) := by rw [eC32, va_up_ne _ _ (nz_zh hh 12).symm]; exact hC31_12
  have hC32_13 : C32 (N + 13) = .inl (G.2.2.1, 48, .inl (fun _ => 0)) := by rw [eC32, va_up_ne _ _ (nz_zh hh 13).symm]; exact hC31_13
  have hC32_14 : C32 (N + 14) = .inl (G.2.2.1, 48, .inl (fun _ => 0)) := by rw [eC32, va_up_ne _ _ (nz_zh hh 14).symm]; exact hC31_14
  have hfC32 : ∀ i, i < N → i ≠ h → C32 i = C i := fun i hi hne => by rw [eC32, va_up_ne _ _ hne]; exact hfC31 i hi hne
  clear eC32 hfC31 hC31_h hC31_0 hC31_1 hC31_2 hC31_3 hC31_4 hC31_5 hC31_6 hC31_7 hC31_8 hC31_9 hC31_10 hC31_11 hC31_12 hC31_13 hC31_14 hw31
  refine lv_aload_n S.1 S.2.1 dX8_init_138 rfl (lv_at hl 0 rfl) ?_
  refine lv_bipush (v := nI 48) S.1 S.2.1 dX8_init_139 (by decide) ?_
  refine x_newI (N' := 48) S hw32 (by decide) (by decide) (by decide) (by decide) (by decide) rfl dX8_init_141 (fun q33 ad33 C33 H33 ead33 eC33 hw33 => ?_)
  have hC33_h : C33 h = .inr (8, [.int 0, .int (nI 20), .ref q2, .ref q4, .ref q6, .ref q8, .int (nI 1), .ref q11, .ref q13, .ref q15, .int 0, .ref q17, .ref q19, .ref q21, .ref q23, .ref q25, .ref q27, .ref q29, .ref q31, .null, .null, .null, .null, .null, .int 0, .int 0, .int 0, .null, .null, .null, .null, .null, .null, .int 0, .int 0]) := by rw [eC33, va_up_ne _ _ (nz_zh hh 15)]; exact hC32_h
  have hC33_0 : C33 N = .inl (G.2.2.1, 120, .inl (fun _ => 0)) := by rw [eC33, va_up_ne _ _ (nz_z0 N 15 (by decide))]; exact hC32_0
  have hC33_1 : C33 (N + 1) = .inl (G.2.2.1, 120, .inl (fun _ => 0)) := by rw [eC33, va_up_ne _ _ (nz_zn N 1 15 (by decide))]; exact hC32_1
  have hC33_2 : C33 (N + 2) = .inl (G.2.2.1, 120, .inl (fun _ => 0)) := by rw [eC33, va_up_ne _ _ (nz_zn N 2 15 (by decide))]; exact hC32_2
  have hC33_3 : C33 (N + 3) = .inl (G.2.2.1, 120, .inl (fun _ => 0)) := by rw [eC33, va_up_ne _ _ (nz_zn N 3 15 (by decide))]; exact hC32_3
  have hC33_4 : C33 (N + 4) = .inl (G.2.2.1, 200, .inl (fun _ => 0)) := by rw [eC33, va_up_ne _ _ (nz_zn N 4 15 (by decide))]; exact hC32_4
  have hC33_5 : C33 (N + 5) = .inl (G.2.2.1, 200, .inl (fun _ => 0)) := by rw [eC33, va_up_ne _ _ (nz_zn N 5 15 (by decide))]; exact hC32_5
  have hC33_6 : C33 (N + 6) = .inl (G.2.2.1, 200, .inl (fun _ => 0)) := by rw [eC33, va_up_ne _ _ (nz_zn N 6 15 (by decide))]; exact hC32_6
  have hC33_7 : C33 (N + 7) = .inl (G.2.2.1, 6, .inl (fun _ => 0)) := by rw [eC33, va_up_ne _ _ (nz_zn N 7 15 (by decide))]; exact hC32_7
  have hC33_8 : C33 (N + 8) = .inl (G.2.2.1, 6, .inl (fun _ => 0)) := by rw [eC33, va_up_ne _ _ (nz_zn N 8 15 (by decide))]; exact hC32_8
  have hC33_9 : C33 (N + 9) = .inl (G.2.2.1, 6, .inl (fun _ => 0)) := by rw [eC33, va_up_ne _ _ (nz_zn N 9 15 (by decide))]; exact hC32_9
  have hC33_10 : C33 (N + 10) = .inl (G.2.2.2.1, 48, .inl (fun _ => 0)) := by rw [eC33, va_up_ne _ _ (nz_zn N 10 15 (by decide))]; exact hC32_10
  have hC33_11 : C33 (N + 11) = .inl (G.2.2.1, 48, .inl (fun _ => 0)) := by rw [eC33, va_up_ne _ _ (nz_zn N 11 15 (by decide))]; exact hC32_11
  have hC33_12 : C33 (N + 12) = .inl (G.2.2.1, 48, .inl (fun _ => 0)) := by rw [eC33, va_up_ne _ _ (nz_zn N 12 15 (by decide))]; exact hC32_12
  have hC33_13 : C33 (N + 13) = .inl (G.2.2.1, 48, .inl (fun _ => 0)) := by rw [eC33, va_up_ne _ _ (nz_zn N 13 15 (by decide))]; exact hC32_13
  have hC33_14 : C33 (N + 14) = .inl (G.2.2.1, 48, .inl (fun _ => 0)) := by rw [eC33, va_up_ne _ _ (nz_zn N 14 15 (by decide))]; exact hC32_14
  have hC33_15 : C33 (N + 15) = .inl (G.2.2.1, 48, .inl (fun _ => 0)) := by rw [eC33]; exact va_up_self _ _ _
  have hfC33 : ∀ i, i < N → i ≠ h → C33 i = C i := fun i hi hne => by rw [eC33, va_up_ne _ _ (nz_zh hi 15)]; exact hfC32 i hi hne
  have ha33_h : ad33 h = (ad h) := by rw [ead33, va_up_ne _ _ (nz_zh hh 15)]; exact ha31_h
  have ha33_0 : ad33 N = q2 := by rw [ead33, va_up_ne _ _ (nz_z0 N 15 (by decide))]; exact ha31_0
  have ha33_1 : ad33 (N + 1) = q4 := by rw [ead33, va_up_ne _ _ (nz_zn N 1 15 (by decide))]; exact ha31_1
  have ha33_2 : ad33 (N + 2) = q6 := by rw [ead33, va_up_ne _ _ (nz_zn N 2 15 (by decide))]; exact ha31_2
  have ha33_3 : ad33 (N + 3) = q8 := by rw [ead33, va_up_ne _ _ (nz_zn N 3 15 (by decide))]; exact ha31_3
  have ha33_4 : ad33 (N + 4) = q11 := by rw [ead33, va_up_ne _ _ (nz_zn N 4 15 (by decide))]; exact ha31_4
  have ha33_5 : ad33 (N + 5) = q13 := by rw [ead33, va_up_ne _ _ (nz_zn N 5 15 (by decide))]; exact ha31_5
  have ha33_6 : ad33 (N + 6) = q15 := by rw [ead33, va_up_ne _ _ (nz_zn N 6 15 (by decide))]; exact ha31_6
  have ha33_7 : ad33 (N + 7) = q17 := by rw [ead33, va_up_ne _ _ (nz_zn N 7 15 (by decide))]; exact ha31_7
  have ha33_8 : ad33 (N + 8) = q19 := by rw [ead33, va_up_ne _ _ (nz_zn N 8 15 (by decide))]; exact ha31_8
  have ha33_9 : ad33 (N + 9) = q21 := by rw [ead33, va_up_ne _ _ (nz_zn N 9 15 (by decide))]; exact ha31_9
  have ha33_10 : ad33 (N + 10) = q23 := by rw [ead33, va_up_ne _ _ (nz_zn N 10 15 (by decide))]; exact ha31_10
  have ha33_11 : ad33 (N + 11) = q25 := by rw [ead33, va_up_ne _ _ (nz_zn N 11 15 (by decide))]; exact ha31_11
  have ha33_12 : ad33 (N + 12) = q27 := by rw [ead33, va_up_ne _ _ (nz_zn N 12 15 (by decide))]; exact ha31_12
  have ha33_13 : ad33 (N + 13) = q29 := by rw [ead33, va_up_ne _ _ (nz_zn N 13 15 (by decide))]; exact ha31_13
  have ha33_14 : ad33 (N + 14) = q31 := by rw [ead33, va_up_ne _ _ (nz_zn N 14 15 (by decide))]; exact ha31_14
  have ha33_15 : ad33 (N + 15) = q33 := by rw [ead33]; exact va_up_self _ _ _
  have hfa33 : ∀ i, i < N → ad33 i = ad i := fun i hi => by rw [ead33, va_up_ne _ _ (nz_zh hi 15)]; exact hfa31 i hi
  clear eC33 hfC32 hC32_h hC32_0 hC32_1 hC32_2 hC32_3 hC32_4 hC32_5 hC32_6 hC32_7 hC32_8 hC32_9 hC32_10 hC32_11 hC32_12 hC32_13 hC32_14 ead33 hfa31 ha31_h ha31_0 ha31_1 ha31_2 ha31_3 ha31_4 ha31_5 ha31_6 ha31_7 ha31_8 ha31_9 ha31_10 ha31_11 ha31_12 ha31_13 ha31_14 hw32
  refine x_putF (fs' := [.int 0, .int (nI 20), .ref q2, .ref q4, .ref q6, .ref q8, .int (nI 1), .ref q11, .ref q13, .ref q15, .int 0, .ref q17, .ref q19, .ref q21, .ref q23, .ref q25, .ref q27, .ref q29, .ref q31, .ref q33, .null, .null, .null, .null, .int 0, .int 0, .int 0, .null, .null, .null, .null, .null, .null, .int 0, .int 0]) S hw33 h ha33_h (lt_zh hh 16) hC33_h rfl in_X8 tyX8_ok nmX8 19 (by decide) wf_X8_66 rfl hini rfl rfl rfl (by show 19 < 35; decide) rfl dX8_init_143 (fun C34 H34 locs34 eC34 hw34 => ?_)
  have hC34_h : C34 h = .inr (8, [.int 0, .int (nI 20), .ref q2, .ref q4, .ref q6, .ref q8, .int (nI 1), .ref q11, .ref q13, .ref q15, .int 0, .ref q17, .ref q19, .ref q21, .ref q23, .ref q25, .ref q27, .ref q29, .ref q31, .ref q33, .null, .null, .null, .null, .int 0, .int 0, .int 0, .null, .null, .null, .null, .null, .null, .int 0, .int 0]) := by rw [eC34]; exact va_up_self _ _ _
  have hC34_0 : C34 N = .inl (G.2.2.1, 120, .inl (fun _ => 0)) := by rw [eC34, va_up_ne _ _ (Nat.ne_of_lt hh).symm]; exact hC33_0
  have hC34_1 : C34 (N + 1) = .inl (G.2.2.1, 120, .inl (fun _ => 0)) := by rw [eC34, va_up_ne _ _ (nz_zh hh 1).symm]; exact hC33_1
  have hC34_2 : C34 (N + 2) = .inl (G.2.2.1, 120, .inl (fun _ => 0)) := by rw [eC34, va_up_ne _ _ (nz_zh hh 2).symm]; exact hC33_2
  have hC34_3 : C34 (N + 3) = .inl (G.2.2.1, 120, .inl (fun _ => 0)) := by rw [eC34, va_up_ne _ _ (nz_zh hh 3).symm]; exact hC33_3
  have hC34_4 : C34 (N + 4) = .inl (G.2.2.1, 200, .inl (fun _ => 0)) := by rw [eC34, va_up_ne _ _ (nz_zh hh 4).symm]; exact hC33_4
  have hC34_5 : C34 (N + 5) = .inl (G.2.2.1, 200, .inl (fun _ => 0)) := by rw [eC34, va_up_ne _ _ (nz_zh hh 5).symm]; exact hC33_5
  have hC34_6 : C34 (N + 6) = .inl (G.2.2.1, 200, .inl (fun _ => 0)) := by rw [eC34, va_up_ne _ _ (nz_zh hh 6).symm]; exact hC33_6
  have hC34_7 : C34 (N + 7) = .inl (G.2.2.1, 6, .inl (fun _ => 0)) := by rw [eC34, va_up_ne _ _ (nz_zh hh 7).symm]; exact hC33_7
  have hC34_8 : C34 (N + 8) = .inl (G.2.2.1, 6, .inl (fun _ => 0)) := by rw [eC34, va_up_ne _ _ (nz_zh hh 8).symm]; exact hC33_8
  have hC34_9 : C34 (N + 9) = .inl (G.2.2.1, 6, .inl (fun _ => 0)) := by rw [eC34, va_up_ne _ _ (nz_zh hh 9).symm]; exact hC33_9
  have hC34_10 : C34 (N + 10) = .inl (G.2.2.2.1, 48, .inl (fun _ => 0)) := by rw [eC34, va_up_ne _ _ (nz_zh hh 10).symm]; exact hC33_10
  have hC34_11 : C34 (N + 11) = .inl (G.2.2.1, 48, .inl (fun _ => 0)) := by rw [eC34, va_up_ne _ _ (nz_zh hh 11).symm]; exact hC33_11
  have hC34_12 : C34 (N + 12) = .inl (G.2.2.1, 48, .inl (fun _ => 0)) := by rw [eC34, va_up_ne _ _ (nz_zh hh 12).symm]; exact hC33_12
  have hC34_13 : C34 (N + 13) = .inl (G.2.2.1, 48, .inl (fun _ => 0)) := by rw [eC34, va_up_ne _ _ (nz_zh hh 13).symm]; exact hC33_13
  have hC34_14 : C34 (N + 14) = .inl (G.2.2.1, 48, .inl (fun _ => 0)) := by rw [eC34, va_up_ne _ _ (nz_zh hh 14).symm]; exact hC33_14
  have hC34_15 : C34 (N + 15) = .inl (G.2.2.1, 48, .inl (fun _ => 0)) := by rw [eC34, va_up_ne _ _ (nz_zh hh 15).symm]; exact hC33_15
  have hfC34 : ∀ i, i < N → i ≠ h → C34 i = C i := fun i hi hne => by rw [eC34, va_up_ne _ _ hne]; exact hfC33 i hi hne
  clear eC34 hfC33 hC33_h hC33_0 hC33_1 hC33_2 hC33_3 hC33_4 hC33_5 hC33_6 hC33_7 hC33_8 hC33_9 hC33_10 hC33_11 hC33_12 hC33_13 hC33_14 hC33_15 hw33
  refine lv_aload_n S.1 S.2.1 dX8_init_146 rfl (lv_at hl 0 rfl) ?_
  refine lv_bipush (v := nI 64) S.1 S.2.1 dX8_init_147 (by decide) ?_
  refine x_newZ (N' := 64) S hw34 (by decide) (by decide) (by decide) (by decide) (by decide) rfl dX8_init_149 (fun q35 ad35 C35 H35 ead35 eC35 hw35 => ?_)
  have hC35_h : C35 h = .inr (8, [.int 0, .int (nI 20), .ref q2, .ref q4, .ref q6, .ref q8, .int (nI 1), .ref q11, .ref q13, .ref q15, .int 0, .ref q17, .ref q19, .ref q21, .ref q23, .ref q25, .ref q27, .ref q29, .ref q31, .ref q33, .null, .null, .null, .null, .int 0, .int 0, .int 0, .null, .null, .null, .null, .null, .null, .int 0, .int 0]) := by rw [eC35, va_up_ne _ _ (nz_zh hh 16)]; exact hC34_h
  have hC35_0 : C35 N = .inl (G.2.2.1, 120, .inl (fun _ => 0)) := by rw [eC35, va_up_ne _ _ (nz_z0 N 16 (by decide))]; exact hC34_0
  have hC35_1 : C35 (N + 1) = .inl (G.2.2.1, 120, .inl (fun _ => 0)) := by rw [eC35, va_up_ne _ _ (nz_zn N 1 16 (by decide))]; exact hC34_1
  have hC35_2 : C35 (N + 2) = .inl (G.2.2.1, 120, .inl (fun _ => 0)) := by rw [eC35, va_up_ne _ _ (nz_zn N 2 16 (by decide))]; exact hC34_2
  have hC35_3 : C35 (N + 3) = .inl (G.2.2.1, 120, .inl (fun _ => 0)) := by rw [eC35, va_up_ne _ _ (nz_zn N 3 16 (by decide))]; exact hC34_3
  have hC35_4 : C35 (N + 4) = .inl (G.2.2.1, 200, .inl (fun _ => 0)) := by rw [eC35, va_up_ne _ _ (nz_zn N 4 16 (by decide))]; exact hC34_4
  have hC35_5 : C35 (N + 5) = .inl (G.2.2.1, 200, .inl (fun _ => 0)) := by rw [eC35, va_up_ne _ _ (nz_zn N 5 16 (by decide))]; exact hC34_5
  have hC35_6 : C35 (N + 6) = .inl (G.2.2.1, 200, .inl (fun _ => 0)) := by rw [eC35, va_up_ne _ _ (nz_zn N 6 16 (by decide))]; exact hC34_6
  have hC35_7 : C35 (N + 7) = .inl (G.2.2.1, 6, .inl (fun _ => 0)) := by rw [eC35, va_up_ne _ _ (nz_zn N 7 16 (by decide))]; exact hC34_7
  have hC35_8 : C35 (N + 8) = .inl (G.2.2.1, 6, .inl (fun _ => 0)) := by rw [eC35, va_up_ne _ _ (nz_zn N 8 16 (by decide))]; exact hC34_8
  have hC35_9 : C35 (N + 9) = .inl (G.2.2.1, 6, .inl (fun _ => 0)) := by rw [eC35, va_up_ne _ _ (nz_zn N 9 16 (by decide))]; exact hC34_9
  have hC35_10 : C35 (N + 10) = .inl (G.2.2.2.1, 48, .inl (fun _ => 0)) := by rw [eC35, va_up_ne _ _ (nz_zn N 10 16 (by decide))]; exact hC34_10
  have hC35_11 : C35 (N + 11) = .inl (G.2.2.1, 48, .inl (fun _ => 0)) := by rw [eC35, va_up_ne _ _ (nz_zn N 11 16 (by decide))]; exact hC34_11
  have hC35_12 : C35 (N + 12) = .inl (G.2.2.1, 48, .inl (fun _ => 0)) := by rw [eC35, va_up_ne _ _ (nz_zn N 12 16 (by decide))]; exact hC34_12
  have hC35_13 : C35 (N + 13) = .inl (G.2.2.1, 48, .inl (fun _ => 0)) := by rw [eC35, va_up_ne _ _ (nz_zn N 13 16 (by decide))]; exact hC34_13
  have hC35_14 : C35 (N + 14) = .inl (G.2.2.1, 48, .inl (fun _ => 0)) := by rw [eC35, va_up_ne _ _ (nz_zn N 14 16 (by decide))]; exact hC34_14
  have hC35_15 : C35 (N + 15) = .inl (G.2.2.1, 48, .inl (fun _ => 0)) := by rw [eC35, va_up_ne _ _ (nz_zn N 15 16 (by decide))]; exact hC34_15
  have hC35_16 : C35 (N + 16) = .inl (G.2.2.2.1, 64, .inl (fun _ => 0)) := by rw [eC35]; exact va_up_self _ _ _
  have hfC35 : ∀ i, i < N → i ≠ h → C35 i = C i := fun i hi hne => by rw [eC35, va_up_ne _ _ (nz_zh hi 16)]; exact hfC34 i hi hne
  have ha35_h : ad35 h = (ad h) := by rw [ead35, va_up_ne _ _ (nz_zh hh 16)]; exact ha33_h
  have ha35_0 : ad35 N = q2 := by rw [ead35, va_up_ne _ _ (nz_z0 N 16 (by decide))]; exact ha33_0
  have ha35_1 : ad35 (N + 1) = q4 := by rw [ead35, va_up_ne _ _ (nz_zn N 1 16 (by decide))]; exact ha33_1
  have ha35_2 : ad35 (N + 2) = q6 := by rw [ead35, va_up_ne _ _ (nz_zn N 2 16 (by decide))]; exact ha33_2
  have ha35_3 : ad35 (N + 3) = q8 := by rw [ead35, va_up_ne _ _ (nz_zn N 3 16 (by decide))]; exact ha33_3
  have ha35_4 : ad35 (N + 4) = q11 := by rw [ead35, va_up_ne _ _ (nz_zn N 4 16 (by decide))]; exact ha33_4
  have ha35_5 : ad35 (N + 5) = q13 := by rw [ead35, va_up_ne _ _ (nz_zn N 5 16 (by decide))]; exact ha33_5
  have ha35_6 : ad35 (N + 6) = q15 := by rw [ead35, va_up_ne _ _ (nz_zn N 6 16 (by decide))]; exact ha33_6
  have ha35_7 : ad35 (N + 7) = q17 := by rw [ead35, va_up_ne _ _ (nz_zn N 7 16 (by decide))]; exact ha33_7
  have ha35_8 : ad35 (N + 8) = q19 := by rw [ead35, va_up_ne _ _ (nz_zn N 8 16 (by decide))]; exact ha33_8
  have ha35_9 : ad35 (N + 9) = q21 := by rw [ead35, va_up_ne _ _ (nz_zn N 9 16 (by decide))]; exact ha33_9
  have ha35_10 : ad35 (N + 10) = q23 := by rw [ead35, va_up_ne _ _ (nz_zn N 10 16 (by decide))]; exact ha33_10
  have ha35_11 : ad35 (N + 11) = q25 := by rw [ead35, va_up_ne _ _ (nz_zn N 11 16 (by decide))]; exact ha33_11
  have ha35_12 : ad35 (N + 12) = q27 := by rw [ead35, va_up_ne _ _ (nz_zn N 12 16 (by decide))]; exact ha33_12
  have ha35_13 : ad35 (N + 13) = q29 := by rw [ead35, va_up_ne _ _ (nz_zn N 13 16 (by decide))]; exact ha33_13
  have ha35_14 : ad35 (N + 14) = q31 := by rw [ead35, va_up_ne _ _ (nz_zn N 14 16 (by decide))]; exact ha33_14
  have ha35_15 : ad35 (N + 15) = q33 := by rw [ead35, va_up_ne _ _ (nz_zn N 15 16 (by decide))]; exact ha33_15
  have ha35_16 : ad35 (N + 16) = q35 := by rw [ead35]; exact va_up_self _ _ _
  have hfa35 : ∀ i, i < N → ad35 i = ad i := fun i hi => by rw [ead35, va_up_ne _ _ (nz_zh hi 16)]; exact hfa33 i hi
  clear eC35 hfC34 hC34_h hC34_0 hC34_1 hC34_2 hC34_3 hC34_4 hC34_5 hC34_6 hC34_7 hC34_8 hC34_9 hC34_10 hC34_11 hC34_12 hC34_13 hC34_14 hC34_15 ead35 hfa33 ha33_h ha33_0 ha33_1 ha33_2 ha33_3 ha33_4 ha33_5 ha33_6 ha33_7 ha33_8 ha33_9 ha33_10 ha33_11 ha33_12 ha33_13 ha33_14 ha33_15 hw34
  refine x_putF (fs' := [.int 0, .int (nI 20), .ref q2, .ref q4, .ref q6, .ref q8, .int (nI 1), .ref q11, .ref q13, .ref q15, .int 0, .ref q17, .ref q19, .ref q21, .ref q23, .ref q25, .ref q27, .ref q29, .ref q31, .ref q33, .ref q35, .null, .null, .null, .int 0, .int 0, .int 0, .null, .null, .null, .null, .null, .null, .int 0, .int 0]) S hw35 h ha35_h (lt_zh hh 17) hC35_h rfl in_X8 tyX8_ok nmX8 20 (by decide) wf_X8_69 rfl hini rfl rfl rfl (by show 20 < 35; decide) rfl dX8_init_151 (fun C36 H36 locs36 eC36 hw36 => ?_)
  have hC36_h : C36 h = .inr (8, [.int 0, .int (nI 20), .ref q2, .ref q4, .ref q6, .ref q8, .int (nI 1), .ref q11, .ref q13, .ref q15, .int 0, .ref q17, .ref q19, .ref q21, .ref q23, .ref q25, .ref q27, .ref q29, .ref q31, .ref q33, .ref q35, .null, .null, .null, .int 0, .int 0, .int 0, .null, .null, .null, .null, .null, .null, .int 0, .int 0]) := by rw [eC36]; exact va_up_self _ _ _
  have hC36_0 : C36 N = .inl (G.2.2.1, 120, .inl (fun _ => 0)) := by rw [eC36, va_up_ne _ _ (Nat.ne_of_lt hh).symm]; exact hC35_0
  have hC36_1 : C36 (N + 1) = .inl (G.2.2.1, 120, .inl (fun _ => 0)) := by rw [eC36, va_up_ne _ _ (nz_zh hh 1).symm]; exact hC35_1
  have hC36_2 : C36 (N + 2) = .inl (G.2.2.1, 120, .inl (fun _ => 0)) := by rw [eC36, va_up_ne _ _ (nz_zh hh 2).symm]; exact hC35_2
  have hC36_3 : C36 (N + 3) = .inl (G.2.2.1, 120, .inl (fun _ => 0)) := by rw [eC36, va_up_ne _ _ (nz_zh hh 3).symm]; exact hC35_3
  have hC36_4 : C36 (N + 4) = .inl (G.2.2.1, 200, .inl (fun _ => 0)) := by rw [eC36, va_up_ne _ _ (nz_zh hh 4).symm]; exact hC35_4
  have hC36_5 : C36 (N + 5) = .inl (G.2.2.1, 200, .inl (fun _ => 0)) := by rw [eC36, va_up_ne _ _ (nz_zh hh 5).symm]; exact hC35_5
  have hC36_6 : C36 (N + 6) = .inl (G.2.2.1, 200, .inl (fun _ => 0)) := by rw [eC36, va_up_ne _ _ (nz_zh hh 6).symm]; exact hC35_6
  have hC36_7 : C36 (N + 7) = .inl (G.2.2.1, 6, .inl (fun _ => 0)) := by rw [eC36, va_up_ne _ _ (nz_zh hh 7).symm]; exact hC35_7
  have hC36_8 : C36 (N + 8) = .inl (G.2.2.1, 6, .inl (fun _ => 0)) := by rw [eC36, va_up_ne _ _ (nz_zh hh 8).symm]; exact hC35_8
  have hC36_9 : C36 (N + 9) = .inl (G.2.2.1, 6, .inl (fun _ => 0)) := by rw [eC36, va_up_ne _ _ (nz_zh hh 9).symm]; exact hC35_9
  have hC36_10 : C36 (N + 10) = .inl (G.2.2.2.1, 48, .inl (fun _ => 0)) := by rw [eC36, va_up_ne _ _ (nz_zh hh 10).symm]; exact hC35_10
  have hC36_11 : C36 (N + 11) = .inl (G.2.2.1, 48, .inl (fun _ => 0)) := by rw [eC36, va_up_ne _ _ (nz_zh hh 11).symm]; exact hC35_11
  have hC36_12 : C36 (N + 12) = .inl (G.2.2.1, 48, .inl (fun _ => 0)) := by rw [eC36, va_up_ne _ _ (nz_zh hh 12).symm]; exact hC35_12
  have hC36_13 : C36 (N + 13) = .inl (G.2.2.1, 48, .inl (fun _ => 0)) := by rw [eC36, va_up_ne _ _ (nz_zh hh 13).symm]; exact hC35_13
  have hC36_14 : C36 (N + 14) = .inl (G.2.2.1, 48, .inl (fun _ => 0)) := by rw [eC36, va_up_ne _ _ (nz_zh hh 14).symm]; exact hC35_14
  have hC36_15 : C36 (N + 15) = .inl (G.2.2.1, 48, .inl (fun _ => 0)) := by rw [eC36, va_up_ne _ _ (nz_zh hh 15).symm]; exact hC35_15
  have hC36_16 : C36 (N + 16) = .inl (G.2.2.2.1, 64, .inl (fun _ => 0)) := by rw [eC36, va_up_ne _ _ (nz_zh hh 16).symm]; exact hC35_16
  have hfC36 : ∀ i, i < N → i ≠ h → C36 i = C i := fun i hi hne => by rw [eC36, va_up_ne _ _ hne]; exact hfC35 i hi hne
  clear eC36 hfC35 hC35_h hC35_0 hC35_1 hC35_2 hC35_3 hC35_4 hC35_5 hC35_6 hC35_7 hC35_8 hC35_9 hC35_10 hC35_11 hC35_12 hC35_13 hC35_14 hC35_15 hC35_16 hw35
  refine lv_aload_n S.1 S.2.1 dX8_init_154 rfl (lv_at hl 0 rfl) ?_
  refine lv_bipush (v := nI 64) S.1 S.2.1 dX8_init_155 (by decide) ?_
  refine x_newI (N' := 64) S hw36 (by decide) (by decide) (by decide) (by decide) (by decide) rfl dX8_init_157 (fun q37 ad37 C37 H37 ead37 eC37 hw37 => ?_)
  have hC37_h : C37 h = .inr (8, [.int 0, .int (nI 20), .ref q2, .ref q4, .ref q6, .ref q8, .int (nI 1), .ref q11, .ref q13, .ref q15, .int 0, .ref q17, .ref q19, .ref q21, .ref q23, .ref q25, .ref q27, .ref q29, .ref q31, .ref q33, .ref q35, .null, .null, .null, .int 0, .int 0, .int 0, .null, .null, .null, .null, .null, .null, .int 0, .int 0]) := by rw [eC37, va_up_ne _ _ (nz_zh hh 17)]; exact hC36_h
  have hC37_0 : C37 N = .inl (G.2.2.1, 120, .inl (fun _ => 0)) := by rw [eC37, va_up_ne _ _ (nz_z0 N 17 (by decide))]; exact hC36_0
  have hC37_1 : C37 (N + 1) = .inl (G.2.2.1, 120, .inl (fun _ => 0)) := by rw [eC37, va_up_ne _ _ (nz_zn N 1 17 (by decide))]; exact hC36_1
  have hC37_2 : C37 (N + 2) = .inl (G.2.2.1, 120, .inl (fun _ => 0)) := by rw [eC37, va_up_ne _ _ (nz_zn N 2 17 (by decide))]; exact hC36_2
  have hC37_3 : C37 (N + 3) = .inl (G.2.2.1, 120, .inl (fun _ => 0)) := by rw [eC37, va_up_ne _ _ (nz_zn N 3 17 (by decide))]; exact hC36_3
  have hC37_4 : C37 (N + 4) = .inl (G.2.2.1, 200, .inl (fun _ => 0)) := by rw [eC37, va_up_ne _ _ (nz_zn N 4 17 (by decide))]; exact hC36_4
  have hC37_5 : C37 (N + 5) = .inl (G.2.2.1, 200, .inl (fun _ => 0)) := by rw [eC37, va_up_ne _ _ (nz_zn N 5 17 (by decide))]; exact hC36_5
  have hC37_6 : C37 (N + 6) = .inl (G.2.2.1, 200, .inl (fun _ => 0)) := by rw [eC37, va_up_ne _ _ (nz_zn N 6 17 (by decide))]; exact hC36_6
  have hC37_7 : C37 (N + 7) = .inl (G.2.2.1, 6, .inl (fun _ => 0)) := by rw [eC37, va_up_ne _ _ (nz_zn N 7 17 (by decide))]; exact hC36_7
  have hC37_8 : C37 (N + 8) = .inl (G.2.2.1, 6, .inl (fun _ => 0)) := by rw [eC37, va_up_ne _ _ (nz_zn N 8 17 (by decide))]; exact hC36_8
  have hC37_9 : C37 (N + 9) = .inl (G.2.2.1, 6, .inl (fun _ => 0)) := by rw [eC37, va_up_ne _ _ (nz_zn N 9 17 (by decide))]; exact hC36_9
  have hC37_10 : C37 (N + 10) = .inl (G.2.2.2.1, 48, .inl (fun _ => 0)) := by rw [eC37, va_up_ne _ _ (nz_zn N 10 17 (by decide))]; exact hC36_10
  have hC37_11 : C37 (N + 11) = .inl (G.2.2.1, 48, .inl (fun _ => 0)) := by rw [eC37, va_up_ne _ _ (nz_zn N 11 17 (by decide))]; exact hC36_11
  have hC37_12 : C37 (N + 12) = .inl (G.2.2.1, 48, .inl (fun _ => 0)) := by rw [eC37, va_up_ne _ _ (nz_zn N 12 17 (by decide))]; exact hC36_12
  have hC37_13 : C37 (N + 13) = .inl (G.2.2.1, 48, .inl (fun _ => 0)) := by rw [eC37, va_up_ne _ _ (nz_zn N 13 17 (by decide))]; exact hC36_13
  have hC37_14 : C37 (N + 14) = .inl (G.2.2.1, 48, .inl (fun _ => 0)) := by rw [eC37, va_up_ne _ _ (nz_zn N 14 17 (by decide))]; exact hC36_14
  have hC37_15 : C37 (N + 15) = .inl (G.2.2.1, 48, .inl (fun _ => 0)) := by rw [eC37, va_up_ne _ _ (nz_zn N 15 17 (by decide))]; exact hC36_15
  have hC37_16 : C37 (N + 16) = .inl (G.2.2.2.1, 64, .inl (fun _ => 0)) := by rw [eC37, va_up_ne _ _ (nz_zn N 16 17 (by decide))]; exact hC36_16
  have hC37_17 : C37 (N + 17) = .inl (G.2.2.1, 64, .inl (fun _ => 0)) := by rw [eC37]; exact va_up_self _ _ _
  have hfC37 : ∀ i, i < N → i ≠ h → C37 i = C i := fun i hi hne => by rw [eC37, va_up_ne _ _ (nz_zh hi 17)]; exact hfC36 i hi hne
  have ha37_h : ad37 h = (ad h) := by rw [ead37, va_up_ne _ _ (nz_zh hh 17)]; exact ha35_h
  have ha37_0 : ad37 N = q2 := by rw [ead37, va_up_ne _ _ (nz_z0 N 17 (by decide))]; exact ha35_0
  have ha37_1 : ad37 (N + 1) = q4 := by rw [ead37, va_up_ne _ _ (nz_zn N 1 17 (by decide))]; exact ha35_1
  have ha37_2 : ad37 (N + 2) = q6 := by rw [ead37, va_up_ne _ _ (nz_zn N 2 17 (by decide))]; exact ha35_2
  have ha37_3 : ad37 (N + 3) = q8 := by rw [ead37, va_up_ne _ _ (nz_zn N 3 17 (by decide))]; exact ha35_3
  have ha37_4 : ad37 (N + 4) = q11 := by rw [ead37, va_up_ne _ _ (nz_zn N 4 17 (by decide))]; exact ha35_4
  have ha37_5 : ad37 (N + 5) = q13 := by rw [ead37, va_up_ne _ _ (nz_zn N 5 17 (by decide))]; exact ha35_5
  have ha37_6 : ad37 (N + 6) = q15 := by rw [ead37, va_up_ne _ _ (nz_zn N 6 17 (by decide))]; exact ha35_6
  have ha37_7 : ad37 (N + 7) = q17 := by rw [ead37, va_up_ne _ _ (nz_zn N 7 17 (by decide))]; exact ha35_7
  have ha37_8 : ad37 (N + 8) = q19 := by rw [ead37, va_up_ne _ _ (nz_zn N 8 17 (by decide))]; exact ha35_8
  have ha37_9 : ad37 (N + 9) = q21 := by rw [ead37, va_up_ne _ _ (nz_zn N 9 17 (by decide))]; exact ha35_9
  have ha37_10 : ad37 (N + 10) = q23 := by rw [ead37, va_up_ne _ _ (nz_zn N 10 17 (by decide))]; exact ha35_10
  have ha37_11 : ad37 (N + 11) = q25 := by rw [ead37, va_up_ne _ _ (nz_zn N 11 17 (by decide))]; exact ha35_11
  have ha37_12 : ad37 (N + 12) = q27 := by rw [ead37, va_up_ne _ _ (nz_zn N 12 17 (by decide))]; exact ha35_12
  have ha37_13 : ad37 (N + 13) = q29 := by rw [ead37, va_up_ne _ _ (nz_zn N 13 17 (by decide))]; exact ha35_13
  have ha37_14 : ad37 (N + 14) = q31 := by rw [ead37, va_up_ne _ _ (nz_zn N 14 17 (by decide))]; exact ha35_14
  have ha37_15 : ad37 (N + 15) = q33 := by rw [ead37, va_up_ne _ _ (nz_zn N 15 17 (by decide))]; exact ha35_15
  have ha37_16 : ad37 (N + 16) = q35 := by rw [ead37, va_up_ne _ _ (nz_zn N 16 17 (by decide))]; exact ha35_16
  have ha37_17 : ad37 (N + 17) = q37 := by rw [ead37]; exact va_up_self _ _ _
  have hfa37 : ∀ i, i < N → ad37 i = ad i := fun i hi => by rw [ead37, va_up_ne _ _ (nz_zh hi 17)]; exact hfa35 i hi
  clear eC37 hfC36 hC36_h hC36_0 hC36_1 hC36_2 hC36_3 hC36_4 hC36_5 hC36_6 hC36_7 hC36_8 hC36_9 hC36_10 hC36_11 hC36_12 hC36_13 hC36_14 hC36_15 hC36_16 ead37 hfa35 ha35_h ha35_0 ha35_1 ha35_2 ha35_3 ha35_4 ha35_5 ha35_6 ha35_7 ha35_8 ha35_9 ha35_10 ha35_11 ha35_12 ha35_13 ha35_14 ha35_15 ha35_16 hw36
  refine x_putF (fs' := [.int 0, .int (nI 20), .ref q2, .ref q4, .ref q6, .ref q8, .int (nI 1), .ref q11, .ref q13, .ref q15, .int 0, .ref q17, .ref q19, .ref q21, .ref q23, .ref q25, .ref q27, .ref q29, .ref q31, .ref q33, .ref q35, .ref q37, .null, .null, .int 0, .int 0, .int 0, .null, .null, .null, .null, .null, .null, .int 0, .int 0]) S hw37 h ha37_h (lt_zh hh 18) hC37_h rfl in_X8 tyX8_ok nmX8 21 (by decide) wf_X8_72 rfl hini rfl rfl rfl (by show 21 < 35; decide) rfl dX8_init_159 (fun C38 H38 locs38 eC38 hw38 => ?_)
  have hC38_h : C38 h = .inr (8, [.int 0, .int (nI 20), .ref q2, .ref q4, .ref q6, .ref q8, .int (nI 1), .ref q11, .ref q13, .ref q15, .int 0, .ref q17, .ref q19, .ref q21, .ref q23, .ref q25, .ref q27, .ref q29, .ref q31, .ref q33, .ref q35, .ref q37, .null, .null, .int 0, .int 0, .int 0, .null, .null, .null, .null, .null, .null, .int 0, .int 0]) := by rw [eC38]; exact va_up_self _ _ _
  have hC38_0 : C38 N = .inl (G.2.2.1, 120, .inl (fun _ => 0)) := by rw [eC38, va_up_ne _ _ (Nat.ne_of_lt hh).symm]; exact hC37_0
  have hC38_1 : C38 (N + 1) = .inl (G.2.2.1, 120, .inl (fun _ => 0)) := by rw [eC38, va_up_ne _ _ (nz_zh hh 1).symm]; exact hC37_1
  have hC38_2 : C38 (N + 2) = .inl (G.2.2.1, 120, .inl (fun _ => 0)) := by rw [eC38, va_up_ne _ _ (nz_zh hh 2).symm]; exact hC37_2
  have hC38_3 : C38 (N + 3) = .inl (G.2.2.1, 120, .inl (fun _ => 0)) := by rw [eC38, va_up_ne _ _ (nz_zh hh 3).symm]; exact hC37_3
  have hC38_4 : C38 (N + 4) = .inl (G.2.2.1, 200, .inl (fun _ => 0)) := by rw [eC38, va_up_ne _ _ (nz_zh hh 4).symm]; exact hC37_4
  have hC38_5 : C38 (N + 5) = .inl (G.2.2.1, 200, .inl (fun _ => 0)) := by rw [eC38, va_up_ne _ _ (nz_zh hh 5).symm]; exact hC37_5
  have hC38_6 : C38 (N + 6) = .inl (G.2.2.1, 200, .inl (fun _ => 0)) := by rw [eC38, va_up_ne _ _ (nz_zh hh 6).symm]; exact hC37_6
  have hC38_7 : C38 (N + 7) = .inl (G.2.2.1, 6, .inl (fun _ => 0)) := by rw [eC38, va_up_ne _ _ (nz_zh hh 7).symm]; exact hC37_7
  have hC38_8 : C38 (N + 8) = .inl (G.2.2.1, 6, .inl (fun _ => 0)) := by rw [eC38, va_up_ne _ _ (nz_zh hh 8).symm]; exact hC37_8
  have hC38_9 : C38 (N + 9) = .inl (G.2.2.1, 6, .inl (fun _ => 0)) := by rw [eC38, va_up_ne _ _ (nz_zh hh 9).symm]; exact hC37_9
  have hC38_10 : C38 (N + 10) = .inl (G.2.2.2.1, 48, .inl (fun _ => 0)) := by rw [eC38, va_up_ne _ _ (nz_zh hh 10).symm]; exact hC37_10
  have hC38_11 : C38 (N + 11) = .inl (G.2.2.1, 48, .inl (fun _ => 0)) := by rw [eC38, va_up_ne _ _ (nz_zh hh 11).symm]; exact hC37_11
  have hC38_12 : C38 (N + 12) = .inl (G.2.2.1, 48, .inl (fun _ => 0)) := by rw [eC38, va_up_ne _ _ (nz_zh hh 12).symm]; exact hC37_12
  have hC38_13 : C38 (N + 13) = .inl (G.2.2.1, 48, .inl (fun _ => 0)) := by rw [eC38, va_up_ne _ _ (nz_zh hh 13).symm]; exact hC37_13
  have hC38_14 : C38 (N + 14) = .inl (G.2.2.1, 48, .inl (fun _ => 0)) := by rw [eC38, va_up_ne _ _ (nz_zh hh 14).symm]; exact hC37_14
  have hC38_15 : C38 (N + 15) = .inl (G.2.2.1, 48, .inl (fun _ => 0)) := by rw [eC38, va_up_ne _ _ (nz_zh hh 15).symm]; exact hC37_15
  have hC38_16 : C38 (N + 16) = .inl (G.2.2.2.1, 64, .inl (fun _ => 0)) := by rw [eC38, va_up_ne _ _ (nz_zh hh 16).symm]; exact hC37_16
  have hC38_17 : C38 (N + 17) = .inl (G.2.2.1, 64, .inl (fun _ => 0)) := by rw [eC38, va_up_ne _ _ (nz_zh hh 17).symm]; exact hC37_17
  have hfC38 : ∀ i, i < N → i ≠ h → C38 i = C i := fun i hi hne => by rw [eC38, va_up_ne _ _ hne]; exact hfC37 i hi hne
  clear eC38 hfC37 hC37_h hC37_0 hC37_1 hC37_2 hC37_3 hC37_4 hC37_5 hC37_6 hC37_7 hC37_8 hC37_9 hC37_10 hC37_11 hC37_12 hC37_13 hC37_14 hC37_15 hC37_16 hC37_17 hw37
  refine lv_aload_n S.1 S.2.1 dX8_init_162 rfl (lv_at hl 0 rfl) ?_
  refine lv_bipush (v := nI 8) S.1 S.2.1 dX8_init_163 (by decide) ?_
  refine x_newI (N' := 8) S hw38 (by decide) (by decide) (by decide) (by decide) (by decide) rfl dX8_init_165 (fun q39 ad39 C39 H39 ead39 eC39 hw39 => ?_)
  have hC39_h : C39 h = .inr (8, [.int 0, .int (nI 20), .ref q2, .ref q4, .ref q6, .ref q8, .int (nI 1), .ref q11, .ref q13, .ref q15, .int 0, .ref q17, .ref q19, .ref q21, .ref q23, .ref q25, .ref q27, .ref q29, .ref q31, .ref q33, .ref q35, .ref q37, .null, .null, .int 0, .int 0, .int 0, .null, .null, .null, .null, .null, .null, .int 0, .int 0]) := by rw [eC39, va_up_ne _ _ (nz_zh hh 18)]; exact hC38_h
  have hC39_0 : C39 N = .inl (G.2.2.1, 120, .inl (fun _ => 0)) := by rw [eC39, va_up_ne _ _ (nz_z0 N 18 (by decide))]; exact hC38_0
  have hC39_1 : C39 (N + 1) = .inl (G.2.2.1, 120, .inl (fun _ => 0)) := by rw [eC39, va_up_ne _ _ (nz_zn N 1 18 (by decide))]; exact hC38_1
  have hC39_2 : C39 (N + 2) = .inl (G.2.2.1, 120, .inl (fun _ => 0)) := by rw [eC39, va_up_ne _ _ (nz_zn N 2 18 (by decide))]; exact hC38_2
  have hC39_3 : C39 (N + 3) = .inl (G.2.2.1, 120, .inl (fun _ => 0)) := by rw [eC39, va_up_ne _ _ (nz_zn N 3 18 (by decide))]; exact hC38_3
  have hC39_4 : C39 (N + 4) = .inl (G.2.2.1, 200, .inl (fun _ => 0)) := by rw [eC39, va_up_ne _ _ (nz_zn N 4 18 (by decide))]; exact hC38_4
  have hC39_5 : C39 (N + 5) = .inl (G.2.2.1, 200, .inl (fun _ => 0)) := by rw [eC39, va_up_ne _ _ (nz_zn N 5 18 (by decide))]; exact hC38_5
  have hC39_6 : C39 (N + 6) = .inl (G.2.2.1, 200, .inl (fun _ => 0)) := by rw [eC39, va_up_ne _ _ (nz_zn N 6 18 (by decide))]; exact hC38_6
  have hC39_7 : C39 (N + 7) = .inl (G.2.2.1, 6, .inl (fun _ => 0)) := by rw [eC39, va_up_ne _ _ (nz_zn N 7 18 (by decide))]; exact hC38_7
  have hC39_8 : C39 (N + 8) = .inl (G.2.2.1, 6, .inl (fun _ => 0)) := by rw [eC39, va_up_ne _ _ (nz_zn N 8 18 (by decide))]; exact hC38_8
  have hC39_9 : C39 (N + 9) = .inl (G.2.2.1, 6, .inl (fun _ => 0)) := by rw [eC39, va_up_ne _ _ (nz_zn N 9 18 (by decide))]; exact hC38_9
  have hC39_10 : C39 (N + 10) = .inl (G.2.2.2.1, 48, .inl (fun _ => 0)) := by rw [eC39, va_up_ne _ _ (nz_zn N 10 18 (by decide))]; exact hC38_10
  have hC39_11 : C39 (N + 11) = .inl (G.2.2.1, 48, .inl (fun _ => 0)) := by rw [eC39, va_up_ne _ _ (nz_zn N 11 18 (by decide))]; exact hC38_11
  have hC39_12 : C39 (N + 12) = .inl (G.2.2.1, 48, .inl (fun _ => 0)) := by rw [eC39, va_up_ne _ _ (nz_zn N 12 18 (by decide))]; exact hC38_12
  have hC39_13 : C39 (N + 13) = .inl (G.2.2.1, 48, .inl (fun _ => 0)) := by rw [eC39, va_up_ne _ _ (nz_zn N 13 18 (by decide))]; exact hC38_13
  have hC39_14 : C39 (N + 14) = .inl (G.2.2.1, 48, .inl (fun _ => 0)) := by rw [eC39, va_up_ne _ _ (nz_zn N 14 18 (by decide))]; exact hC38_14
  have hC39_15 : C39 (N + 15) = .inl (G.2.2.1, 48, .inl (fun _ => 0)) := by rw [eC39, va_up_ne _ _ (nz_zn N 15 18 (by decide))]; exact hC38_15
  have hC39_16 : C39 (N + 16) = .inl (G.2.2.2.1, 64, .inl (fun _ => 0)) := by rw [eC39, va_up_ne _ _ (nz_zn N 16 18 (by decide))]; exact hC38_16
  have hC39_17 : C39 (N + 17) = .inl (G.2.2.1, 64, .inl (fun _ => 0)) := by rw [eC39, va_up_ne _ _ (nz_zn N 17 18 (by decide))]; exact hC38_17
  have hC39_18 : C39 (N + 18) = .inl (G.2.2.1, 8, .inl (fun _ => 0)) := by rw [eC39]; exact va_up_self _ _ _
  have hfC39 : ∀ i, i < N → i ≠ h → C39 i = C i := fun i hi hne => by rw [eC39, va_up_ne _ _ (nz_zh hi 18)]; exact hfC38 i hi hne
  have ha39_h : ad39 h = (ad h) := by rw [ead39, va_up_ne _ _ (nz_zh hh 18)]; exact ha37_h
  have ha39_0 : ad39 N = q2 := by rw [ead39, va_up_ne _ _ (nz_z0 N 18 (by decide))]; exact ha37_0
  have ha39_1 : ad39 (N + 1) = q4 := by rw [ead39, va_up_ne _ _ (nz_zn N 1 18 (by decide))]; exact ha37_1
  have ha39_2 : ad39 (N + 2) = q6 := by rw [ead39, va_up_ne _ _ (nz_zn N 2 18 (by decide))]; exact ha37_2
  have ha39_3 : ad39 (N + 3) = q8 := by rw [ead39, va_up_ne _ _ (nz_zn N 3 18 (by decide))]; exact ha37_3
  have ha39_4 : ad39 (N + 4) = q11 := by rw [ead39, va_up_ne _ _ (nz_zn N 4 18 (by decide))]; exact ha37_4
  have ha39_5 : ad39 (N + 5) = q13 := by rw [ead39, va_up_ne _ _ (nz_zn N 5 18 (by decide))]; exact ha37_5
  have ha39_6 : ad39 (N + 6) = q15 := by rw [ead39, va_up_ne _ _ (nz_zn N 6 18 (by decide))]; exact ha37_6
  have ha39_7 : ad39 (N + 7) = q17 := by rw [ead39, va_up_ne _ _ (nz_zn N 7 18 (by decide))]; exact ha37_7
  have ha39_8 : ad39 (N + 8) = q19 := by rw [ead39, va_up_ne _ _ (nz_zn N 8 18 (by decide))]; exact ha37_8
  have ha39_9 : ad39 (N + 9) = q21 := by rw [ead39, va_up_ne _ _ (nz_zn N 9 18 (by decide))]; exact ha37_9
  have ha39_10 : ad39 (N + 10) = q23 := by rw [ead39, va_up_ne _ _ (nz_zn N 10 18 (by decide))]; exact ha37_10
  have ha39_11 : ad39 (N + 11) = q25 := by rw [ead39, va_up_ne _ _ (nz_zn N 11 18 (by decide))]; exact ha37_11
  have ha39_12 : ad39 (N + 12) = q27 := by rw [ead39, va_up_ne _ _ (nz_zn N 12 18 (by decide))]; exact ha37_12
  have ha39_13 : ad39 (N + 13) = q29 := by rw [ead39, va_up_ne _ _ (nz_zn N 13 18 (by decide))]; exact ha37_13
  have ha39_14 : ad39 (N + 14) = q31 := by rw [ead39, va_up_ne _ _ (nz_zn N 14 18 (by decide))]; exact ha37_14
  have ha39_15 : ad39 (N + 15) = q33 := by rw [ead39, va_up_ne _ _ (nz_zn N 15 18 (by decide))]; exact ha37_15
  have ha39_16 : ad39 (N + 16) = q35 := by rw [ead39, va_up_ne _ _ (nz_zn N 16 18 (by decide))]; exact ha37_16
  have ha39_17 : ad39 (N + 17) = q37 := by rw [ead39, va_up_ne _ _ (nz_zn N 17 18 (by decide))]; exact ha37_17
  have ha39_18 : ad39 (N + 18) = q39 := by rw [ead39]; exact va_up_self _ _ _
  have hfa39 : ∀ i, i < N → ad39 i = ad i := fun i hi => by rw [ead39, va_up_ne _ _ (nz_zh hi 18)]; exact hfa37 i hi
  clear eC39 hfC38 hC38_h hC38_0 hC38_1 hC38_2 hC38_3 hC38_4 hC38_5 hC38_6 hC38_7 hC38_8 hC38_9 hC38_10 hC38_11 hC38_12 hC38_13 hC38_14 hC38_15 hC38_16 hC38_17 ead39 hfa37 ha37_h ha37_0 ha37_1 ha37_2 ha37_3 ha37_4 ha37_5 ha37_6 ha37_7 ha37_8 ha37_9 ha37_10 ha37_11 ha37_12 ha37_13 ha37_14 ha37_15 ha37_16 ha37_17 hw38
  refine x_putF (fs' := [.int 0, .int (nI 20), .ref q2, .ref q4, .ref q6, .ref q8, .int (nI 1), .ref q11, .ref q13, .ref q15, .int 0, .ref q17, .ref q19, .ref q21, .ref q23, .ref q25, .ref q27, .ref q29, .ref q31, .ref q33, .ref q35, .ref q37, .ref q39, .null, .int 0, .int 0, .int 0, .null, .null, .null, .null, .null, .null, .int 0, .int 0]) S hw39 h ha39_h (lt_zh hh 19) hC39_h rfl in_X8 tyX8_ok nmX8 22 (by decide) wf_X8_75 rfl hini rfl rfl rfl (by show 22 < 35; decide) rfl dX8_init_167 (fun C40 H40 locs40 eC40 hw40 => ?_)
  have hC40_h : C40 h = .inr (8, [.int 0, .int (nI 20), .ref q2, .ref q4, .ref q6, .ref q8, .int (nI 1), .ref q11, .ref q13, .ref q15, .int 0, .ref q17, .ref q19, .ref q21, .ref q23, .ref q25, .ref q27, .ref q29, .ref q31, .ref q33, .ref q35, .ref q37, .ref q39, .null, .int 0, .int 0, .int 0, .null, .null, .null, .null, .null, .null, .int 0, .int 0]) := by rw [eC40]; exact va_up_self _ _ _
  have hC40_0 : C40 N = .inl (G.2.2.1, 120, .inl (fun _ => 0)) := by rw [eC40, va_up_ne _ _ (Nat.ne_of_lt hh).symm]; exact hC39_0
  have hC40_1 : C40 (N + 1) = .inl (G.2.2.1, 120, .inl (fun _ => 0)) := by rw [eC40, va_up_ne _ _ (nz_zh hh 1).symm]; exact hC39_1
  have hC40_2 : C40 (N + 2) = .inl (G.2.2.1, 120, .inl (fun _ => 0)) := by rw [eC40, va_up_ne _ _ (nz_zh hh 2).symm]; exact hC39_2
  have hC40_3 : C40 (N + 3) = .inl (G.2.2.1, 120, .inl (fun _ => 0)) := by rw [eC40, va_up_ne _ _ (nz_zh hh 3).symm]; exact hC39_3
  have hC40_4 : C40 (N + 4) = .inl (G.2.2.1, 200, .inl (fun _ => 0)) := by rw [eC40, va_up_ne _ _ (nz_zh hh 4).symm]; exact hC39_4
  have hC40_5 : C40 (N + 5) = .inl (G.2.2.1, 200, .inl (fun _ => 0)) := by rw [eC40, va_up_ne _ _ (nz_zh hh 5).symm]; exact hC39_5
  have hC40_6 : C40 (N + 6) = .inl (G.2.2.1, 200, .inl (fun _ => 0)) := by rw [eC40, va_up_ne _ _ (nz_zh hh 6).symm]; exact hC39_6
  have hC40_7 : C40 (N + 7) = .inl (G.2.2.1, 6, .inl (fun _ => 0)) := by rw [eC40, va_up_ne _ _ (nz_zh hh 7).symm]; exact hC39_7
  have hC40_8 : C40 (N + 8) = .inl (G.2.2.1, 6, .inl (fun _ => 0)) := by rw [eC40, va_up_ne _ _ (nz_zh hh 8).symm]; exact hC39_8
  have hC40_9 : C40 (N + 9) = .inl (G.2.2.1, 6, .inl (fun _ => 0)) := by rw [eC40, va_up_ne _ _ (nz_zh hh 9).symm]; exact hC39_9
  have hC40_10 : C40 (N + 10) = .inl (G.2.2.2.1, 48, .inl (fun _ => 0)) := by rw [eC40, va_up_ne _ _ (nz_zh hh 10).symm]; exact hC39_10
  have hC40_11 : C40 (N + 11) = .inl (G.2.2.1, 48, .inl (fun _ => 0)) := by rw [eC40, va_up_ne _ _ (nz_zh hh 11).symm]; exact hC39_11
  have hC40_12 : C40 (N + 12) = .inl (G.2.2.1, 48, .inl (fun _ => 0)) := by rw [eC40, va_up_ne _ _ (nz_zh hh 12).symm]; exact hC39_12
  have hC40_13 : C40 (N + 13) = .inl (G.2.2.1, 48, .inl (fun _ => 0)) := by rw [eC40, va_up_ne _ _ (nz_zh hh 13).symm]; exact hC39_13
  have hC40_14 : C40 (N + 14) = .inl (G.2.2.1, 48, .inl (fun _ => 0)) := by rw [eC40, va_up_ne _ _ (nz_zh hh 14).symm]; exact hC39_14
  have hC40_15 : C40 (N + 15) = .inl (G.2.2.1, 48, .inl (fun _ => 0)) := by rw [eC40, va_up_ne _ _ (nz_zh hh 15).symm]; exact hC39_15
  have hC40_16 : C40 (N + 16) = .inl (G.2.2.2.1, 64, .inl (fun _ => 0)) := by rw [eC40, va_up_ne _ _ (nz_zh hh 16).symm]; exact hC39_16
  have hC40_17 : C40 (N + 17) = .inl (G.2.2.1, 64, .inl (fun _ => 0)) := by rw [eC40, va_up_ne _ _ (nz_zh hh 17).symm]; exact hC39_17
  have hC40_18 : C40 (N + 18) = .inl (G.2.2.1, 8, .inl (fun _ => 0)) := by rw [eC40, va_up_ne _ _ (nz_zh hh 18).symm]; exact hC39_18
  have hfC40 : ∀ i, i < N → i ≠ h → C40 i = C i := fun i hi hne => by rw [eC40, va_up_ne _ _ hne]; exact hfC39 i hi hne
  clear eC40 hfC39 hC39_h hC39_0 hC39_1 hC39_2 hC39_3 hC39_4 hC39_5 hC39_6 hC39_7 hC39_8 hC39_9 hC39_10 hC39_11 hC39_12 hC39_13 hC39_14 hC39_15 hC39_16 hC39_17 hC39_18 hw39
  refine lv_aload_n S.1 S.2.1 dX8_init_170 rfl (lv_at hl 0 rfl) ?_
  refine lv_bipush (v := nI 24) S.1 S.2.1 dX8_init_171 (by decide) ?_
  refine x_newI (N' := 24) S hw40 (by decide) (by decide) (by decide) (by decide) (by decide) rfl dX8_init_173 (fun q41 ad41 C41 H41 ead41 eC41 hw41 => ?_)
  have hC41_h : C41 h = .inr (8, [.int 0, .int (nI 20), .ref q2, .ref q4, .ref q6, .ref q8, .int (nI 1), .ref q11, .ref q13, .ref q15, .int 0, .ref q17, .ref q19, .ref q21, .ref q23, .ref q25, .ref q27, .ref q29, .ref q31, .ref q33, .ref q35, .ref q37, .ref q39, .null, .int 0, .int 0, .int 0, .null, .null, .null, .null, .null, .null, .int 0, .int 0]) := by rw [eC41, va_up_ne _ _ (nz_zh hh 19)]; exact hC40_h
  have hC41_0 : C41 N = .inl (G.2.2.1, 120, .inl (fun _ => 0)) := by rw [eC41, va_up_ne _ _ (nz_z0 N 19 (by decide))]; exact hC40_0
  have hC41_1 : C41 (N + 1) = .inl (G.2.2.1, 120, .inl (fun _ => 0)) := by rw [eC41, va_up_ne _ _ (nz_zn N 1 19 (by decide))]; exact hC40_1
  have hC41_2 : C41 (N + 2) = .inl (G.2.2.1, 120, .inl (fun _ => 0)) := by rw [eC41, va_up_ne _ _ (nz_zn N 2 19 (by decide))]; exact hC40_2
  have hC41_3 : C41 (N + 3) = .inl (G.2.2.1, 120, .inl (fun _ => 0)) := by rw [eC41, va_up_ne _ _ (nz_zn N 3 19 (by decide))]; exact hC40_3
  have hC41_4 : C41 (N + 4) = .inl (G.2.2.1, 200, .inl (fun _ => 0)) := by rw [eC41, va_up_ne _ _ (nz_zn N 4 19 (by decide))]; exact hC40_4
  have hC41_5 : C41 (N + 5) = .inl (G.2.2.1, 200, .inl (fun _ => 0)) := by rw [eC41, va_up_ne _ _ (nz_zn N 5 19 (by decide))]; exact hC40_5
  have hC41_6 : C41 (N + 6) = .inl (G.2.2.1, 200, .inl (fun _ => 0)) := by rw [eC41, va_up_ne _ _ (nz_zn N 6 19 (by decide))]; exact hC40_6
  have hC41_7 : C41 (N + 7) = .inl (G.2.2.1, 6, .inl (fun _ => 0)) := by rw [eC41, va_up_ne _ _ (nz_zn N 7 19 (by decide))]; exact hC40_7
  have hC41_8 : C41 (N + 8) = .inl (G.2.2.1, 6, .inl (fun _ => 0)) := by rw [eC41, va_up_ne _ _ (nz_zn N 8 19 (by decide))]; exact hC40_8
  have hC41_9 : C41 (N + 9) = .inl (G.2.2.1, 6, .inl (fun _ => 0)) := by rw [eC41, va_up_ne _ _ (nz_zn N 9 19 (by decide))]; exact hC40_9
  have hC41_10 : C41 (N + 10) = .inl (G.2.2.2.1, 48, .inl (fun _ => 0)) := by rw [eC41, va_up_ne _ _ (nz_zn N 10 19 (by decide))]; exact hC40_10
  have hC41_11 : C41 (N + 11) = .inl (G.2.2.1, 48, .inl (fun _ => 0)) := by rw [eC41, va_up_ne _ _ (nz_zn N 11 19 (by decide))]; exact hC40_11
  have hC41_12 : C41 (N + 12) = .inl (G.2.2.1, 48, .inl (fun _ => 0)) := by rw [eC41, va_up_ne _ _ (nz_zn N 12 19 (by decide))]; exact hC40_12
  have hC41_13 : C41 (N + 13) = .inl (G.2.2.1, 48, .inl (fun _ => 0)) := by rw [eC41, va_up_ne _ _ (nz_zn N 13 19 (by decide))]; exact hC40_13
  have hC41_14 : C41 (N + 14) = .inl (G.2.2.1, 48, .inl (fun _ => 0)) := by rw [eC41, va_up_ne _ _ (nz_zn N 14 19 (by decide))]; exact hC40_14
  have hC41_15 : C41 (N + 15) = .inl (G.2.2.1, 48, .inl (fun _ => 0)) := by rw [eC41, va_up_ne _ _ (nz_zn N 15 19 (by decide))]; exact hC40_15
  have hC41_16 : C41 (N + 16) = .inl (G.2.2.2.1, 64, .inl (fun _ => 0)) := by rw [eC41, va_up_ne _ _ (nz_zn N 16 19 (by decide))]; exact hC40_16
  have hC41_17 : C41 (N + 17) = .inl (G.2.2.1, 64, .inl (fun _ => 0)) := by rw [eC41, va_up_ne _ _ (nz_zn N 17 19 (by decide))]; exact hC40_17
  have hC41_18 : C41 (N + 18) = .inl (G.2.2.1, 8, .inl (fun _ => 0)) := by rw [eC41, va_up_ne _ _ (nz_zn N 18 19 (by decide))]; exact hC40_18
  have hC41_19 : C41 (N + 19) = .inl (G.2.2.1, 24, .inl (fun _ => 0)) := by rw [eC41]; exact va_up_self _ _ _
  have hfC41 : ∀ i, i < N → i ≠ h → C41 i = C i := fun i hi hne => by rw [eC41, va_up_ne _ _ (nz_zh hi 19)]; exact hfC40 i hi hne
  have ha41_h : ad41 h = (ad h) := by rw [ead41, va_up_ne _ _ (nz_zh hh 19)]; exact ha39_h
  have ha41_0 : ad41 N = q2 := by rw [ead41, va_up_ne _ _ (nz_z0 N 19 (by decide))]; exact ha39_0
  have ha41_1 : ad41 (N + 1) = q4 := by rw [ead41, va_up_ne _ _ (nz_zn N 1 19 (by decide))]; exact ha39_1
  have ha41_2 : ad41 (N + 2) = q6 := by rw [ead41, va_up_ne _ _ (nz_zn N 2 19 (by decide))]; exact ha39_2
  have ha41_3 : ad41 (N + 3) = q8 := by rw [ead41, va_up_ne _ _ (nz_zn N 3 19 (by decide))]; exact ha39_3
  have ha41_4 : ad41 (N + 4) = q11 := by rw [ead41, va_up_ne _ _ (nz_zn N 4 19 (by decide))]; exact ha39_4
  have ha41_5 : ad41 (N + 5) = q13 := by rw [ead41, va_up_ne _ _ (nz_zn N 5 19 (by decide))]; exact ha39_5
  have ha41_6 : ad41 (N + 6) = q15 := by rw [ead41, va_up_ne _ _ (nz_zn N 6 19 (by decide))]; exact ha39_6
  have ha41_7 : ad41 (N + 7) = q17 := by rw [ead41, va_up_ne _ _ (nz_zn N 7 19 (by decide))]; exact ha39_7
  have ha41_8 : ad41 (N + 8) = q19 := by rw [ead41, va_up_ne _ _ (nz_zn N 8 19 (by decide))]; exact ha39_8
  have ha41_9 : ad41 (N + 9) = q21 := by rw [ead41, va_up_ne _ _ (nz_zn N 9 19 (by decide))]; exact ha39_9
  have ha41_10 : ad41 (N + 10) = q23 := by rw [ead41, va_up_ne _ _ (nz_zn N 10 19 (by decide))]; exact ha39_10
  have ha41_11 : ad41 (N + 11) = q25 := by rw [ead41, va_up_ne _ _ (nz_zn N 11 19 (by decide))]; exact ha39_11
  have ha41_12 : ad41 (N + 12) = q27 := by rw [ead41, va_up_ne _ _ (nz_zn N 12 19 (by decide))]; exact ha39_12
  have ha41_13 : ad41 (N + 13) = q29 := by rw [ead41, va_up_ne _ _ (nz_zn N 13 19 (by decide))]; exact ha39_13
  have ha41_14 : ad41 (N + 14) = q31 := by rw [ead41, va_up_ne _ _ (nz_zn N 14 19 (by decide))]; exact ha39_14
  have ha41_15 : ad41 (N + 15) = q33 := by rw [ead41, va_up_ne _ _ (nz_zn N 15 19 (by decide))]; exact ha39_15
  have ha41_16 : ad41 (N + 16) = q35 := by rw [ead41, va_up_ne _ _ (nz_zn N 16 19 (by decide))]; exact ha39_16
  have ha41_17 : ad41 (N + 17) = q37 := by rw [ead41, va_up_ne _ _ (nz_zn N 17 19 (by decide))]; exact ha39_17
  have ha41_18 : ad41 (N + 18) = q39 := by rw [ead41, va_up_ne _ _ (nz_zn N 18 19 (by decide))]; exact ha39_18
  have ha41_19 : ad41 (N + 19) = q41 := by rw [ead41]; exact va_up_self _ _ _
  have hfa41 : ∀ i, i < N → ad41 i = ad i := fun i hi => by rw [ead41, va_up_ne _ _ (nz_zh hi 19)]; exact hfa39 i hi
  clear eC41 hfC40 hC40_h hC40_0 hC40_1 hC40_2 hC40_3 hC40_4 hC40_5 hC40_6 hC40_7 hC40_8 hC40_9 hC40_10 hC40_11 hC40_12 hC40_13 hC40_14 hC40_15 hC40_16 hC40_17 hC40_18 ead41 hfa39 ha39_h ha39_0 ha39_1 ha39_2 ha39_3 ha39_4 ha39_5 ha39_6 ha39_7 ha39_8 ha39_9 ha39_10 ha39_11 ha39_12 ha39_13 ha39_14 ha39_15 ha39_16 ha39_17 ha39_18 hw40
  refine x_putF (fs' := [.int 0, .int (nI 20), .ref q2, .ref q4, .ref q6, .ref q8, .int (nI 1), .ref q11, .ref q13, .ref q15, .int 0, .ref q17, .ref q19, .ref q21, .ref q23, .ref q25, .ref q27, .ref q29, .ref q31, .ref q33, .ref q35, .ref q37, .ref q39, .ref q41, .int 0, .int 0, .int 0, .null, .null, .null, .null, .null, .null, .int 0, .int 0]) S hw41 h ha41_h (lt_zh hh 20) hC41_h rfl in_X8 tyX8_ok nmX8 23 (by decide) wf_X8_78 rfl hini rfl rfl rfl (by show 23 < 35; decide) rfl dX8_init_175 (fun C42 H42 locs42 eC42 hw42 => ?_)
  have hC42_h : C42 h = .inr (8, [.int 0, .int (nI 20), .ref q2, .ref q4, .ref q6, .ref q8, .int (nI 1), .ref q11, .ref q13, .ref q15, .int 0, .ref q17, .ref q19, .ref q21, .ref q23, .ref q25, .ref q27, .ref q29, .ref q31, .ref q33, .ref q35, .ref q37, .ref q39, .ref q41, .int 0, .int 0, .int 0, .null, .null, .null, .null, .null, .null, .int 0, .int 0]) := by rw [eC42]; exact va_up_self _ _ _
  have hC42_0 : C42 N = .inl (G.2.2.1, 120, .inl (fun _ => 0)) := by rw [eC42, va_up_ne _ _ (Nat.ne_of_lt hh).symm]; exact hC41_0
  have hC42_1 : C42 (N + 1) = .inl (G.2.2.1, 120, .inl (fun _ => 0)) := by rw [eC42, va_up_ne _ _ (nz_zh hh 1).symm]; exact hC41_1
  have hC42_2 : C42 (N + 2) = .inl (G.2.2.1, 120, .inl (fun _ => 0)) := by rw [eC42, va_up_ne _ _ (nz_zh hh 2).symm]; exact hC41_2
  have hC42_3 : C42 (N + 3) = .inl (G.2.2.1, 120, .inl (fun _ => 0)) := by rw [eC42, va_up_ne _ _ (nz_zh hh 3).symm]; exact hC41_3
  have hC42_4 : C42 (N + 4) = .inl (G.2.2.1, 200, .inl (fun _ => 0)) := by rw [eC42, va_up_ne _ _ (nz_zh hh 4).symm]; exact hC41_4
  have hC42_5 : C42 (N + 5) = .inl (G.2.2.1, 200, .inl (fun _ => 0)) := by rw [eC42, va_up_ne _ _ (nz_zh hh 5).symm]; exact hC41_5
  have hC42_6 : C42 (N + 6) = .inl (G.2.2.1, 200, .inl (fun _ => 0)) := by rw [eC42, va_up_ne _ _ (nz_zh hh 6).symm]; exact hC41_6
  have hC42_7 : C42 (N + 7) = .inl (G.2.2.1, 6, .inl (fun _ => 0)) := by rw [eC42, va_up_ne _ _ (nz_zh hh 7).symm]; exact hC41_7
  have hC42_8 : C42 (N + 8) = .inl (G.2.2.1, 6, .inl (fun _ => 0)) := by rw [eC42, va_up_ne _ _ (nz_zh hh 8).symm]; exact hC41_8
  have hC42_9 : C42 (N + 9) = .inl (G.2.2.1, 6, .inl (fun _ => 0)) := by rw [eC42, va_up_ne _ _ (nz_zh hh 9).symm]; exact hC41_9
  have hC42_10 : C42 (N + 10) = .inl (G.2.2.2.1, 48, .inl (fun _ => 0)) := by rw [eC42, va_up_ne _ _ (nz_zh hh 10).symm]; exact hC41_10
  have hC42_11 : C42 (N + 11) = .inl (G.2.2.1, 48, .inl (fun _ => 0)) := by rw [eC42, va_up_ne _ _ (nz_zh hh 11).symm]; exact hC41_11
  have hC42_12 : C42 (N + 12) = .inl (G.2.2.1, 48, .inl (fun _ => 0)) := by rw [eC42, va_up_ne _ _ (nz_zh hh 12).symm]; exact hC41_12
  have hC42_13 : C42 (N + 13) = .inl (G.2.2.1, 48, .inl (fun _ => 0)) := by rw [eC42, va_up_ne _ _ (nz_zh hh 13).symm]; exact hC41_13
  have hC42_14 : C42 (N + 14) = .inl (G.2.2.1, 48, .inl (fun _ => 0)) := by rw [eC42, va_up_ne _ _ (nz_zh hh 14).symm]; exact hC41_14
  have hC42_15 : C42 (N + 15) = .inl (G.2.2.1, 48, .inl (fun _ => 0)) := by rw [eC42, va_up_ne _ _ (nz_zh hh 15).symm]; exact hC41_15
  have hC42_16 : C42 (N + 16) = .inl (G.2.2.2.1, 64, .inl (fun _ => 0)) := by rw [eC42, va_up_ne _ _ (nz_zh hh 16).symm]; exact hC41_16
  have hC42_17 : C42 (N + 17) = .inl (G.2.2.1, 64, .inl (fun _ => 0)) := by rw [eC42, va_up_ne _ _ (nz_zh hh 17).symm]; exact hC41_17
  have hC42_18 : C42 (N + 18) = .inl (G.2.2.1, 8, .inl (fun _ => 0)) := by rw [eC42, va_up_ne _ _ (nz_zh hh 18).symm]; exact hC41_18
  have hC42_19 : C42 (N + 19) = .inl (G.2.2.1, 24, .inl (fun _ => 0)) := by rw [eC42, va_up_ne _ _ (nz_zh hh 19).symm]; exact hC41_19
  have hfC42 : ∀ i, i < N → i ≠ h → C42 i = C i := fun i hi hne => by rw [eC42, va_up_ne _ _ hne]; exact hfC41 i hi hne
  clear eC42 hfC41 hC41_h hC41_0 hC41_1 hC41_2 hC41_3 hC41_4 hC41_5 hC41_6 hC41_7 hC41_8 hC41_9 hC41_10 hC41_11 hC41_12 hC41_13 hC41_14 hC41_15 hC41_16 hC41_17 hC41_18 hC41_19 hw41
  refine lv_aload_n S.1 S.2.1 dX8_init_178 rfl (lv_at hl 0 rfl) ?_
  refine lv_bipush (v := nI 20) S.1 S.2.1 dX8_init_179 (by decide) ?_
  refine x_newI (N' := 20) S hw42 (by decide) (by decide) (by decide) (by decide) (by decide) rfl dX8_init_181 (fun q43 ad43 C43 H43 ead43 eC43 hw43 => ?_)
  have hC43_h : C43 h = .inr (8, [.int 0, .int (nI 20), .ref q2, .ref q4, .ref q6, .ref q8, .int (nI 1), .ref q11, .ref q13, .ref q15, .int 0, .ref q17, .ref q19, .ref q21, .ref q23, .ref q25, .ref q27, .ref q29, .ref q31, .ref q33, .ref q35, .ref q37, .ref q39, .ref q41, .int 0, .int 0, .int 0, .null, .null, .null, .null, .null, .null, .int 0, .int 0]) := by rw [eC43, va_up_ne _ _ (nz_zh hh 20)]; exact hC42_h
  have hC43_0 : C43 N = .inl (G.2.2.1, 120, .inl (fun _ => 0)) := by rw [eC43, va_up_ne _ _ (nz_z0 N 20 (by decide))]; exact hC42_0
  have hC43_1 : C43 (N + 1) = .inl (G.2.2.1, 120, .inl (fun _ => 0)) := by rw [eC43, va_up_ne _ _ (nz_zn N 1 20 (by decide))]; exact hC42_1
  have hC43_2 : C43 (N + 2) = .inl (G.2.2.1, 120, .inl (fun _ => 0)) := by rw [eC43, va_up_ne _ _ (nz_zn N 2 20 (by decide))]; exact hC42_2
  have hC43_3 : C43 (N + 3) = .inl (G.2.2.1, 120, .inl (fun _ => 0)) := by rw [eC43, va_up_ne _ _ (nz_zn N 3 20 (by decide))]; exact hC42_3
  have hC43_4 : C43 (N + 4) = .inl (G.2.2.1, 200, .inl (fun _ => 0)) := by rw [eC43, va_up_ne _ _ (nz_zn N 4 20 (by decide))]; exact hC42_4
  have hC43_5 : C43 (N + 5) = .inl (G.2.2.1, 200, .inl (fun _ => 0)) := by rw [eC43, va_up_ne _ _ (nz_zn N 5 20 (by decide))]; exact hC42_5
  have hC43_6 : C43 (N + 6) = .inl (G.2.2.1, 200, .inl (fun _ => 0)) := by rw [eC43, va_up_ne _ _ (nz_zn N 6 20 (by decide))]; exact hC42_6
  have hC43_7 : C43 (N + 7) = .inl (G.2.2.1, 6, .inl (fun _ => 0)) := by rw [eC43, va_up_ne _ _ (nz_zn N 7 20 (by decide))]; exact hC42_7
  have hC43_8 : C43 (N + 8) = .inl (G.2.2.1, 6, .inl (fun _ => 0)) := by rw [eC43, va_up_ne _ _ (nz_zn N 8 20 (by decide))]; exact hC42_8
  have hC43_9 : C43 (N + 9) = .inl (G.2.2.1, 6, .inl (fun _ => 0)) := by rw [eC43, va_up_ne _ _ (nz_zn N 9 20 (by decide))]; exact hC42_9
  have hC43_10 : C43 (N + 10) = .inl (G.2.2.2.1, 48, .inl (fun _ => 0)) := by rw [eC43, va_up_ne _ _ (nz_zn N 10 20 (by decide))]; exact hC42_10
  have hC43_11 : C43 (N + 11) = .inl (G.2.2.1, 48, .inl (fun _ => 0)) := by rw [eC43, va_up_ne _ _ (nz_zn N 11 20 (by decide))]; exact hC42_11
  have hC43_12 : C43 (N + 12) = .inl (G.2.2.1, 48, .inl (fun _ => 0)) := by rw [eC43, va_up_ne _ _ (nz_zn N 12 20 (by decide))]; exact hC42_12
  have hC43_13 : C43 (N + 13) = .inl (G.2.2.1, 48, .inl (fun _ => 0)) := by rw [eC43, va_up_ne _ _ (nz_zn N 13 20 (by decide))]; exact hC42_13
  have hC43_14 : C43 (N + 14) = .inl (G.2.2.1, 48, .inl (fun _ => 0)) := by rw [eC43, va_up_ne _ _ (nz_zn N 14 20 (by decide))]; exact hC42_14
  have hC43_15 : C43 (N + 15) = .inl (G.2.2.1, 48, .inl (fun _ => 0)) := by rw [eC43, va_up_ne _ _ (nz_zn N 15 20 (by decide))]; exact hC42_15
  have hC43_16 : C43 (N + 16) = .inl (G.2.2.2.1, 64, .inl (fun _ => 0)) := by rw [eC43, va_up_ne _ _ (nz_zn N 16 20 (by decide))]; exact hC42_16
  have hC43_17 : C43 (N + 17) = .inl (G.2.2.1, 64, .inl (fun _ => 0)) := by rw [eC43, va_up_ne _ _ (nz_zn N 17 20 (by decide))]; exact hC42_17
  have hC43_18 : C43 (N + 18) = .inl (G.2.2.1, 8, .inl (fun _ => 0)) := by rw [eC43, va_up_ne _ _ (nz_zn N 18 20 (by decide))]; exact hC42_18
  have hC43_19 : C43 (N + 19) = .inl (G.2.2.1, 24, .inl (fun _ => 0)) := by rw [eC43, va_up_ne _ _ (nz_zn N 19 20 (by decide))]; exact hC42_19
  have hC43_20 : C43 (N + 20) = .inl (G.2.2.1, 20, .inl (fun _ => 0)) := by rw [eC43]; exact va_up_self _ _ _
  have hfC43 : ∀ i, i < N → i ≠ h → C43 i = C i := fun i hi hne => by rw [eC43, va_up_ne _ _ (nz_zh hi 20)]; exact hfC42 i hi hne
  have ha43_h : ad43 h = (ad h) := by rw [ead43, va_up_ne _ _ (nz_zh hh 20)]; exact ha41_h
  have ha43_0 : ad43 N = q2 := by rw [ead43, va_up_ne _ _ (nz_z0 N 20 (by decide))]; exact ha41_0
  have ha43_1 : ad43 (N + 1) = q4 := by rw [ead43, va_up_ne _ _ (nz_zn N 1 20 (by decide))]; exact ha41_1
  have ha43_2 : ad43 (N + 2) = q6 := by rw [ead43, va_up_ne _ _ (nz_zn N 2 20 (by decide))]; exact ha41_2
  have ha43_3 : ad43 (N + 3) = q8 := by rw [ead43, va_up_ne _ _ (nz_zn N 3 20 (by decide))]; exact ha41_3
  have ha43_4 : ad43 (N + 4) = q11 := by rw [ead43, va_up_ne _ _ (nz_zn N 4 20 (by decide))]; exact ha41_4
  have ha43_5 : ad43 (N + 5) = q13 := by rw [ead43, va_up_ne _ _ (nz_zn N 5 20 (by decide))]; exact ha41_5
  have ha43_6 : ad43 (N + 6) = q15 := by rw [ead43, va_up_ne _ _ (nz_zn N 6 20 (by decide))]; exact ha41_6
  have ha43_7 : ad43 (N + 7) = q17 := by rw [ead43, va_up_ne _ _ (nz_zn N 7 20 (by decide))]; exact ha41_7
  have ha43_8 : ad43 (N + 8) = q19 := by rw [ead43, va_up_ne _ _ (nz_zn N 8 20 (by decide))]; exact ha41_8
  have ha43_9 : ad43 (N + 9) = q21 := by rw [ead43, va_up_ne _ _ (nz_zn N 9 20 (by decide))]; exact ha41_9
  have ha43_10 : ad43 (N + 10) = q23 := by rw [ead43, va_up_ne _ _ (nz_zn N 10 20 (by decide))]; exact ha41_10
  have ha43_11 : ad43 (N + 11) = q25 := by rw [ead43, va_up_ne _ _ (nz_zn N 11 20 (by decide))]; exact ha41_11
  have ha43_12 : ad43 (N + 12) = q27 := by rw [ead43, va_up_ne _ _ (nz_zn N 12 20 (by decide))]; exact ha41_12
  have ha43_13 : ad43 (N + 13) = q29 := by rw [ead43, va_up_ne _ _ (nz_zn N 13 20 (by decide))]; exact ha41_13
  have ha43_14 : ad43 (N + 14) = q31 := by rw [ead43, va_up_ne _ _ (nz_zn N 14 20 (by decide))]; exact ha41_14
  have ha43_15 : ad43 (N + 15) = q33 := by rw [ead43, va_up_ne _ _ (nz_zn N 15 20 (by decide))]; exact ha41_15
  have ha43_16 : ad43 (N + 16) = q35 := by rw [ead43, va_up_ne _ _ (nz_zn N 16 20 (by decide))]; exact ha41_16
  have ha43_17 : ad43 (N + 17) = q37 := by rw [ead43, va_up_ne _ _ (nz_zn N 17 20 (by decide))]; exact ha41_17
  have ha43_18 : ad43 (N + 18) = q39 := by rw [ead43, va_up_ne _ _ (nz_zn N 18 20 (by decide))]; exact ha41_18
  have ha43_19 : ad43 (N + 19) = q41 := by rw [ead43, va_up_ne _ _ (nz_zn N 19 20 (by decide))]; exact ha41_19
  have ha43_20 : ad43 (N + 20) = q43 := by rw [ead43]; exact va_up_self _ _ _
  have hfa43 : ∀ i, i < N → ad43 i = ad i := fun i hi => by rw [ead43, va_up_ne _ _ (nz_zh hi 20)]; exact hfa41 i hi
  clear eC43 hfC42 hC42_h hC42_0 hC42_1 hC42_2 hC42_3 hC42_4 hC42_5 hC42_6 hC42_7 hC42_8 hC42_9 hC42_10 hC42_11 hC42_12 hC42_13 hC42_14 hC42_15 hC42_16 hC42_17 hC42_18 hC42_19 ead43 hfa41 ha41_h ha41_0 ha41_1 ha41_2 ha41_3 ha41_4 ha41_5 ha41_6 ha41_7 ha41_8 ha41_9 ha41_10 ha41_11 ha41_12 ha41_13 ha41_14 ha41_15 ha41_16 ha41_17 ha41_18 ha41_19 hw42
  refine x_putF (fs' := [.int 0, .int (nI 20), .ref q2, .ref q4, .ref q6, .ref q8, .int (nI 1), .ref q11, .ref q13, .ref q15, .int 0, .ref q17, .ref q19, .ref q21, .ref q23, .ref q25, .ref q27, .ref q29, .ref q31, .ref q33, .ref q35, .ref q37, .ref q39, .ref q41, .int 0, .int 0, .int 0, .ref q43, .null, .null, .null, .null, .null, .int 0, .int 0]) S hw43 h ha43_h (lt_zh hh 21) hC43_h rfl in_X8 tyX8_ok nmX8 27 (by decide) wf_X8_81 rfl hini rfl rfl rfl (by show 27 < 35; decide) rfl dX8_init_183 (fun C44 H44 locs44 eC44 hw44 => ?_)
  have hC44_h : C44 h = .inr (8, [.int 0, .int (nI 20), .ref q2, .ref q4, .ref q6, .ref q8, .int (nI 1), .ref q11, .ref q13, .ref q15, .int 0, .ref q17, .ref q19, .ref q21, .ref q23, .ref q25, .ref q27, .ref q29, .ref q31, .ref q33, .ref q35, .ref q37, .ref q39, .ref q41, .int 0, .int 0, .int 0, .ref q43, .null, .null, .null, .null, .null, .int 0, .int 0]) := by rw [eC44]; exact va_up_self _ _ _
  have hC44_0 : C44 N = .inl (G.2.2.1, 120, .inl (fun _ => 0)) := by rw [eC44, va_up_ne _ _ (Nat.ne_of_lt hh).symm]; exact hC43_0
  have hC44_1 : C44 (N + 1) = .inl (G.2.2.1, 120, .inl (fun _ => 0)) := by rw [eC44, va_up_ne _ _ (nz_zh hh 1).symm]; exact hC43_1
  have hC44_2 : C44 (N + 2) = .inl (G.2.2.1, 120, .inl (fun _ => 0)) := by rw [eC44, va_up_ne _ _ (nz_zh hh 2).symm]; exact hC43_2
  have hC44_3 : C44 (N + 3) = .inl (G.2.2.1, 120, .inl (fun _ => 0)) := by rw [eC44, va_up_ne _ _ (nz_zh hh 3).symm]; exact hC43_3
  have hC44_4 : C44 (N + 4) = .inl (G.2.2.1, 200, .inl (fun _ => 0)) := by rw [eC44, va_up_ne _ _ (nz_zh hh 4).symm]; exact hC43_4
  have hC44_5 : C44 (N + 5) = .inl (G.2.2.1, 200, .inl (fun _ => 0)) := by rw [eC44, va_up_ne _ _ (nz_zh hh 5).symm]; exact hC43_5
  have hC44_6 : C44 (N + 6) = .inl (G.2.2.1, 200, .inl (fun _ => 0)) := by rw [eC44, va_up_ne _ _ (nz_zh hh 6).symm]; exact hC43_6
  have hC44_7 : C44 (N + 7) = .inl (G.2.2.1, 6, .inl (fun _ => 0)) := by rw [eC44, va_up_ne _ _ (nz_zh hh 7).symm]; exact hC43_7
  have hC44_8 : C44 (N + 8) = .inl (G.2.2.1, 6, .inl (fun _ => 0)) := by rw [eC44, va_up_ne _ _ (nz_zh hh 8).symm]; exact hC43_8
  have hC44_9 : C44 (N + 9) = .inl (G.2.2.1, 6, .inl (fun _ => 0)) := by rw [eC44, va_up_ne _ _ (nz_zh hh 9).symm]; exact hC43_9
  have hC44_10 : C44 (N + 10) = .inl (G.2.2.2.1, 48, .inl (fun _ => 0)) := by rw [eC44, va_up_ne _ _ (nz_zh hh 10).symm]; exact hC43_10
  have hC44_11 : C44 (N + 11) = .inl (G.2.2.1, 48, .inl (fun _ => 0)) := by rw [eC44, va_up_ne _ _ (nz_zh hh 11).symm]; exact hC43_11
  have hC44_12 : C44 (N + 12) = .inl (G.2.2.1, 48, .inl (fun _ => 0)) := by rw [eC44, va_up_ne _ _ (nz_zh hh 12).symm]; exact hC43_12
  have hC44_13 : C44 (N + 13) = .inl (G.2.2.1, 48, .inl (fun _ => 0)) := by rw [eC44, va_up_ne _ _ (nz_zh hh 13).symm]; exact hC43_13
  have hC44_14 : C44 (N + 14) = .inl (G.2.2.1, 48, .inl (fun _ => 0)) := by rw [eC44, va_up_ne _ _ (nz_zh hh 14).symm]; exact hC43_14
  have hC44_15 : C44 (N + 15) = .inl (G.2.2.1, 48, .inl (fun _ => 0)) := by rw [eC44, va_up_ne _ _ (nz_zh hh 15).symm]; exact hC43_15
  have hC44_16 : C44 (N + 16) = .inl (G.2.2.2.1, 64, .inl (fun _ => 0)) := by rw [eC44, va_up_ne _ _ (nz_zh hh 16).symm]; exact hC43_16
  have hC44_17 : C44 (N + 17) = .inl (G.2.2.1, 64, .inl (fun _ => 0)) := by rw [eC44, va_up_ne _ _ (nz_zh hh 17).symm]; exact hC43_17
  have hC44_18 : C44 (N + 18) = .inl (G.2.2.1, 8, .inl (fun _ => 0)) := by rw [eC44, va_up_ne _ _ (nz_zh hh 18).symm]; exact hC43_18
  have hC44_19 : C44 (N + 19) = .inl (G.2.2.1, 24, .inl (fun _ => 0)) := by rw [eC44, va_up_ne _ _ (nz_zh hh 19).symm]; exact hC43_19
  have hC44_20 : C44 (N + 20) = .inl (G.2.2.1, 20, .inl (fun _ => 0)) := by rw [eC44, va_up_ne _ _ (nz_zh hh 20).symm]; exact hC43_20
  have hfC44 : ∀ i, i < N → i ≠ h → C44 i = C i := fun i hi hne => by rw [eC44, va_up_ne _ _ hne]; exact hfC43 i hi hne
  clear eC44 hfC43 hC43_h hC43_0 hC43_1 hC43_2 hC43_3 hC43_4 hC43_5 hC43_6 hC43_7 hC43_8 hC43_9 hC43_10 hC43_11 hC43_12 hC43_13 hC43_14 hC43_15 hC43_16 hC43_17 hC43_18 hC43_19 hC43_20 hw43
  refine lv_aload_n S.1 S.2.1 dX8_init_186 rfl (lv_at hl 0 rfl) ?_
  refine lv_bipush (v := nI 20) S.1 S.2.1 dX8_init_187 (by decide) ?_
  refine x_newI (N' := 20) S hw44 (by decide) (by decide) (by decide) (by decide) (by decide) rfl dX8_init_189 (fun q45 ad45 C45 H45 ead45 eC45 hw45 => ?_)
  have hC45_h : C45 h = .inr (8, [.int 0, .int (nI 20), .ref q2, .ref q4, .ref q6, .ref q8, .int (nI 1), .ref q11, .ref q13, .ref q15, .int 0, .ref q17, .ref q19, .ref q21, .ref q23, .ref q25, .ref q27, .ref q29, .ref q31, .ref q33, .ref q35, .ref q37, .ref q39, .ref q41, .int 0, .int 0, .int 0, .ref q43, .null, .null, .null, .null, .null, .int 0, .int 0]) := by rw [eC45, va_up_ne _ _ (nz_zh hh 21)]; exact hC44_h
  have hC45_0 : C45 N = .inl (G.2.2.1, 120, .inl (fun _ => 0)) := by rw [eC45, va_up_ne _ _ (nz_z0 N 21 (by decide))]; exact hC44_0
  have hC45_1 : C45 (N + 1) = .inl (G.2.2.1, 120, .inl (fun _ => 0)) := by rw [eC45, va_up_ne _ _ (nz_zn N 1 21 (by decide))]; exact hC44_1
  have hC45_2 : C45 (N + 2) = .inl (G.2.2.1, 120, .inl (fun _ => 0)) := by rw [eC45, va_up_ne _ _ (nz_zn N 2 21 (by decide))]; exact hC44_2
  have hC45_3 : C45 (N + 3) = .inl (G.2.2.1, 120, .inl (fun _ => 0)) := by rw [eC45, va_up_ne _ _ (nz_zn N 3 21 (by decide))]; exact hC44_3
  have hC45_4 : C45 (N + 4) = .inl (G.2.2.1, 200, .inl (fun _ => 0)) := by rw [eC45, va_up_ne _ _ (nz_zn N 4 21 (by decide))]; exact hC44_4
  have hC45_5 : C45 (N + 5) = .inl (G.2.2.1, 200, .inl (fun _ => 0)) := by rw [eC45, va_up_ne _ _ (nz_zn N 5 21 (by decide))]; exact hC44_5
  have hC45_6 : C45 (N + 6) = .inl (G.2.2.1, 200, .inl (fun _ => 0)) := by rw [eC45, va_up_ne _ _ (nz_zn N 6 21 (by decide))]; exact hC44_6
  have hC45_7 : C45 (N + 7) = .inl (G.2.2.1, 6, .inl (fun _ => 0)) := by rw [eC45, va_up_ne _ _ (nz_zn N 7 21 (by decide))]; exact hC44_7
  have hC45_8 : C45 (N + 8) = .inl (G.2.2.1, 6, .inl (fun _ => 0)) := by rw [eC45, va_up_ne _ _ (nz_zn N 8 21 (by decide))]; exact hC44_8
  have hC45_9 : C45 (N + 9) = .inl (G.2.2.1, 6, .inl (fun _ => 0)) := by rw [eC45, va_up_ne _ _ (nz_zn N 9 21 (by decide))]; exact hC44_9
  have hC45_10 : C45 (N + 10) = .inl (G.2.2.2.1, 48, .inl (fun _ => 0)) := by rw [eC45, va_up_ne _ _ (nz_zn N 10 21 (by decide))]; exact hC44_10
  have hC45_11 : C45 (N + 11) = .inl (G.2.2.1, 48, .inl (fun _ => 0)) := by rw [eC45, va_up_ne _ _ (nz_zn N 11 21 (by decide))]; exact hC44_11
  have hC45_12 : C45 (N + 12) = .inl (G.2.2.1, 48, .inl (fun _ => 0)) := by rw [eC45, va_up_ne _ _ (nz_zn N 12 21 (by decide))]; exact hC44_12
  have hC45_13 : C45 (N + 13) = .inl (G.2.2.1, 48, .inl (fun _ => 0)) := by rw [eC45, va_up_ne _ _ (nz_zn N 13 21 (by decide))]; exact hC44_13
  have hC45_14 : C45 (N + 14) = .inl (G.2.2.1, 48, .inl (fun _ => 0)) := by rw [eC45, va_up_ne _ _ (nz_zn N 14 21 (by decide))]; exact hC44_14
  have hC45_15 : C45 (N + 15) = .inl (G.2.2.1, 48, .inl (fun _ => 0)) := by rw [eC45, va_up_ne _ _ (nz_zn N 15 21 (by decide))]; exact hC44_15
  have hC45_16 : C45 (N + 16) = .inl (G.2.2.2.1, 64, .inl (fun _ => 0)) := by rw [eC45, va_up_ne _ _ (nz_zn N 16 21 (by decide))]; exact hC44_16
  have hC45_17 : C45 (N + 17) = .inl (G.2.2.1, 64, .inl (fun _ => 0)) := by rw [eC45, va_up_ne _ _ (nz_zn N 17 21 (by decide))]; exact hC44_17
  have hC45_18 : C45 (N + 18) = .inl (G.2.2.1, 8, .inl (fun _ => 0)) := by rw [eC45, va_up_ne _ _ (nz_zn N 18 21 (by decide))]; exact hC44_18
  have hC45_19 : C45 (N + 19) = .inl (G.2.2.1, 24, .inl (fun _ => 0)) := by rw [eC45, va_up_ne _ _ (nz_zn N 19 21 (by decide))]; exact hC44_19
  have hC45_20 : C45 (N + 20) = .inl (G.2.2.1, 20, .inl (fun _ => 0)) := by rw [eC45, va_up_ne _ _ (nz_zn N 20 21 (by decide))]; exact hC44_20
  have hC45_21 : C45 (N + 21) = .inl (G.2.2.1, 20, .inl (fun _ => 0)) := by rw [eC45]; exact va_up_self _ _ _
  have hfC45 : ∀ i, i < N → i ≠ h → C45 i = C i := fun i hi hne => by rw [eC45, va_up_ne _ _ (nz_zh hi 21)]; exact hfC44 i hi hne
  have ha45_h : ad45 h = (ad h) := by rw [ead45, va_up_ne _ _ (nz_zh hh 21)]; exact ha43_h
  have ha45_0 : ad45 N = q2 := by rw [ead45, va_up_ne _ _ (nz_z0 N 21 (by decide))]; exact ha43_0
  have ha45_1 : ad45 (N + 1) = q4 := by rw [ead45, va_up_ne _ _ (nz_zn N 1 21 (by decide))]; exact ha43_1
  have ha45_2 : ad45 (N + 2) = q6 := by rw [ead45, va_up_ne _ _ (nz_zn N 2 21 (by decide))]; exact ha43_2
  have ha45_3 : ad45 (N + 3) = q8 := by rw [ead45, va_up_ne _ _ (nz_zn N 3 21 (by decide))]; exact ha43_3
  have ha45_4 : ad45 (N + 4) = q11 := by rw [ead45, va_up_ne _ _ (nz_zn N 4 21 (by decide))]; exact ha43_4
  have ha45_5 : ad45 (N + 5) = q13 := by rw [ead45, va_up_ne _ _ (nz_zn N 5 21 (by decide))]; exact ha43_5
  have ha45_6 : ad45 (N + 6) = q15 := by rw [ead45, va_up_ne _ _ (nz_zn N 6 21 (by decide))]; exact ha43_6
  have ha45_7 : ad45 (N + 7) = q17 := by rw [ead45, va_up_ne _ _ (nz_zn N 7 21 (by decide))]; exact ha43_7
  have ha45_8 : ad45 (N + 8) = q19 := by rw [ead45, va_up_ne _ _ (nz_zn N 8 21 (by decide))]; exact ha43_8
  have ha45_9 : ad45 (N + 9) = q21 := by rw [ead45, va_up_ne _ _ (nz_zn N 9 21 (by decide))]; exact ha43_9
  have ha45_10 : ad45 (N + 10) = q23 := by rw [ead45, va_up_ne _ _ (nz_zn N 10 21 (by decide))]; exact ha43_10
  have ha45_11 : ad45 (N + 11) = q25 := by rw [ead45, va_up_ne _ _ (nz_zn N 11 21 (by decide))]; exact ha43_11
  have ha45_12 : ad45 (N + 12) = q27 := by rw [ead45, va_up_ne _ _ (nz_zn N 12 21 (by decide))]; exact ha43_12
  have ha45_13 : ad45 (N + 13) = q29 := by rw [ead45, va_up_ne _ _ (nz_zn N 13 21 (by decide))]; exact ha43_13
  have ha45_14 : ad45 (N + 14) = q31 := by rw [ead45, va_up_ne _ _ (nz_zn N 14 21 (by decide))]; exact ha43_14
  have ha45_15 : ad45 (N + 15) = q33 := by rw [ead45, va_up_ne _ _ (nz_zn N 15 21 (by decide))]; exact ha43_15
  have ha45_16 : ad45 (N + 16) = q35 := by rw [ead45, va_up_ne _ _ (nz_zn N 16 21 (by decide))]; exact ha43_16
  have ha45_17 : ad45 (N + 17) = q37 := by rw [ead45, va_up_ne _ _ (nz_zn N 17 21 (by decide))]; exact ha43_17
  have ha45_18 : ad45 (N + 18) = q39 := by rw [ead45, va_up_ne _ _ (nz_zn N 18 21 (by decide))]; exact ha43_18
  have ha45_19 : ad45 (N + 19) = q41 := by rw [ead45, va_up_ne _ _ (nz_zn N 19 21 (by decide))]; exact ha43_19
  have ha45_20 : ad45 (N + 20) = q43 := by rw [ead45, va_up_ne _ _ (nz_zn N 20 21 (by decide))]; exact ha43_20
  have ha45_21 : ad45 (N + 21) = q45 := by rw [ead45]; exact va_up_self _ _ _
  have hfa45 : ∀ i, i < N → ad45 i = ad i := fun i hi => by rw [ead45, va_up_ne _ _ (nz_zh hi 21)]; exact hfa43 i hi
  clear eC45 hfC44 hC44_h hC44_0 hC44_1 hC44_2 hC44_3 hC44_4 hC44_5 hC44_6 hC44_7 hC44_8 hC44_9 hC44_10 hC44_11 hC44_12 hC44_13 hC44_14 hC44_15 hC44_16 hC44_17 hC44_18 hC44_19 hC44_20 ead45 hfa43 ha43_h ha43_0 ha43_1 ha43_2 ha43_3 ha43_4 ha43_5 ha43_6 ha43_7 ha43_8 ha43_9 ha43_10 ha43_11 ha43_12 ha43_13 ha43_14 ha43_15 ha43_16 ha43_17 ha43_18 ha43_19 ha43_20 hw44
  refine x_putF (fs' := [.int 0, .int (nI 20), .ref q2, .ref q4, .ref q6, .ref q8, .int (nI 1), .ref q11, .ref q13, .ref q15, .int 0, .ref q17, .ref q19, .ref q21, .ref q23, .ref q25, .ref q27, .ref q29, .ref q31, .ref q33, .ref q35, .ref q37, .ref q39, .ref q41, .int 0, .int 0, .int 0, .ref q43, .ref q45, .null, .null, .null, .null, .int 0, .int 0]) S hw45 h ha45_h (lt_zh hh 22) hC45_h rfl in_X8 tyX8_ok nmX8 28 (by decide) wf_X8_84 rfl hini rfl rfl rfl (by show 28 < 35; decide) rfl dX8_init_191 (fun C46 H46 locs46 eC46 hw46 => ?_)
  have hC46_h : C46 h = .inr (8, [.int 0, .int (nI 20), .ref q2, .ref q4, .ref q6, .ref q8, .int (nI 1), .ref q11, .ref q13, .ref q15, .int 0, .ref q17, .ref q19, .ref q21, .ref q23, .ref q25, .ref q27, .ref q29, .ref q31, .ref q33, .ref q35, .ref q37, .ref q39, .ref q41, .int 0, .int 0, .int 0, .ref q43, .ref q45, .null, .null, .null, .null, .int 0, .int 0]) := by rw [eC46]; exact va_up_self _ _ _
  have hC46_0 : C46 N = .inl (G.2.2.1, 120, .inl (fun _ => 0)) := by rw [eC46, va_up_ne _ _ (Nat.ne_of_lt hh).symm]; exact hC45_0
  have hC46_1 : C46 (N + 1) = .inl (G.2.2.1, 120, .inl (fun _ => 0)) := by rw [eC46, va_up_ne _ _ (nz_zh hh 1).symm]; exact hC45_1
  have hC46_2 : C46 (N + 2) = .inl (G.2.2.1, 120, .inl (fun _ => 0)) := by rw [eC46, va_up_ne _ _ (nz_zh hh 2).symm]; exact hC45_2
  have hC46_3 : C46 (N + 3) = .inl (G.2.2.1, 120, .inl (fun _ => 0)) := by rw [eC46, va_up_ne _ _ (nz_zh hh 3).symm]; exact hC45_3
  have hC46_4 : C46 (N + 4) = .inl (G.2.2.1, 200, .inl (fun _ => 0)) := by rw [eC46, va_up_ne _ _ (nz_zh hh 4).symm]; exact hC45_4
  have hC46_5 : C46 (N + 5) = .inl (G.2.2.1, 200, .inl (fun _ => 0)) := by rw [eC46, va_up_ne _ _ (nz_zh hh 5).symm]; exact hC45_5
  have hC46_6 : C46 (N + 6) = .inl (G.2.2.1, 200, .inl (fun _ => 0)) := by rw [eC46, va_up_ne _ _ (nz_zh hh 6).symm]; exact hC45_6
  have hC46_7 : C46 (N + 7) = .inl (G.2.2.1, 6, .inl (fun _ => 0)) := by rw [eC46, va_up_ne _ _ (nz_zh hh 7).symm]; exact hC45_7
  have hC46_8 : C46 (N + 8) = .inl (G.2.2.1, 6, .inl (fun _ => 0)) := by rw [eC46, va_up_ne _ _ (nz_zh hh 8).symm]; exact hC45_8
  have hC46_9 : C46 (N + 9) = .inl (G.2.2.1, 6, .inl (fun _ => 0)) := by rw [eC46, va_up_ne _ _ (nz_zh hh 9).symm]; exact hC45_9
  have hC46_10 : C46 (N + 10) = .inl (G.2.2.2.1, 48, .inl (fun _ => 0)) := by rw [eC46, va_up_ne _ _ (nz_zh hh 10).symm]; exact hC45_10
  have hC46_11 : C46 (N + 11) = .inl (G.2.2.1, 48, .inl (fun _ => 0)) := by rw [eC46, va_up_ne _ _ (nz_zh hh 11).symm]; exact hC45_11
  have hC46_12 : C46 (N + 12) = .inl (G.2.2.1, 48, .inl (fun _ => 0)) := by rw [eC46, va_up_ne _ _ (nz_zh hh 12).symm]; exact hC45_12
  have hC46_13 : C46 (N + 13) = .inl (G.2.2.1, 48, .inl (fun _ => 0)) := by rw [eC46, va_up_ne _ _ (nz_zh hh 13).symm]; exact hC45_13
  have hC46_14 : C46 (N + 14) = .inl (G.2.2.1, 48, .inl (fun _ => 0)) := by rw [eC46, va_up_ne _ _ (nz_zh hh 14).symm]; exact hC45_14
  have hC46_15 : C46 (N + 15) = .inl (G.2.2.1, 48, .inl (fun _ => 0)) := by rw [eC46, va_up_ne _ _ (nz_zh hh 15).symm]; exact hC45_15
  have hC46_16 : C46 (N + 16) = .inl (G.2.2.2.1, 64, .inl (fun _ => 0)) := by rw [eC46, va_up_ne _ _ (nz_zh hh 16).symm]; exact hC45_16
  have hC46_17 : C46 (N + 17) = .inl (G.2.2.1, 64, .inl (fun _ => 0)) := by rw [eC46, va_up_ne _ _ (nz_zh hh 17).symm]; exact hC45_17
  have hC46_18 : C46 (N + 18) = .inl (G.2.2.1, 8, .inl (fun _ => 0)) := by rw [eC46, va_up_ne _ _ (nz_zh hh 18).symm]; exact hC45_18
  have hC46_19 : C46 (N + 19) = .inl (G.2.2.1, 24, .inl (fun _ => 0)) := by rw [eC46, va_up_ne _ _ (nz_zh hh 19).symm]; exact hC45_19
  have hC46_20 : C46 (N + 20) = .inl (G.2.2.1, 20, .inl (fun _ => 0)) := by rw [eC46, va_up_ne _ _ (nz_zh hh 20).symm]; exact hC45_20
  have hC46_21 : C46 (N + 21) = .inl (G.2.2.1, 20, .inl (fun _ => 0)) := by rw [eC46, va_up_ne _ _ (nz_zh hh 21).symm]; exact hC45_21
  have hfC46 : ∀ i, i < N → i ≠ h → C46 i = C i := fun i hi hne => by rw [eC46, va_up_ne _ _ hne]; exact hfC45 i hi hne
  clear eC46 hfC45 hC45_h hC45_0 hC45_1 hC45_2 hC45_3 hC45_4 hC45_5 hC45_6 hC45_7 hC45_8 hC45_9 hC45_10 hC45_11 hC45_12 hC45_13 hC45_14 hC45_15 hC45_16 hC45_17 hC45_18 hC45_19 hC45_20 hC45_21 hw45
  refine lv_aload_n S.1 S.2.1 dX8_init_194 rfl (lv_at hl 0 rfl) ?_
  refine lv_bipush (v := nI 20) S.1 S.2.1 dX8_init_195 (by decide) ?_
  refine x_newI (N' := 20) S hw46 (by decide) (by decide) (by decide) (by decide) (by decide) rfl dX8_init_197 (fun q47 ad47 C47 H47 ead47 eC47 hw47 => ?_)
  have hC47_h : C47 h = .inr (8, [.int 0, .int (nI 20), .ref q2, .ref q4, .ref q6, .ref q8, .int (nI 1), .ref q11, .ref q13, .ref q15, .int 0, .ref q17, .ref q19, .ref q21, .ref q23, .ref q25, .ref q27, .ref q29, .ref q31, .ref q33, .ref q35, .ref q37, .ref q39, .ref q41, .int 0, .int 0, .int 0, .ref q43, .ref q45, .null, .null, .null, .null, .int 0, .int 0]) := by rw [eC47, va_up_ne _ _ (nz_zh hh 22)]; exact hC46_h
  have hC47_0 : C47 N = .inl (G.2.2.1, 120, .inl (fun _ => 0)) := by rw [eC47, va_up_ne _ _ (nz_z0 N 22 (by decide))]; exact hC46_0
  have hC47_1 : C47 (N + 1) = .inl (G.2.2.1, 120, .inl (fun _ => 0)) := by rw [eC47, va_up_ne _ _ (nz_zn N 1 22 (by decide))]; exact hC46_1
  have hC47_2 : C47 (N + 2) = .inl (G.2.2.1, 120, .inl (fun _ => 0)) := by rw [eC47, va_up_ne _ _ (nz_zn N 2 22 (by decide))]; exact hC46_2
  have hC47_3 : C47 (N + 3) = .inl (G.2.2.1, 120, .inl (fun _ => 0)) := by rw [eC47, va_up_ne _ _ (nz_zn N 3 22 (by decide))]; exact hC46_3
  have hC47_4 : C47 (N + 4) = .inl (G.2.2.1, 200, .inl (fun _ => 0)) := by rw [eC47, va_up_ne _ _ (nz_zn N 4 22 (by decide))]; exact hC46_4
  have hC47_5 : C47 (N + 5) = .inl (G.2.2.1, 200, .inl (fun _ => 0)) := by rw [eC47, va_up_ne _ _ (nz_zn N 5 22 (by decide))]; exact hC46_5
  have hC47_6 : C47 (N + 6) = .inl (G.2.2.1, 200, .inl (fun _ => 0)) := by rw [eC47, va_up_ne _ _ (nz_zn N 6 22 (by decide))]; exact hC46_6
  have hC47_7 : C47 (N + 7) = .inl (G.2.2.1, 6, .inl (fun _ => 0)) := by rw [eC47, va_up_ne _ _ (nz_zn N 7 22 (by decide))]; exact hC46_7
  have hC47_8 : C47 (N + 8) = .inl (G.2.2.1, 6, .inl (fun _ => 0)) := by rw [eC47, va_up_ne _ _ (nz_zn N 8 22 (by decide))]; exact hC46_8
  have hC47_9 : C47 (N + 9) = .inl (G.2.2.1, 6, .inl (fun _ => 0)) := by rw [eC47, va_up_ne _ _ (nz_zn N 9 22 (by decide))]; exact hC46_9
  have hC47_10 : C47 (N + 10) = .inl (G.2.2.2.1, 48, .inl (fun _ => 0)) := by rw [eC47, va_up_ne _ _ (nz_zn N 10 22 (by decide))]; exact hC46_10
  have hC47_11 : C47 (N + 11) = .inl (G.2.2.1, 48, .inl (fun _ => 0)) := by rw [eC47, va_up_ne _ _ (nz_zn N 11 22 (by decide))]; exact hC46_11
  have hC47_12 : C47 (N + 12) = .inl (G.2.2.1, 48, .inl (fun _ => 0)) := by rw [eC47, va_up_ne _ _ (nz_zn N 12 22 (by decide))]; exact hC46_12
  have hC47_13 : C47 (N + 13) = .inl (G.2.2.1, 48, .inl (fun _ => 0)) := by rw [eC47, va_up_ne _ _ (nz_zn N 13 22 (by decide))]; exact hC46_13
  have hC47_14 : C47 (N + 14) = .inl (G.2.2.1, 48, .inl (fun _ => 0)) := by rw [eC47, va_up_ne _ _ (nz_zn N 14 22 (by decide))]; exact hC46_14
  have hC47_15 : C47 (N + 15) = .inl (G.2.2.1, 48, .inl (fun _ => 0)) := by rw [eC47, va_up_ne _ _ (nz_zn N 15 22 (by decide))]; exact hC46_15
  have hC47_16 : C47 (N + 16) = .inl (G.2.2.2.1, 64, .inl (fun _ => 0)) := by rw [eC47, va_up_ne _ _ (nz_zn N 16 22 (by decide))]; exact hC46_16
  have hC47_17 : C47 (N + 17) = .inl (G.2.2.1, 64, .inl (fun _ => 0)) := by rw [eC47, va_up_ne _ _ (nz_zn N 17 22 (by decide))]; exact hC46_17
  have hC47_18 : C47 (N + 18) = .inl (G.2.2.1, 8, .inl (fun _ => 0)) := by rw [eC47, va_up_ne _ _ (nz_zn N 18 22 (by decide))]; exact hC46_18
  have hC47_19 : C47 (N + 19) = .inl (G.2.2.1, 24, .inl (fun _ => 0)) := by rw [eC47, va_up_ne _ _ (nz_zn N 19 22 (by decide))]; exact hC46_19
  have hC47_20 : C47 (N + 20) = .inl (G.2.2.1, 20, .inl (fun _ => 0)) := by rw [eC47, va_up_ne _ _ (nz_zn N 20 22 (by decide))]; exact hC46_20
  have hC47_21 : C47 (N + 21) = .inl (G.2.2.1, 20, .inl (fun _ => 0)) := by rw [eC47, va_up_ne _ _ (nz_zn N 21 22 (by decide))]; exact hC46_21
  have hC47_22 : C47 (N + 22) = .inl (G.2.2.1, 20, .inl (fun _ => 0)) := by rw [eC47]; exact va_up_self _ _ _
  have hfC47 : ∀ i, i < N → i ≠ h → C47 i = C i := fun i hi hne => by rw [eC47, va_up_ne _ _ (nz_zh hi 22)]; exact hfC46 i hi hne
  have ha47_h : ad47 h = (ad h) := by rw [ead47, va_up_ne _ _ (nz_zh hh 22)]; exact ha45_h
  have ha47_0 : ad47 N = q2 := by rw [ead47, va_up_ne _ _ (nz_z0 N 22 (by decide))]; exact ha45_0
  have ha47_1 : ad47 (N + 1) = q4 := by rw [ead47, va_up_ne _ _ (nz_zn N 1 22 (by decide))]; exact ha45_1
  have ha47_2 : ad47 (N + 2) = q6 := by rw [ead47, va_up_ne _ _ (nz_zn N 2 22 (by decide))]; exact ha45_2
  have ha47_3 : ad47 (N + 3) = q8 := by rw [ead47, va_up_ne _ _ (nz_zn N 3 22 (by decide))]; exact ha45_3
  have ha47_4 : ad47 (N + 4) = q11 := by rw [ead47, va_up_ne _ _ (nz_zn N 4 22 (by decide))]; exact ha45_4
  have ha47_5 : ad47 (N + 5) = q13 := by rw [ead47, va_up_ne _ _ (nz_zn N 5 22 (by decide))]; exact ha45_5
  have ha47_6 : ad47 (N + 6) = q15 := by rw [ead47, va_up_ne _ _ (nz_zn N 6 22 (by decide))]; exact ha45_6
  have ha47_7 : ad47 (N + 7) = q17 := by rw [ead47, va_up_ne _ _ (nz_zn N 7 22 (by decide))]; exact ha45_7
  have ha47_8 : ad47 (N + 8) = q19 := by rw [ead47, va_up_ne _ _ (nz_zn N 8 22 (by decide))]; exact ha45_8
  have ha47_9 : ad47 (N + 9) = q21 := by rw [ead47, va_up_ne _ _ (nz_zn N 9 22 (by decide))]; exact ha45_9
  have ha47_10 : ad47 (N + 10) = q23 := by rw [ead47, va_up_ne _ _ (nz_zn N 10 22 (by decide))]; exact ha45_10
  have ha47_11 : ad47 (N + 11) = q25 := by rw [ead47, va_up_ne _ _ (nz_zn N 11 22 (by decide))]; exact ha45_11
  have ha47_12 : ad47 (N + 12) = q27 := by rw [ead47, va_up_ne _ _ (nz_zn N 12 22 (by decide))]; exact ha45_12
  have ha47_13 : ad47 (N + 13) = q29 := by rw [ead47, va_up_ne _ _ (nz_zn N 13 22 (by decide))]; exact ha45_13
  have ha47_14 : ad47 (N + 14) = q31 := by rw [ead47, va_up_ne _ _ (nz_zn N 14 22 (by decide))]; exact ha45_14
  have ha47_15 : ad47 (N + 15) = q33 := by rw [ead47, va_up_ne _ _ (nz_zn N 15 22 (by decide))]; exact ha45_15
  have ha47_16 : ad47 (N + 16) = q35 := by rw [ead47, va_up_ne _ _ (nz_zn N 16 22 (by decide))]; exact ha45_16
  have ha47_17 : ad47 (N + 17) = q37 := by rw [ead47, va_up_ne _ _ (nz_zn N 17 22 (by decide))]; exact ha45_17
  have ha47_18 : ad47 (N + 18) = q39 := by rw [ead47, va_up_ne _ _ (nz_zn N 18 22 (by decide))]; exact ha45_18
  have ha47_19 : ad47 (N + 19) = q41 := by rw [ead47, va_up_ne _ _ (nz_zn N 19 22 (by decide))]; exact ha45_19
  have ha47_20 : ad47 (N + 20) = q43 := by rw [ead47, va_up_ne _ _ (nz_zn N 20 22 (by decide))]; exact ha45_20
  have ha47_21 : ad47 (N + 21) = q45 := by rw [ead47, va_up_ne _ _ (nz_zn N 21 22 (by decide))]; exact ha45_21
  have ha47_22 : ad47 (N + 22) = q47 := by rw [ead47]; exact va_up_self _ _ _
  have hfa47 : ∀ i, i < N → ad47 i = ad i := fun i hi => by rw [ead47, va_up_ne _ _ (nz_zh hi 22)]; exact hfa45 i hi
  clear eC47 hfC46 hC46_h hC46_0 hC46_1 hC46_2 hC46_3 hC46_4 hC46_5 hC46_6 hC46_7 hC46_8 hC46_9 hC46_10 hC46_11 hC46_12 hC46_13 hC46_14 hC46_15 hC46_16 hC46_17 hC46_18 hC46_19 hC46_20 hC46_21 ead47 hfa45 ha45_h ha45_0 ha45_1 ha45_2 ha45_3 ha45_4 ha45_5 ha45_6 ha45_7 ha45_8 ha45_9 ha45_10 ha45_11 ha45_12 ha45_13 ha45_14 ha45_15 ha45_16 ha45_17 ha45_18 ha45_19 ha45_20 ha45_21 hw46
  refine x_putF (fs' := [.int 0, .int (nI 20), .ref q2, .ref q4, .ref q6, .ref q8, .int (nI 1), .ref q11, .ref q13, .ref q15, .int 0, .ref q17, .ref q19, .ref q21, .ref q23, .ref q25, .ref q27, .ref q29, .ref q31, .ref q33, .ref q35, .ref q37, .ref q39, .ref q41, .int 0, .int 0, .int 0, .ref q43, .ref q45, .ref q47, .null, .null, .null, .int 0, .int 0]) S hw47 h ha47_h (lt_zh hh 23) hC47_h rfl in_X8 tyX8_ok nmX8 29 (by decide) wf_X8_87 rfl hini rfl rfl rfl (by show 29 < 35; decide) rfl dX8_init_199 (fun C48 H48 locs48 eC48 hw48 => ?_)
  have hC48_h : C48 h = .inr (8, [.int 0, .int (nI 20), .ref q2, .ref q4, .ref q6, .ref q8, .int (nI 1), .ref q11, .ref q13, .ref q15, .int 0, .ref q17, .ref q19, .ref q21, .ref q23, .ref q25, .ref q27, .ref q29, .ref q31, .ref q33, .ref q35, .ref q37, .ref q39, .ref q41, .int 0, .int 0, .int 0, .ref q43, .ref q45, .ref q47, .null, .null, .null, .int 0, .int 0]) := by rw [eC48]; exact va_up_self _ _ _
  have hC48_0 : C48 N = .inl (G.2.2.1, 120, .inl (fun _ => 0)) := by rw [eC48, va_up_ne _ _ (Nat.ne_of_lt hh).symm]; exact hC47_0
  have hC48_1 : C48 (N + 1) = .inl (G.2.2.1, 120, .inl (fun _ => 0)) := by rw [eC48, va_up_ne _ _ (nz_zh hh 1).symm]; exact hC47_1
  have hC48_2 : C48 (N + 2) = .inl (G.2.2.1, 120, .inl (fun _ => 0)) := by rw [eC48, va_up_ne _ _ (nz_zh hh 2).symm]; exact hC47_2
  have hC48_3 : C48 (N + 3) = .inl (G.2.2.1, 120, .inl (fun _ => 0)) := by rw [eC48, va_up_ne _ _ (nz_zh hh 3).symm]; exact hC47_3
  have hC48_4 : C48 (N + 4) = .inl (G.2.2.1, 200, .inl (fun _ => 0)) := by rw [eC48, va_up_ne _ _ (nz_zh hh 4).symm]; exact hC47_4
  have hC48_5 : C48 (N + 5) = .inl (G.2.2.1, 200, .inl (fun _ => 0)) := by rw [eC48, va_up_ne _ _ (nz_zh hh 5).symm]; exact hC47_5
  have hC48_6 : C48 (N + 6) = .inl (G.2.2.1, 200, .inl (fun _ => 0)) := by rw [eC48, va_up_ne _ _ (nz_zh hh 6).symm]; exact hC47_6
  have hC48_7 : C48 (N + 7) = .inl (G.2.2.1, 6, .inl (fun _ => 0)) := by rw [eC48, va_up_ne _ _ (nz_zh hh 7).symm]; exact hC47_7
  have hC48_8 : C48 (N + 8) = .inl (G.2.2.1, 6, .inl (fun _ => 0)) := by rw [eC48, va_up_ne _ _ (nz_zh hh 8).symm]; exact hC47_8
  have hC48_9 : C48 (N + 9) = .inl (G.2.2.1, 6, .inl (fun _ => 0)) := by rw [eC48, va_up_ne _ _ (nz_zh hh 9).symm]; exact hC47_9
  have hC48_10 : C48 (N + 10) = .inl (G.2.2.2.1, 48, .inl (fun _ => 0)) := by rw [eC48, va_up_ne _ _ (nz_zh hh 10).symm]; exact hC47_10
  have hC48_11 : C48 (N + 11) = .inl (G.2.2.1, 48, .inl (fun _ => 0)) := by rw [eC48, va_up_ne _ _ (nz_zh hh 11).symm]; exact hC47_11
  have hC48_12 : C48 (N + 12) = .inl (G.2.2.1, 48, .inl (fun _ => 0)) := by rw [eC48, va_up_ne _ _ (nz_zh hh 12).symm]; exact hC47_12
  have hC48_13 : C48 (N + 13) = .inl (G.2.2.1, 48, .inl (fun _ => 0)) := by rw [eC48, va_up_ne _ _ (nz_zh hh 13).symm]; exact hC47_13
  have hC48_14 : C48 (N + 14) = .inl (G.2.2.1, 48, .inl (fun _ => 0)) := by rw [eC48, va_up_ne _ _ (nz_zh hh 14).symm]; exact hC47_14
  have hC48_15 : C48 (N + 15) = .inl (G.2.2.1, 48, .inl (fun _ => 0)) := by rw [eC48, va_up_ne _ _ (nz_zh hh 15).symm]; exact hC47_15
  have hC48_16 : C48 (N + 16) = .inl (G.2.2.2.1, 64, .inl (fun _ => 0)) := by rw [eC48, va_up_ne _ _ (nz_zh hh 16).symm]; exact hC47_16
  have hC48_17 : C48 (N + 17) = .inl (G.2.2.1, 64, .inl (fun _ => 0)) := by rw [eC48, va_up_ne _ _ (nz_zh hh 17).symm]; exact hC47_17
  have hC48_18 : C48 (N + 18) = .inl (G.2.2.1, 8, .inl (fun _ => 0)) := by rw [eC48, va_up_ne _ _ (nz_zh hh 18).symm]; exact hC47_18
  have hC48_19 : C48 (N + 19) = .inl (G.2.2.1, 24, .inl (fun _ => 0)) := by rw [eC48, va_up_ne _ _ (nz_zh hh 19).symm]; exact hC47_19
  have hC48_20 : C48 (N + 20) = .inl (G.2.2.1, 20, .inl (fun _ => 0)) := by rw [eC48, va_up_ne _ _ (nz_zh hh 20).symm]; exact hC47_20
  have hC48_21 : C48 (N + 21) = .inl (G.2.2.1, 20, .inl (fun _ => 0)) := by rw [eC48, va_up_ne _ _ (nz_zh hh 21).symm]; exact hC47_21
  have hC48_22 : C48 (N + 22) = .inl (G.2.2.1, 20, .inl (fun _ => 0)) := by rw [eC48, va_up_ne _ _ (nz_zh hh 22).symm]; exact hC47_22
  have hfC48 : ∀ i, i < N → i ≠ h → C48 i = C i := fun i hi hne => by rw [eC48, va_up_ne _ _ hne]; exact hfC47 i hi hne
  clear eC48 hfC47 hC47_h hC47_0 hC47_1 hC47_2 hC47_3 hC47_4 hC47_5 hC47_6 hC47_7 hC47_8 hC47_9 hC47_10 hC47_11 hC47_12 hC47_13 hC47_14 hC47_15 hC47_16 hC47_17 hC47_18 hC47_19 hC47_20 hC47_21 hC47_22 hw47
  refine lv_aload_n S.1 S.2.1 dX8_init_202 rfl (lv_at hl 0 rfl) ?_
  refine lv_bipush (v := nI 20) S.1 S.2.1 dX8_init_203 (by decide) ?_
  refine x_newI (N' := 20) S hw48 (by decide) (by decide) (by decide) (by decide) (by decide) rfl dX8_init_205 (fun q49 ad49 C49 H49 ead49 eC49 hw49 => ?_)
  have hC49_h : C49 h = .inr (8, [.int 0, .int (nI 20), .ref q2, .ref q4, .ref q6, .ref q8, .int (nI 1), .ref q11, .ref q13, .ref q15, .int 0, .ref q17, .ref q19, .ref q21, .ref q23, .ref q25, .ref q27, .ref q29, .ref q31, .ref q33, .ref q35, .ref q37, .ref q39, .ref q41, .int 0, .int 0, .int 0, .ref q43, .ref q45, .ref q47, .null, .null, .null, .int 0, .int 0]) := by rw [eC49, va_up_ne _ _ (nz_zh hh 23)]; exact hC48_h
  have hC49_0 : C49 N = .inl (G.2.2.1, 120, .inl (fun _ => 0)) := by rw [eC49, va_up_ne _ _ (nz_z0 N 23 (by decide))]; exact hC48_0
  have hC49_1 : C49 (N + 1) = .inl (G.2.2.1, 120, .inl (fun _ => 0)) := by rw [eC49, va_up_ne _ _ (nz_zn N 1 23 (by decide))]; exact hC48_1
  have hC49_2 : C49 (N + 2) = .inl (G.2.2.1, 120, .inl (fun _ => 0)) := by rw [eC49, va_up_ne _ _ (nz_zn N 2 23 (by decide))]; exact hC48_2
  have hC49_3 : C49 (N + 3) = .inl (G.2.2.1, 120, .inl (fun _ => 0)) := by rw [eC49, va_up_ne _ _ (nz_zn N 3 23 (by decide))]; exact hC48_3
  have hC49_4 : C49 (N + 4) = .inl (G.2.2.1, 200, .inl (fun _ => 0)) := by rw [eC49, va_up_ne _ _ (nz_zn N 4 23 (by decide))]; exact hC48_4
  have hC49_5 : C49 (N + 5) = .inl (G.2.2.1, 200, .inl (fun _ => 0)) := by rw [eC49, va_up_ne _ _ (nz_zn N 5 23 (by decide))]; exact hC48_5
  have hC49_6 : C49 (N + 6) = .inl (G.2.2.1, 200, .inl (fun _ => 0)) := by rw [eC49, va_up_ne _ _ (nz_zn N 6 23 (by decide))]; exact hC48_6
  have hC49_7 : C49 (N + 7) = .inl (G.2.2.1, 6, .inl (fun _ => 0)) := by rw [eC49, va_up_ne _ _ (nz_zn N 7 23 (by decide))]; exact hC48_7
  have hC49_8 : C49 (N + 8) = .inl (G.2.2.1, 6, .inl (fun _ => 0)) := by rw [eC49, va_up_ne _ _ (nz_zn N 8 23 (by decide))]; exact hC48_8
  have hC49_9 : C49 (N + 9) = .inl (G.2.2.1, 6, .inl (fun _ => 0)) := by rw [eC49, va_up_ne _ _ (nz_zn N 9 23 (by decide))]; exact hC48_9
  have hC49_10 : C49 (N + 10) = .inl (G.2.2.2.1, 48, .inl (fun _ => 0)) := by rw [eC49, va_up_ne _ _ (nz_zn N 10 23 (by decide))]; exact hC48_10
  have hC49_11 : C49 (N + 11) = .inl (G.2.2.1, 48, .inl (fun _ => 0)) := by rw [eC49, va_up_ne _ _ (nz_zn N 11 23 (by decide))]; exact hC48_11
  have hC49_12 : C49 (N + 12) = .inl (G.2.2.1, 48, .inl (fun _ => 0)) := by rw [eC49, va_up_ne _ _ (nz_zn N 12 23 (by decide))]; exact hC48_12
  have hC49_13 : C49 (N + 13) = .inl (G.2.2.1, 48, .inl (fun _ => 0)) := by rw [eC49, va_up_ne _ _ (nz_zn N 13 23 (by decide))]; exact hC48_13
  have hC49_14 : C49 (N + 14) = .inl (G.2.2.1, 48, .inl (fun _ => 0)) := by rw [eC49, va_up_ne _ _ (nz_zn N 14 23 (by decide))]; exact hC48_14
  have hC49_15 : C49 (N + 15) = .inl (G.2.2.1, 48, .inl (fun _ => 0)) := by rw [eC49, va_up_ne _ _ (nz_zn N 15 23 (by decide))]; exact hC48_15
  have hC49_16 : C49 (N + 16) = .inl (G.2.2.2.1, 64, .inl (fun _ => 0)) := by rw [eC49, va_up_ne _ _ (nz_zn N 16 23 (by decide))]; exact hC48_16
  have hC49_17 : C49 (N + 17) = .inl (G.2.2.1, 64, .inl (fun _ => 0)) := by rw [eC49, va_up_ne _ _ (nz_zn N 17 23 (by decide))]; exact hC48_17
  have hC49_18 : C49 (N + 18) = .inl (G.2.2.1, 8, .inl (fun _ => 0)) := by rw [eC49, va_up_ne _ _ (nz_zn N 18 23 (by decide))]; exact hC48_18
  have hC49_19 : C49 (N + 19) = .inl (G.2.2.1, 24, .inl (fun _ => 0)) := by rw [eC49, va_up_ne _ _ (nz_zn N 19 23 (by decide))]; exact hC48_19
  have hC49_20 : C49 (N + 20) = .inl (G.2.2.1, 20, .inl (fun _ => 0)) := by rw [eC49, va_up_ne _ _ (nz_zn N 20 23 (by decide))]; exact hC48_20
  have hC49_21 : C49 (N + 21) = .inl (G.2.2.1, 20, .inl (fun _ => 0)) := by rw [eC49, va_up_ne _ _ (nz_zn N 21 23 (by decide))]; exact hC48_21
  have hC49_22 : C49 (N + 22) = .inl (G.2.2.1, 20, .inl (fun _ => 0)) := by rw [eC49, va_up_ne _ _ (nz_zn N 22 23 (by decide))]; exact hC48_22
  have hC49_23 : C49 (N + 23) = .inl (G.2.2.1, 20, .inl (fun _ => 0)) := by rw [eC49]; exact va_up_self _ _ _
  have hfC49 : ∀ i, i < N → i ≠ h → C49 i = C i := fun i hi hne => by rw [eC49, va_up_ne _ _ (nz_zh hi 23)]; exact hfC48 i hi hne
  have ha49_h : ad49 h = (ad h) := by rw [ead49, va_up_ne _ _ (nz_zh hh 23)]; exact ha47_h
  have ha49_0 : ad49 N = q2 := by rw [ead49, va_up_ne _ _ (nz_z0 N 23 (by decide))]; exact ha47_0
  have ha49_1 : ad49 (N + 1) = q4 := by rw [ead49, va_up_ne _ _ (nz_zn N 1 23 (by decide))]; exact ha47_1
  have ha49_2 : ad49 (N + 2) = q6 := by rw [ead49, va_up_ne _ _ (nz_zn N 2 23 (by decide))]; exact ha47_2
  have ha49_3 : ad49 (N + 3) = q8 := by rw [ead49, va_up_ne _ _ (nz_zn N 3 23 (by decide))]; exact ha47_3
  have ha49_4 : ad49 (N + 4) = q11 := by rw [ead49, va_up_ne _ _ (nz_zn N 4 23 (by decide))]; exact ha47_4
  have ha49_5 : ad49 (N + 5) = q13 := by rw [ead49, va_up_ne _ _ (nz_zn N 5 23 (by decide))]; exact ha47_5
  have ha49_6 : ad49 (N + 6) = q15 := by rw [ead49, va_up_ne _ _ (nz_zn N 6 23 (by decide))]; exact ha47_6
  have ha49_7 : ad49 (N + 7) = q17 := by rw [ead49, va_up_ne _ _ (nz_zn N 7 23 (by decide))]; exact ha47_7
  have ha49_8 : ad49 (N + 8) = q19 := by rw [ead49, va_up_ne _ _ (nz_zn N 8 23 (by decide))]; exact ha47_8
  have ha49_9 : ad49 (N + 9) = q21 := by rw [ead49, va_up_ne _ _ (nz_zn N 9 23 (by decide))]; exact ha47_9
  have ha49_10 : ad49 (N + 10) = q23 := by rw [ead49, va_up_ne _ _ (nz_zn N 10 23 (by decide))]; exact ha47_10
  have ha49_11 : ad49 (N + 11) = q25 := by rw [ead49, va_up_ne _ _ (nz_zn N 11 23 (by decide))]; exact ha47_11
  have ha49_12 : ad49 (N + 12) = q27 := by rw [ead49, va_up_ne _ _ (nz_zn N 12 23 (by decide))]; exact ha47_12
  have ha49_13 : ad49 (N + 13) = q29 := by rw [ead49, va_up_ne _ _ (nz_zn N 13 23 (by decide))]; exact ha47_13
  have ha49_14 : ad49 (N + 14) = q31 := by rw [ead49, va_up_ne _ _ (nz_zn N 14 23 (by decide))]; exact ha47_14
  have ha49_15 : ad49 (N + 15) = q33 := by rw [ead49, va_up_ne _ _ (nz_zn N 15 23 (by decide))]; exact ha47_15
  have ha49_16 : ad49 (N + 16) = q35 := by rw [ead49, va_up_ne _ _ (nz_zn N 16 23 (by decide))]; exact ha47_16
  have ha49_17 : ad49 (N + 17) = q37 := by rw [ead49, va_up_ne _ _ (nz_zn N 17 23 (by decide))]; exact ha47_17
  have ha49_18 : ad49 (N + 18) = q39 := by rw [ead49, va_up_ne _ _ (nz_zn N 18 23 (by decide))]; exact ha47_18
  have ha49_19 : ad49 (N + 19) = q41 := by rw [ead49, va_up_ne _ _ (nz_zn N 19 23 (by decide))]; exact ha47_19
  have ha49_20 : ad49 (N + 20) = q43 := by rw [ead49, va_up_ne _ _ (nz_zn N 20 23 (by decide))]; exact ha47_20
  have ha49_21 : ad49 (N + 21) = q45 := by rw [ead49, va_up_ne _ _ (nz_zn N 21 23 (by decide))]; exact ha47_21
  have ha49_22 : ad49 (N + 22) = q47 := by rw [ead49, va_up_ne _ _ (nz_zn N 22 23 (by decide))]; exact ha47_22
  have ha49_23 : ad49 (N + 23) = q49 := by rw [ead49]; exact va_up_self _ _ _
  have hfa49 : ∀ i, i < N → ad49 i = ad i := fun i hi => by rw [ead49, va_up_ne _ _ (nz_zh hi 23)]; exact hfa47 i hi
  clear eC49 hfC48 hC48_h hC48_0 hC48_1 hC48_2 hC48_3 hC48_4 hC48_5 hC48_6 hC48_7 hC48_8 hC48_9 hC48_10 hC48_11 hC48_12 hC48_13 hC48_14 hC48_15 hC48_16 hC48_17 hC48_18 hC48_19 hC48_20 hC48_21 hC48_22 ead49 hfa47 ha47_h ha47_0 ha47_1 ha47_2 ha47_3 ha47_4 ha47_5 ha47_6 ha47_7 ha47_8 ha47_9 ha47_10 ha47_11 ha47_12 ha47_13 ha47_14 ha47_15 ha47_16 ha47_17 ha47_18 ha47_19 ha47_20 ha47_21 ha47_22 hw48
  refine x_putF (fs' := [.int 0, .int (nI 20), .ref q2, .ref q4, .ref q6, .ref q8, .int (nI 1), .ref q11, .ref q13, .ref q15, .int 0, .ref q17, .ref q19, .ref q21, .ref q23, .ref q25, .ref q27, .ref q29, .ref q31, .ref q33, .ref q35, .ref q37, .ref q39, .ref q41, .int 0, .int 0, .int 0, .ref q43, .ref q45, .ref q47, .ref q49, .null, .null, .int 0, .int 0]) S hw49 h ha49_h (lt_zh hh 24) hC49_h rfl in_X8 tyX8_ok nmX8 30 (by decide) wf_X8_90 rfl hini rfl rfl rfl (by show 30 < 35; decide) rfl dX8_init_207 (fun C50 H50 locs50 eC50 hw50 => ?_)
  have hC50_h : C50 h = .inr (8, [.int 0, .int (nI 20), .ref q2, .ref q4, .ref q6, .ref q8, .int (nI 1), .ref q11, .ref q13, .ref q15, .int 0, .ref q17, .ref q19, .ref q21, .ref q23, .ref q25, .ref q27, .ref q29, .ref q31, .ref q33, .ref q35, .ref q37, .ref q39, .ref q41, .int 0, .int 0, .int 0, .ref q43, .ref q45, .ref q47, .ref q49, .null, .null, .int 0, .int 0]) := by rw [eC50]; exact va_up_self _ _ _
  have hC50_0 : C50 N = .inl (G.2.2.1, 120, .inl (fun _ => 0)) := by rw [eC50, va_up_ne _ _ (Nat.ne_of_lt hh).symm]; exact hC49_0
  have hC50_1 : C50 (N + 1) = .inl (G.2.2.1, 120, .inl (fun _ => 0)) := by rw [eC50, va_up_ne _ _ (nz_zh hh 1).symm]; exact hC49_1
  have hC50_2 : C50 (N + 2) = .inl (G.2.2.1, 120, .inl (fun _ => 0)) := by rw [eC50, va_up_ne _ _ (nz_zh hh 2).symm]; exact hC49_2
  have hC50_3 : C50 (N + 3) = .inl (G.2.2.1, 120, .inl (fun _ => 0)) := by rw [eC50, va_up_ne _ _ (nz_zh hh 3).symm]; exact hC49_3
  have hC50_4 : C50 (N + 4) = .inl (G.2.2.1, 200, .inl (fun _ => 0)) := by rw [eC50, va_up_ne _ _ (nz_zh hh 4).symm]; exact hC49_4
  have hC50_5 : C50 (N + 5) = .inl (G.2.2.1, 200, .inl (fun _ => 0)) := by rw [eC50, va_up_ne _ _ (nz_zh hh 5).symm]; exact hC49_5
  have hC50_6 : C50 (N + 6) = .inl (G.2.2.1, 200, .inl (fun _ => 0)) := by rw [eC50, va_up_ne _ _ (nz_zh hh 6).symm]; exact hC49_6
  have hC50_7 : C50 (N + 7) = .inl (G.2.2.1, 6, .inl (fun _ => 0)) := by rw [eC50, va_up_ne _ _ (nz_zh hh 7).symm]; exact hC49_7
  have hC50_8 : C50 (N + 8) = .inl (G.2.2.1, 6, .inl (fun _ => 0)) := by rw [eC50, va_up_ne _ _ (nz_zh hh 8).symm]; exact hC49_8
  have hC50_9 : C50 (N + 9) = .inl (G.2.2.1, 6, .inl (fun _ => 0)) := by rw [eC50, va_up_ne _ _ (nz_zh hh 9).symm]; exact hC49_9
  have hC50_10 : C50 (N + 10) = .inl (G.2.2.2.1, 48, .inl (fun _ => 0)) := by rw [eC50, va_up_ne _ _ (nz_zh hh 10).symm]; exact hC49_10
  have hC50_11 : C50 (N + 11) = .inl (G.2.2.1, 48, .inl (fun _ => 0)) := by rw [eC50, va_up_ne _ _ (nz_zh hh 11).symm]; exact hC49_11
  have hC50_12 : C50 (N + 12) = .inl (G.2.2.1, 48, .inl (fun _ => 0)) := by rw [eC50, va_up_ne _ _ (nz_zh hh 12).symm]; exact hC49_12
  have hC50_13 : C50 (N + 13) = .inl (G.2.2.1, 48, .inl (fun _ => 0)) := by rw [eC50, va_up_ne _ _ (nz_zh hh 13).symm]; exact hC49_13
  have hC50_14 : C50 (N + 14) = .inl (G.2.2.1, 48, .inl (fun _ => 0)) := by rw [eC50, va_up_ne _ _ (nz_zh hh 14).symm]; exact hC49_14
  have hC50_15 : C50 (N + 15) = .inl (G.2.2.1, 48, .inl (fun _ => 0)) := by rw [eC50, va_up_ne _ _ (nz_zh hh 15).symm]; exact hC49_15
  have hC50_16 : C50 (N + 16) = .inl (G.2.2.2.1, 64, .inl (fun _ => 0)) := by rw [eC50, va_up_ne _ _ (nz_zh hh 16).symm]; exact hC49_16
  have hC50_17 : C50 (N + 17) = .inl (G.2.2.1, 64, .inl (fun _ => 0)) := by rw [eC50, va_up_ne _ _ (nz_zh hh 17).symm]; exact hC49_17
  have hC50_18 : C50 (N + 18) = .inl (G.2.2.1, 8, .inl (fun _ => 0)) := by rw [eC50, va_up_ne _ _ (nz_zh hh 18).symm]; exact hC49_18
  have hC50_19 : C50 (N + 19) = .inl (G.2.2.1, 24, .inl (fun _ => 0)) := by rw [eC50, va_up_ne _ _ (nz_zh hh 19).symm]; exact hC49_19
  have hC50_20 : C50 (N + 20) = .inl (G.2.2.1, 20, .inl (fun _ => 0)) := by rw [eC50, va_up_ne _ _ (nz_zh hh 20).symm]; exact hC49_20
  have hC50_21 : C50 (N + 21) = .inl (G.2.2.1, 20, .inl (fun _ => 0)) := by rw [eC50, va_up_ne _ _ (nz_zh hh 21).symm]; exact hC49_21
  have hC50_22 : C50 (N + 22) = .inl (G.2.2.1, 20, .inl (fun _ => 0)) := by rw [eC50, va_up_ne _ _ (nz_zh hh 22).symm]; exact hC49_22
  have hC50_23 : C50 (N + 23) = .inl (G.2.2.1, 20, .inl (fun _ => 0)) := by rw [eC50, va_up_ne _ _ (nz_zh hh 23).symm]; exact hC49_23
  have hfC50 : ∀ i, i < N → i ≠ h → C50 i = C i := fun i hi hne => by rw [eC50, va_up_ne _ _ hne]; exact hfC49 i hi hne
  clear eC50 hfC49 hC49_h hC49_0 hC49_1 hC49_2 hC49_3 hC49_4 hC49_5 hC49_6 hC49_7 hC49_8 hC49_9 hC49_10 hC49_11 hC49_12 hC49_13 hC49_14 hC49_15 hC49_16 hC49_17 hC49_18 hC49_19 hC49_20 hC49_21 hC49_22 hC49_23 hw49
  refine lv_aload_n S.1 S.2.1 dX8_init_210 rfl (lv_at hl 0 rfl) ?_
  refine lv_bipush (v := nI 20) S.1 S.2.1 dX8_init_211 (by decide) ?_
  refine x_newI (N' := 20) S hw50 (by decide) (by decide) (by decide) (by decide) (by decide) rfl dX8_init_213 (fun q51 ad51 C51 H51 ead51 eC51 hw51 => ?_)
  have hC51_h : C51 h = .inr (8, [.int 0, .int (nI 20), .ref q2, .ref q4, .ref q6, .ref q8, .int (nI 1), .ref q11, .ref q13, .ref q15, .int 0, .ref q17, .ref q19, .ref q21, .ref q23, .ref q25, .ref q27, .ref q29, .ref q31, .ref q33, .ref q35, .ref q37, .ref q39, .ref q41, .int 0, .int 0, .int 0, .ref q43, .ref q45, .ref q47, .ref q49, .null, .null, .int 0, .int 0]) := by rw [eC51, va_up_ne _ _ (nz_zh hh 24)]; exact hC50_h
  have hC51_0 : C51 N = .inl (G.2.2.1, 120, .inl (fun _ => 0)) := by rw [eC51, va_up_ne _ _ (nz_z0 N 24 (by decide))]; exact hC50_0
  have hC51_1 : C51 (N + 1) = .inl (G.2.2.1, 120, .inl (fun _ => 0)) := by rw [eC51, va_up_ne _ _ (nz_zn N 1 24 (by decide))]; exact hC50_1
  have hC51_2 : C51 (N + 2) = .inl (G.2.2.1, 120, .inl (fun _ => 0)) := by rw [eC51, va_up_ne _ _ (nz_zn N 2 24 (by decide))]; exact hC50_2
  have hC51_3 : C51 (N + 3) = .inl (G.2.2.1, 120, .inl (fun _ => 0)) := by rw [eC51, va_up_ne _ _ (nz_zn N 3 24 (by decide))]; exact hC50_3
  have hC51_4 : C51 (N + 4) = .inl (G.2.2.1, 200, .inl (fun _ => 0)) := by rw [eC51, va_up_ne _ _ (nz_zn N 4 24 (by decide))]; exact hC50_4
  have hC51_5 : C51 (N + 5) = .inl (G.2.2.1, 200, .inl (fun _ => 0)) := by rw [eC51, va_up_ne _ _ (nz_zn N 5 24 (by decide))]; exact hC50_5
  have hC51_6 : C51 (N + 6) = .inl (G.2.2.1, 200, .inl (fun _ => 0)) := by rw [eC51, va_up_ne _ _ (nz_zn N 6 24 (by decide))]; exact hC50_6
  have hC51_7 : C51 (N + 7) = .inl (G.2.2.1, 6, .inl (fun _ => 0)) := by rw [eC51, va_up_ne _ _ (nz_zn N 7 24 (by decide))]; exact hC50_7
  have hC51_8 : C51 (N + 8) = .inl (G.2.2.1, 6, .inl (fun _ => 0)) := by rw [eC51, va_up_ne _ _ (nz_zn N 8 24 (by decide))]; exact hC50_8
  have hC51_9 : C51 (N + 9) = .inl (G.2.2.1, 6, .inl (fun _ => 0)) := by rw [eC51, va_up_ne _ _ (nz_zn N 9 24 (by decide))]; exact hC50_9
  have hC51_10 : C51 (N + 10) = .inl (G.2.2.2.1, 48, .inl (fun _ => 0)) := by rw [eC51, va_up_ne _ _ (nz_zn N 10 24 (by decide))]; exact hC50_10
  have hC51_11 : C51 (N + 11) = .inl (G.2.2.1, 48, .inl (fun _ => 0)) := by rw [eC51, va_up_ne _ _ (nz_zn N 11 24 (by decide))]; exact hC50_11
  have hC51_12 : C51 (N + 12) = .inl (G.2.2.1, 48, .inl (fun _ => 0)) := by rw [eC51, va_up_ne _ _ (nz_zn N 12 24 (by decide))]; exact hC50_12
  have hC51_13 : C51 (N + 13) = .inl (G.2.2.1, 48, .inl (fun _ => 0)) := by rw [eC51, va_up_ne _ _ (nz_zn N 13 24 (by decide))]; exact hC50_13
  have hC51_14 : C51 (N + 14) = .inl (G.2.2.1, 48, .inl (fun _ => 0)) := by rw [eC51, va_up_ne _ _ (nz_zn N 14 24 (by decide))]; exact hC50_14
  have hC51_15 : C51 (N + 15) = .inl (G.2.2.1, 48, .inl (fun _ => 0)) := by rw [eC51, va_up_ne _ _ (nz_zn N 15 24 (by decide))]; exact hC50_15
  have hC51_16 : C51 (N + 16) = .inl (G.2.2.2.1, 64, .inl (fun _ => 0)) := by rw [eC51, va_up_ne _ _ (nz_zn N 16 24 (by decide))]; exact hC50_16
  have hC51_17 : C51 (N + 17) = .inl (G.2.2.1, 64, .inl (fun _ => 0)) := by rw [eC51, va_up_ne _ _ (nz_zn N 17 24 (by decide))]; exact hC50_17
  have hC51_18 : C51 (N + 18) = .inl (G.2.2.1, 8, .inl (fun _ => 0)) := by rw [eC51, va_up_ne _ _ (nz_zn N 18 24 (by decide))]; exact hC50_18
  have hC51_19 : C51 (N + 19) = .inl (G.2.2.1, 24, .inl (fun _ => 0)) := by rw [eC51, va_up_ne _ _ (nz_zn N 19 24 (by decide))]; exact hC50_19
  have hC51_20 : C51 (N + 20) = .inl (G.2.2.1, 20, .inl (fun _ => 0)) := by rw [eC51, va_up_ne _ _ (nz_zn N 20 24 (by decide))]; exact hC50_20
  have hC51_21 : C51 (N + 21) = .inl (G.2.2.1, 20, .inl (fun _ => 0)) := by rw [eC51, va_up_ne _ _ (nz_zn N 21 24 (by decide))]; exact hC50_21
  have hC51_22 : C51 (N + 22) = .inl (G.2.2.1, 20, .inl (fun _ => 0)) := by rw [eC51, va_up_ne _ _ (nz_zn N 22 24 (by decide))]; exact hC50_22
  have hC51_23 : C51 (N + 23) = .inl (G.2.2.1, 20, .inl (fun _ => 0)) := by rw [eC51, va_up_ne _ _ (nz_zn N 23 24 (by decide))]; exact hC50_23
  have hC51_24 : C51 (N + 24) = .inl (G.2.2.1, 20, .inl (fun _ => 0)) := by rw [eC51]; exact va_up_self _ _ _
  have hfC51 : ∀ i, i < N → i ≠ h → C51 i = C i := fun i hi hne => by rw [eC51, va_up_ne _ _ (nz_zh hi 24)]; exact hfC50 i hi hne
  have ha51_h : ad51 h = (ad h) := by rw [ead51, va_up_ne _ _ (nz_zh hh 24)]; exact ha49_h
  have ha51_0 : ad51 N = q2 := by rw [ead51, va_up_ne _ _ (nz_z0 N 24 (by decide))]; exact ha49_0
  have ha51_1 : ad51 (N + 1) = q4 := by rw [ead51, va_up_ne _ _ (nz_zn N 1 24 (by decide))]; exact ha49_1
  have ha51_2 : ad51 (N + 2) = q6 := by rw [ead51, va_up_ne _ _ (nz_zn N 2 24 (by decide))]; exact ha49_2
  have ha51_3 : ad51 (N + 3) = q8 := by rw [ead51, va_up_ne _ _ (nz_zn N 3 24 (by decide))]; exact ha49_3
  have ha51_4 : ad51 (N + 4) = q11 := by rw [ead51, va_up_ne _ _ (nz_zn N 4 24 (by decide))]; exact ha49_4
  have ha51_5 : ad51 (N + 5) = q13 := by rw [ead51, va_up_ne _ _ (nz_zn N 5 24 (by decide))]; exact ha49_5
  have ha51_6 : ad51 (N + 6) = q15 := by rw [ead51, va_up_ne _ _ (nz_zn N 6 24 (by decide))]; exact ha49_6
  have ha51_7 : ad51 (N + 7) = q17 := by rw [ead51, va_up_ne _ _ (nz_zn N 7 24 (by decide))]; exact ha49_7
  have ha51_8 : ad51 (N + 8) = q19 := by rw [ead51, va_up_ne _ _ (nz_zn N 8 24 (by decide))]; exact ha49_8
  have ha51_9 : ad51 (N + 9) = q21 := by rw [ead51, va_up_ne _ _ (nz_zn N 9 24 (by decide))]; exact ha49_9
  have ha51_10 : ad51 (N + 10) = q23 := by rw [ead51, va_up_ne _ _ (nz_zn N 10 24 (by decide))]; exact ha49_10
  have ha51_11 : ad51 (N + 11) = q25 := by rw [ead51, va_up_ne _ _ (nz_zn N 11 24 (by decide))]; exact ha49_11
  have ha51_12 : ad51 (N + 12) = q27 := by rw [ead51, va_up_ne _ _ (nz_zn N 12 24 (by decide))]; exact ha49_12
  have ha51_13 : ad51 (N + 13) = q29 := by rw [ead51, va_up_ne _ _ (nz_zn N 13 24 (by decide))]; exact ha49_13
  have ha51_14 : ad51 (N + 14) = q31 := by rw [ead51, va_up_ne _ _ (nz_zn N 14 24 (by decide))]; exact ha49_14
  have ha51_15 : ad51 (N + 15) = q33 := by rw [ead51, va_up_ne _ _ (nz_zn N 15 24 (by decide))]; exact ha49_15
  have ha51_16 : ad51 (N + 16) = q35 := by rw [ead51, va_up_ne _ _ (nz_zn N 16 24 (by decide))]; exact ha49_16
  have ha51_17 : ad51 (N + 17) = q37 := by rw [ead51, va_up_ne _ _ (nz_zn N 17 24 (by decide))]; exact ha49_17
  have ha51_18 : ad51 (N + 18) = q39 := by rw [ead51, va_up_ne _ _ (nz_zn N 18 24 (by decide))]; exact ha49_18
  have ha51_19 : ad51 (N + 19) = q41 := by rw [ead51, va_up_ne _ _ (nz_zn N 19 24 (by decide))]; exact ha49_19
  have ha51_20 : ad51 (N + 20) = q43 := by rw [ead51, va_up_ne _ _ (nz_zn N 20 24 (by decide))]; exact ha49_20
  have ha51_21 : ad51 (N + 21) = q45 := by rw [ead51, va_up_ne _ _ (nz_zn N 21 24 (by decide))]; exact ha49_21
  have ha51_22 : ad51 (N + 22) = q47 := by rw [ead51, va_up_ne _ _ (nz_zn N 22 24 (by decide))]; exact ha49_22
  have ha51_23 : ad51 (N + 23) = q49 := by rw [ead51, va_up_ne _ _ (nz_zn N 23 24 (by decide))]; exact ha49_23
  have ha51_24 : ad51 (N + 24) = q51 := by rw [ead51]; exact va_up_self _ _ _
  have hfa51 : ∀ i, i < N → ad51 i = ad i := fun i hi => by rw [ead51, va_up_ne _ _ (nz_zh hi 24)]; exact hfa49 i hi
  clear eC51 hfC50 hC50_h hC50_0 hC50_1 hC50_2 hC50_3 hC50_4 hC50_5 hC50_6 hC50_7 hC50_8 hC50_9 hC50_10 hC50_11 hC50_12 hC50_13 hC50_14 hC50_15 hC50_16 hC50_17 hC50_18 hC50_19 hC50_20 hC50_21 hC50_22 hC50_23 ead51 hfa49 ha49_h ha49_0 ha49_1 ha49_2 ha49_3 ha49_4 ha49_5 ha49_6 ha49_7 ha49_8 ha49_9 ha49_10 ha49_11 ha49_12 ha49_13 ha49_14 ha49_15 ha49_16 ha49_17 ha49_18 ha49_19 ha49_20 ha49_21 ha49_22 ha49_23 hw50
  refine x_putF (fs' := [.int 0, .int (nI 20), .ref q2, .ref q4, .ref q6, .ref q8, .int (nI 1), .ref q11, .ref q13, .ref q15, .int 0, .ref q17, .ref q19, .ref q21, .ref q23, .ref q25, .ref q27, .ref q29, .ref q31, .ref q33, .ref q35, .ref q37, .ref q39, .ref q41, .int 0, .int 0, .int 0, .ref q43, .ref q45, .ref q47, .ref q49, .ref q51, .null, .int 0, .int 0]) S hw51 h ha51_h (lt_zh hh 25) hC51_h rfl in_X8 tyX8_ok nmX8 31 (by decide) wf_X8_93 rfl hini rfl rfl rfl (by show 31 < 35; decide) rfl dX8_init_215 (fun C52 H52 locs52 eC52 hw52 => ?_)
  have hC52_h : C52 h = .inr (8, [.int 0, .int (nI 20), .ref q2, .ref q4, .ref q6, .ref q8, .int (nI 1), .ref q11, .ref q13, .ref q15, .int 0, .ref q17, .ref q19, .ref q21, .ref q23, .ref q25, .ref q27, .ref q29, .ref q31, .ref q33, .ref q35, .ref q37, .ref q39, .ref q41, .int 0, .int 0, .int 0, .ref q43, .ref q45, .ref q47, .ref q49, .ref q51, .null, .int 0, .int 0]) := by rw [eC52]; exact va_up_self _ _ _
  have hC52_0 : C52 N = .inl (G.2.2.1, 120, .inl (fun _ => 0)) := by rw [eC52, va_up_ne _ _ (Nat.ne_of_lt hh).symm]; exact hC51_0
  have hC52_1 : C52 (N + 1) = .inl (G.2.2.1, 120, .inl (fun _ => 0)) := by rw [eC52, va_up_ne _ _ (nz_zh hh 1).symm]; exact hC51_1
  have hC52_2 : C52 (N + 2) = .inl (G.2.2.1, 120, .inl (fun _ => 0)) := by rw [eC52, va_up_ne _ _ (nz_zh hh 2).symm]; exact hC51_2
  have hC52_3 : C52 (N + 3) = .inl (G.2.2.1, 120, .inl (fun _ => 0)) := by rw [eC52, va_up_ne _ _ (nz_zh hh 3).symm]; exact hC51_3
  have hC52_4 : C52 (N + 4) = .inl (G.2.2.1, 200, .inl (fun _ => 0)) := by rw [eC52, va_up_ne _ _ (nz_zh hh 4).symm]; exact hC51_4
  have hC52_5 : C52 (N + 5) = .inl (G.2.2.1, 200, .inl (fun _ => 0)) := by rw [eC52, va_up_ne _ _ (nz_zh hh 5).symm]; exact hC51_5
  have hC52_6 : C52 (N + 6) = .inl (G.2.2.1, 200, .inl (fun _ => 0)) := by rw [eC52, va_up_ne _ _ (nz_zh hh 6).symm]; exact hC51_6
  have hC52_7 : C52 (N + 7) = .inl (G.2.2.1, 6, .inl (fun _ => 0)) := by rw [eC52, va_up_ne _ _ (nz_zh hh 7).symm]; exact hC51_7
  have hC52_8 : C52 (N + 8) = .inl (G.2.2.1, 6, .inl (fun _ => 0)) := by rw [eC52, va_up_ne _ _ (nz_zh hh 8).symm]; exact hC51_8
  have hC52_9 : C52 (N + 9) = .inl (G.2.2.1, 6, .inl (fun _ => 0)) := by rw [eC52, va_up_ne _ _ (nz_zh hh 9).symm]; exact hC51_9
  have hC52_10 : C52 (N + 10) = .inl (G.2.2.2.1, 48, .inl (fun _ => 0)) := by rw [eC52, va_up_ne _ _ (nz_zh hh 10).symm]; exact hC51_10
  have hC52_11 : C52 (N + 11) = .inl (G.2.2.1, 48, .inl (fun _ => 0)) := by rw [eC52, va_up_ne _ _ (nz_zh hh 11).symm]; exact hC51_11
  have hC52_12 : C52 (N + 12) = .inl (G.2.2.1, 48, .inl (fun _ => 0)) := by rw [eC52, va_up_ne _ _ (nz_zh hh 12).symm]; exact hC51_12
  have hC52_13 : C52 (N + 13) = .inl (G.2.2.1, 48, .inl (fun _ => 0)) := by rw [eC52, va_up_ne _ _ (nz_zh hh 13).symm]; exact hC51_13
  have hC52_14 : C52 (N + 14) = .inl (G.2.2.1, 48, .inl (fun _ => 0)) := by rw [eC52, va_up_ne _ _ (nz_zh hh 14).symm]; exact hC51_14
  have hC52_15 : C52 (N + 15) = .inl (G.2.2.1, 48, .inl (fun _ => 0)) := by rw [eC52, va_up_ne _ _ (nz_zh hh 15).symm]; exact hC51_15
  have hC52_16 : C52 (N + 16) = .inl (G.2.2.2.1, 64, .inl (fun _ => 0)) := by rw [eC52, va_up_ne _ _ (nz_zh hh 16).symm]; exact hC51_16
  have hC52_17 : C52 (N + 17) = .inl (G.2.2.1, 64, .inl (fun _ => 0)) := by rw [eC52, va_up_ne _ _ (nz_zh hh 17).symm]; exact hC51_17
  have hC52_18 : C52 (N + 18) = .inl (G.2.2.1, 8, .inl (fun _ => 0)) := by rw [eC52, va_up_ne _ _ (nz_zh hh 18).symm]; exact hC51_18
  have hC52_19 : C52 (N + 19) = .inl (G.2.2.1, 24, .inl (fun _ => 0)) := by rw [eC52, va_up_ne _ _ (nz_zh hh 19).symm]; exact hC51_19
  have hC52_20 : C52 (N + 20) = .inl (G.2.2.1, 20, .inl (fun _ => 0)) := by rw [eC52, va_up_ne _ _ (nz_zh hh 20).symm]; exact hC51_20
  have hC52_21 : C52 (N + 21) = .inl (G.2.2.1, 20, .inl (fun _ => 0)) := by rw [eC52, va_up_ne _ _ (nz_zh hh 21).symm]; exact hC51_21
  have hC52_22 : C52 (N + 22) = .inl (G.2.2.1, 20, .inl (fun _ => 0)) := by rw [eC52, va_up_ne _ _ (nz_zh hh 22).symm]; exact hC51_22
  have hC52_23 : C52 (N + 23) = .inl (G.2.2.1, 20, .inl (fun _ => 0)) := by rw [eC52, va_up_ne _ _ (nz_zh hh 23).symm]; exact hC51_23
  have hC52_24 : C52 (N + 24) = .inl (G.2.2.1, 20, .inl (fun _ => 0)) := by rw [eC52, va_up_ne _ _ (nz_zh hh 24).symm]; exact hC51_24
  have hfC52 : ∀ i, i < N → i ≠ h → C52 i = C i := fun i hi hne => by rw [eC52, va_up_ne _ _ hne]; exact hfC51 i hi hne
  clear eC52 hfC51 hC51_h hC51_0 hC51_1 hC51_2 hC51_3 hC51_4 hC51_5 hC51_6 hC51_7 hC51_8 hC51_9 hC51_10 hC51_11 hC51_12 hC51_13 hC51_14 hC51_15 hC51_16 hC51_17 hC51_18 hC51_19 hC51_20 hC51_21 hC51_22 hC51_23 hC51_24 hw51
  refine lv_aload_n S.1 S.2.1 dX8_init_218 rfl (lv_at hl 0 rfl) ?_
  refine lv_ldc (v := nI 180900) S.1 S.2.1 S.2.2.2.1 (S.2.2.2.2 _ wv_X8_96) dX8_init_219 ?_
  refine x_newI (N' := 180900) S hw52 (by decide) (by decide) (by decide) (by decide) (by decide) rfl dX8_init_221 (fun q53 ad53 C53 H53 ead53 eC53 hw53 => ?_)
  have hC53_h : C53 h = .inr (8, [.int 0, .int (nI 20), .ref q2, .ref q4, .ref q6, .ref q8, .int (nI 1), .ref q11, .ref q13, .ref q15, .int 0, .ref q17, .ref q19, .ref q21, .ref q23, .ref q25, .ref q27, .ref q29, .ref q31, .ref q33, .ref q35, .ref q37, .ref q39, .ref q41, .int 0, .int 0, .int 0, .ref q43, .ref q45, .ref q47, .ref q49, .ref q51, .null, .int 0, .int 0]) := by rw [eC53, va_up_ne _ _ (nz_zh hh 25)]; exact hC52_h
  have hC53_0 : C53 N = .inl (G.2.2.1, 120, .inl (fun _ => 0)) := by rw [eC53, va_up_ne _ _ (nz_z0 N 25 (by decide))]; exact hC52_0
  have hC53_1 : C53 (N + 1) = .inl (G.2.2.1, 120, .inl (fun _ => 0)) := by rw [eC53, va_up_ne _ _ (nz_zn N 1 25 (by decide))]; exact hC52_1
  have hC53_2 : C53 (N + 2) = .inl (G.2.2.1, 120, .inl (fun _ => 0)) := by rw [eC53, va_up_ne _ _ (nz_zn N 2 25 (by decide))]; exact hC52_2
  have hC53_3 : C53 (N + 3) = .inl (G.2.2.1, 120, .inl (fun _ => 0)) := by rw [eC53, va_up_ne _ _ (nz_zn N 3 25 (by decide))]; exact hC52_3
  have hC53_4 : C53 (N + 4) = .inl (G.2.2.1, 200, .inl (fun _ => 0)) := by rw [eC53, va_up_ne _ _ (nz_zn N 4 25 (by decide))]; exact hC52_4
  have hC53_5 : C53 (N + 5) = .inl (G.2.2.1, 200, .inl (fun _ => 0)) := by rw [eC53, va_up_ne _ _ (nz_zn N 5 25 (by decide))]; exact hC52_5
  have hC53_6 : C53 (N + 6) = .inl (G.2.2.1, 200, .inl (fun _ => 0)) := by rw [eC53, va_up_ne _ _ (nz_zn N 6 25 (by decide))]; exact hC52_6
  have hC53_7 : C53 (N + 7) = .inl (G.2.2.1, 6, .inl (fun _ => 0)) := by rw [eC53, va_up_ne _ _ (nz_zn N 7 25 (by decide))]; exact hC52_7
  have hC53_8 : C53 (N + 8) = .inl (G.2.2.1, 6, .inl (fun _ => 0)) := by rw [eC53, va_up_ne _ _ (nz_zn N 8 25 (by decide))]; exact hC52_8
  have hC53_9 : C53 (N + 9) = .inl (G.2.2.1, 6, .inl (fun _ => 0)) := by rw [eC53, va_up_ne _ _ (nz_zn N 9 25 (by decide))]; exact hC52_9
  have hC53_10 : C53 (N + 10) = .inl (G.2.2.2.1, 48, .inl (fun _ => 0)) := by rw [eC53, va_up_ne _ _ (nz_zn N 10 25 (by decide))]; exact hC52_10
  have hC53_11 : C53 (N + 11) = .inl (G.2.2.1, 48, .inl (fun _ => 0)) := by rw [eC53, va_up_ne _ _ (nz_zn N 11 25 (by decide))]; exact hC52_11
  have hC53_12 : C53 (N + 12) = .inl (G.2.2.1, 48, .inl (fun _ => 0)) := by rw [eC53, va_up_ne _ _ (nz_zn N 12 25 (by decide))]; exact hC52_12
  have hC53_13 : C53 (N + 13) = .inl (G.2.2.1, 48, .inl (fun _ => 0)) := by rw [eC53, va_up_ne _ _ (nz_zn N 13 25 (by decide))]; exact hC52_13
  have hC53_14 : C53 (N + 14) = .inl (G.2.2.1, 48, .inl (fun _ => 0)) := by rw [eC53, va_up_ne _ _ (nz_zn N 14 25 (by decide))]; exact hC52_14
  have hC53_15 : C53 (N + 15) = .inl (G.2.2.1, 48, .inl (fun _ => 0)) := by rw [eC53, va_up_ne _ _ (nz_zn N 15 25 (by decide))]; exact hC52_15
  have hC53_16 : C53 (N + 16) = .inl (G.2.2.2.1, 64, .inl (fun _ => 0)) := by rw [eC53, va_up_ne _ _ (nz_zn N 16 25 (by decide))]; exact hC52_16
  have hC53_17 : C53 (N + 17) = .inl (G.2.2.1, 64, .inl (fun _ => 0)) := by rw [eC53, va_up_ne _ _ (nz_zn N 17 25 (by decide))]; exact hC52_17
  have hC53_18 : C53 (N + 18) = .inl (G.2.2.1, 8, .inl (fun _ => 0)) := by rw [eC53, va_up_ne _ _ (nz_zn N 18 25 (by decide))]; exact hC52_18
  have hC53_19 : C53 (N + 19) = .inl (G.2.2.1, 24, .inl (fun _ => 0)) := by rw [eC53, va_up_ne _ _ (nz_zn N 19 25 (by decide))]; exact hC52_19
  have hC53_20 : C53 (N + 20) = .inl (G.2.2.1, 20, .inl (fun _ => 0)) := by rw [eC53, va_up_ne _ _ (nz_zn N 20 25 (by decide))]; exact hC52_20
  have hC53_21 : C53 (N + 21) = .inl (G.2.2.1, 20, .inl (fun _ => 0)) := by rw [eC53, va_up_ne _ _ (nz_zn N 21 25 (by decide))]; exact hC52_21
  have hC53_22 : C53 (N + 22) = .inl (G.2.2.1, 20, .inl (fun _ => 0)) := by rw [eC53, va_up_ne _ _ (nz_zn N 22 25 (by decide))]; exact hC52_22
  have hC53_23 : C53 (N + 23) = .inl (G.2.2.1, 20, .inl (fun _ => 0)) := by rw [eC53, va_up_ne _ _ (nz_zn N 23 25 (by decide))]; exact hC52_23
  have hC53_24 : C53 (N + 24) = .inl (G.2.2.1, 20, .inl (fun _ => 0)) := by rw [eC53, va_up_ne _ _ (nz_zn N 24 25 (by decide))]; exact hC52_24
  have hC53_25 : C53 (N + 25) = .inl (G.2.2.1, 180900, .inl (fun _ => 0)) := by rw [eC53]; exact va_up_self _ _ _
  have hfC53 : ∀ i, i < N → i ≠ h → C53 i = C i := fun i hi hne => by rw [eC53, va_up_ne _ _ (nz_zh hi 25)]; exact hfC52 i hi hne
  have ha53_h : ad53 h = (ad h) := by rw [ead53, va_up_ne _ _ (nz_zh hh 25)]; exact ha51_h
  have ha53_0 : ad53 N = q2 := by rw [ead53, va_up_ne _ _ (nz_z0 N 25 (by decide))]; exact ha51_0
  have ha53_1 : ad53 (N + 1) = q4 := by rw [ead53, va_up_ne _ _ (nz_zn N 1 25 (by decide))]; exact ha51_1
  have ha53_2 : ad53 (N + 2) = q6 := by rw [ead53, va_up_ne _ _ (nz_zn N 2 25 (by decide))]; exact ha51_2
  have ha53_3 : ad53 (N + 3) = q8 := by rw [ead53, va_up_ne _ _ (nz_zn N 3 25 (by decide))]; exact ha51_3
  have ha53_4 : ad53 (N + 4) = q11 := by rw [ead53, va_up_ne _ _ (nz_zn N 4 25 (by decide))]; exact ha51_4
  have ha53_5 : ad53 (N + 5) = q13 := by rw [ead53, va_up_ne _ _ (nz_zn N 5 25 (by decide))]; exact ha51_5
  have ha53_6 : ad53 (N + 6) = q15 := by rw [ead53, va_up_ne _ _ (nz_zn N 6 25 (by decide))]; exact ha51_6
  have ha53_7 : ad53 (N + 7) = q17 := by rw [ead53, va_up_ne _ _ (nz_zn N 7 25 (by decide))]; exact ha51_7
  have ha53_8 : ad53 (N + 8) = q19 := by rw [ead53, va_up_ne _ _ (nz_zn N 8 25 (by decide))]; exact ha51_8
  have ha53_9 : ad53 (N + 9) = q21 := by rw [ead53, va_up_ne _ _ (nz_zn N 9 25 (by decide))]; exact ha51_9
  have ha53_10 : ad53 (N + 10) = q23 := by rw [ead53, va_up_ne _ _ (nz_zn N 10 25 (by decide))]; exact ha51_10
  have ha53_11 : ad53 (N + 11) = q25 := by rw [ead53, va_up_ne _ _ (nz_zn N 11 25 (by decide))]; exact ha51_11
  have ha53_12 : ad53 (N + 12) = q27 := by rw [ead53, va_up_ne _ _ (nz_zn N 12 25 (by decide))]; exact ha51_12
  have ha53_13 : ad53 (N + 13) = q29 := by rw [ead53, va_up_ne _ _ (nz_zn N 13 25 (by decide))]; exact ha51_13
  have ha53_14 : ad53 (N + 14) = q31 := by rw [ead53, va_up_ne _ _ (nz_zn N 14 25 (by decide))]; exact ha51_14
  have ha53_15 : ad53 (N + 15) = q33 := by rw [ead53, va_up_ne _ _ (nz_zn N 15 25 (by decide))]; exact ha51_15
  have ha53_16 : ad53 (N + 16) = q35 := by rw [ead53, va_up_ne _ _ (nz_zn N 16 25 (by decide))]; exact ha51_16
  have ha53_17 : ad53 (N + 17) = q37 := by rw [ead53, va_up_ne _ _ (nz_zn N 17 25 (by decide))]; exact ha51_17
  have ha53_18 : ad53 (N + 18) = q39 := by rw [ead53, va_up_ne _ _ (nz_zn N 18 25 (by decide))]; exact ha51_18
  have ha53_19 : ad53 (N + 19) = q41 := by rw [ead53, va_up_ne _ _ (nz_zn N 19 25 (by decide))]; exact ha51_19
  have ha53_20 : ad53 (N + 20) = q43 := by rw [ead53, va_up_ne _ _ (nz_zn N 20 25 (by decide))]; exact ha51_20
  have ha53_21 : ad53 (N + 21) = q45 := by rw [ead53, va_up_ne _ _ (nz_zn N 21 25 (by decide))]; exact ha51_21
  have ha53_22 : ad53 (N + 22) = q47 := by rw [ead53, va_up_ne _ _ (nz_zn N 22 25 (by decide))]; exact ha51_22
  have ha53_23 : ad53 (N + 23) = q49 := by rw [ead53, va_up_ne _ _ (nz_zn N 23 25 (by decide))]; exact ha51_23
  have ha53_24 : ad53 (N + 24) = q51 := by rw [ead53, va_up_ne _ _ (nz_zn N 24 25 (by decide))]; exact ha51_24
  have ha53_25 : ad53 (N + 25) = q53 := by rw [ead53]; exact va_up_self _ _ _
  have hfa53 : ∀ i, i < N → ad53 i = ad i := fun i hi => by rw [ead53, va_up_ne _ _ (nz_zh hi 25)]; exact hfa51 i hi
  clear eC53 hfC52 hC52_h hC52_0 hC52_1 hC52_2 hC52_3 hC52_4 hC52_5 hC52_6 hC52_7 hC52_8 hC52_9 hC52_10 hC52_11 hC52_12 hC52_13 hC52_14 hC52_15 hC52_16 hC52_17 hC52_18 hC52_19 hC52_20 hC52_21 hC52_22 hC52_23 hC52_24 ead53 hfa51 ha51_h ha51_0 ha51_1 ha51_2 ha51_3 ha51_4 ha51_5 ha51_6 ha51_7 ha51_8 ha51_9 ha51_10 ha51_11 ha51_12 ha51_13 ha51_14 ha51_15 ha51_16 ha51_17 ha51_18 ha51_19 ha51_20 ha51_21 ha51_22 ha51_23 ha51_24 hw52
  refine x_putF (fs' := [.int 0, .int (nI 20), .ref q2, .ref q4, .ref q6, .ref q8, .int (nI 1), .ref q11, .ref q13, .ref q15, .int 0, .ref q17, .ref q19, .ref q21, .ref q23, .ref q25, .ref q27, .ref q29, .ref q31, .ref q33, .ref q35, .ref q37, .ref q39, .ref q41, .int 0, .int 0, .int 0, .ref q43, .ref q45, .ref q47, .ref q49, .ref q51, .ref q53, .int 0, .int 0]) S hw53 h ha53_h (lt_zh hh 26) hC53_h rfl in_X8 tyX8_ok nmX8 32 (by decide) wf_X8_97 rfl hini rfl rfl rfl (by show 32 < 35; decide) rfl dX8_init_223 (fun C54 H54 locs54 eC54 hw54 => ?_)
  have hC54_h : C54 h = .inr (8, [.int 0, .int (nI 20), .ref q2, .ref q4, .ref q6, .ref q8, .int (nI 1), .ref q11, .ref q13, .ref q15, .int 0, .ref q17, .ref q19, .ref q21, .ref q23, .ref q25, .ref q27, .ref q29, .ref q31, .ref q33, .ref q35, .ref q37, .ref q39, .ref q41, .int 0, .int 0, .int 0, .ref q43, .ref q45, .ref q47, .ref q49, .ref q51, .ref q53, .int 0, .int 0]) := by rw [eC54]; exact va_up_self _ _ _
  have hC54_0 : C54 N = .inl (G.2.2.1, 120, .inl (fun _ => 0)) := by rw [eC54, va_up_ne _ _ (Nat.ne_of_lt hh).symm]; exact hC53_0
  have hC54_1 : C54 (N + 1) = .inl (G.2.2.1, 120, .inl (fun _ => 0)) := by rw [eC54, va_up_ne _ _ (nz_zh hh 1).symm]; exact hC53_1
  have hC54_2 : C54 (N + 2) = .inl (G.2.2.1, 120, .inl (fun _ => 0)) := by rw [eC54, va_up_ne _ _ (nz_zh hh 2).symm]; exact hC53_2
  have hC54_3 : C54 (N + 3) = .inl (G.2.2.1, 120, .inl (fun _ => 0)) := by rw [eC54, va_up_ne _ _ (nz_zh hh 3).symm]; exact hC53_3
  have hC54_4 : C54 (N + 4) = .inl (G.2.2.1, 200, .inl (fun _ => 0)) := by rw [eC54, va_up_ne _ _ (nz_zh hh 4).symm]; exact hC53_4
  have hC54_5 : C54 (N + 5) = .inl (G.2.2.1, 200, .inl (fun _ => 0)) := by rw [eC54, va_up_ne _ _ (nz_zh hh 5).symm]; exact hC53_5
  have hC54_6 : C54 (N + 6) = .inl (G.2.2.1, 200, .inl (fun _ => 0)) := by rw [eC54, va_up_ne _ _ (nz_zh hh 6).symm]; exact hC53_6
  have hC54_7 : C54 (N + 7) = .inl (G.2.2.1, 6, .inl (fun _ => 0)) := by rw [eC54, va_up_ne _ _ (nz_zh hh 7).symm]; exact hC53_7
  have hC54_8 : C54 (N + 8) = .inl (G.2.2.1, 6, .inl (fun _ => 0)) := by rw [eC54, va_up_ne _ _ (nz_zh hh 8).symm]; exact hC53_8
  have hC54_9 : C54 (N + 9) = .inl (G.2.2.1, 6, .inl (fun _ => 0)) := by rw [eC54, va_up_ne _ _ (nz_zh hh 9).symm]; exact hC53_9
  have hC54_10 : C54 (N + 10) = .inl (G.2.2.2.1, 48, .inl (fun _ => 0)) := by rw [eC54, va_up_ne _ _ (nz_zh hh 10).symm]; exact hC53_10
  have hC54_11 : C54 (N + 11) = .inl (G.2.2.1, 48, .inl (fun _ => 0)) := by rw [eC54, va_up_ne _ _ (nz_zh hh 11).symm]; exact hC53_11
  have hC54_12 : C54 (N + 12) = .inl (G.2.2.1, 48, .inl (fun _ => 0)) := by rw [eC54, va_up_ne _ _ (nz_zh hh 12).symm]; exact hC53_12
  have hC54_13 : C54 (N + 13) = .inl (G.2.2.1, 48, .inl (fun _ => 0)) := by rw [eC54, va_up_ne _ _ (nz_zh hh 13).symm]; exact hC53_13
  have hC54_14 : C54 (N + 14) = .inl (G.2.2.1, 48, .inl (fun _ => 0)) := by rw [eC54, va_up_ne _ _ (nz_zh hh 14).symm]; exact hC53_14
  have hC54_15 : C54 (N + 15) = .inl (G.2.2.1, 48, .inl (fun _ => 0)) := by rw [eC54, va_up_ne _ _ (nz_zh hh 15).symm]; exact hC53_15
  have hC54_16 : C54 (N + 16) = .inl (G.2.2.2.1, 64, .inl (fun _ => 0)) := by rw [eC54, va_up_ne _ _ (nz_zh hh 16).symm]; exact hC53_16
  have hC54_17 : C54 (N + 17) = .inl (G.2.2.1, 64, .inl (fun _ => 0)) := by rw [eC54, va_up_ne _ _ (nz_zh hh 17).symm]; exact hC53_17
  have hC54_18 : C54 (N + 18) = .inl (G.2.2.1, 8, .inl (fun _ => 0)) := by rw [eC54, va_up_ne _ _ (nz_zh hh 18).symm]; exact hC53_18
  have hC54_19 : C54 (N + 19) = .inl (G.2.2.1, 24, .inl (fun _ => 0)) := by rw [eC54, va_up_ne _ _ (nz_zh hh 19).symm]; exact hC53_19
  have hC54_20 : C54 (N + 20) = .inl (G.2.2.1, 20, .inl (fun _ => 0)) := by rw [eC54, va_up_ne _ _ (nz_zh hh 20).symm]; exact hC53_20
  have hC54_21 : C54 (N + 21) = .inl (G.2.2.1, 20, .inl (fun _ => 0)) := by rw [eC54, va_up_ne _ _ (nz_zh hh 21).symm]; exact hC53_21
  have hC54_22 : C54 (N + 22) = .inl (G.2.2.1, 20, .inl (fun _ => 0)) := by rw [eC54, va_up_ne _ _ (nz_zh hh 22).symm]; exact hC53_22
  have hC54_23 : C54 (N + 23) = .inl (G.2.2.1, 20, .inl (fun _ => 0)) := by rw [eC54, va_up_ne _ _ (nz_zh hh 23).symm]; exact hC53_23
  have hC54_24 : C54 (N + 24) = .inl (G.2.2.1, 20, .inl (fun _ => 0)) := by rw [eC54, va_up_ne _ _ (nz_zh hh 24).symm]; exact hC53_24
  have hC54_25 : C54 (N + 25) = .inl (G.2.2.1, 180900, .inl (fun _ => 0)) := by rw [eC54, va_up_ne _ _ (nz_zh hh 25).symm]; exact hC53_25
  have hfC54 : ∀ i, i < N → i ≠ h → C54 i = C i := fun i hi hne => by rw [eC54, va_up_ne _ _ hne]; exact hfC53 i hi hne
  clear eC54 hfC53 hC53_h hC53_0 hC53_1 hC53_2 hC53_3 hC53_4 hC53_5 hC53_6 hC53_7 hC53_8 hC53_9 hC53_10 hC53_11 hC53_12 hC53_13 hC53_14 hC53_15 hC53_16 hC53_17 hC53_18 hC53_19 hC53_20 hC53_21 hC53_22 hC53_23 hC53_24 hC53_25 hw53
  refine kk ad53 C54 _ _ hw54 hfa53 hfC54 ?_ hC54_0 hC54_1 hC54_2 hC54_3 hC54_4 hC54_5 hC54_6 hC54_7 hC54_8 hC54_9 hC54_10 hC54_11 hC54_12 hC54_13 hC54_14 hC54_15 hC54_16 hC54_17 hC54_18 hC54_19 hC54_20 hC54_21 hC54_22 hC54_23 hC54_24 hC54_25
  rw [ha53_0, ha53_1, ha53_2, ha53_3, ha53_4, ha53_5, ha53_6, ha53_7, ha53_8, ha53_9, ha53_10, ha53_11, ha53_12, ha53_13, ha53_14, ha53_15, ha53_16, ha53_17, ha53_18, ha53_19, ha53_20, ha53_21, ha53_22, ha53_23, ha53_24, ha53_25]
  exact hC54_h
