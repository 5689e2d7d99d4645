set_option maxHeartbeats 4000000 in
set_option maxRecDepth 100000 in
/-- THE LAW, from its entry -/
theorem whole_start {p : Program} {e : Env} {s : State} {m : MethodId} {below : List Frame} {meth : Method} {c : Code} (l : Launch) {b L : Nat} {xs : Nat → Int32} (hL : L ≤ 3072) (C0 : lw_At p s m meth c b L xs) : W p l e room_1 s m #[Value.ref b] below meth c s.heap [] 0 0 (lw_Z below #[Value.ref b] s) (entryFrame m ([Value.ref b] : List Value).toArray 4) := by
  obtain ⟨hx, hb, hr, hml, hown, hts, hX, hbl, hlocks, hgv⟩ := id C0
  obtain ⟨G, hG, hw⟩ := start_world hts
  have S : CallFix p m c cL_law 4 s #[Value.ref b] TB RL := ⟨hx, hb, hml, hown, tb_sub hts⟩
  have hl := lv_entry ([.ref b]) (n := 4) (Nat.le_of_ble_eq_true rfl)
  rw [lg_entry_eq]
  generalize (lg_sl ([.ref b]) ++ List.replicate (4 - (lg_sl ([.ref b])).length) Slot.unset).toArray = ls at hl ⊢
  have hl : lv_has ls 4 [(0, .ref b)] := hl
  refine x_new (ci := 7) (fs := [.null, .null, .null, .null, .null, .null, .null, .null, .int 0]) S hw rfl in_X7 tyX7_ok wk_L_7 wb_X7 wn_X7 df_X7 (by decide) (by decide) dL_law_0 (fun q0 ad1 C1 H1 ead1 eC1 hw1 => ?_)
  have hC1 : C1 0 = .inr (7, [.null, .null, .null, .null, .null, .null, .null, .null, .int 0]) := by rw [eC1]; exact va_up_self _ _ _
  have ha1 : ad1 0 = q0 := by rw [ead1]; exact va_up_self _ _ _
  refine lv_dup hx hb dL_law_3 rfl ?_
  have hM7 := c_X7_init l G 1 rfl ad1 C1 0 rfl hC1
  rw [ha1] at hM7
  refine g_cI (As := []) (rest := [.ref q0]) S hw1 hM7 mf_X7_init wm_L_9 ⟨by decide, by decide⟩ ⟨by decide, by decide⟩ hl.1 rfl (Nat.le_of_ble_eq_true rfl) dL_law_4 (fun u2 H2 locs2 hp2 hw2 => ?_)
  obtain ⟨N2, ad2, C2⟩ := u2
  obtain ⟨eN2, ea2, M, hCM, hI7⟩ := hp2
  have eN2 : N2 = 34 := eN2
  subst eN2
  have ea2 : ad2 0 = q0 := ea2
  have hCM : ∀ i, i < 34 → C2 i = cellOf G 0 ad2 M i := hCM
  have hw2 : Wg G 34 ad2 C2 s H2 locs2 := hw2
  refine lv_astore_n (lv' := [(1, .ref q0), (0, .ref b)]) hx hb dL_law_7 rfl hl (by decide) rfl (fun ls hl => ?_)
  refine x_new (ci := 8) (fs := [.int 0, .int 0, .null, .null, .null, .null, .int 0, .null, .null, .null, .int 0, .null, .null, .null, .null, .null, .null, .null, .null, .null, .null, .null, .null, .null, .int 0, .int 0, .int 0, .null, .null, .null, .null, .null, .null, .int 0, .int 0]) S hw2 rfl in_X8 tyX8_ok wk_L_10 wb_X8 wn_X8 df_X8 (by decide) (by decide) dL_law_8 (fun q1 ad3 C3 H3 ead3 eC3 hw3 => ?_)
  have hC3 : C3 34 = .inr (8, [.int 0, .int 0, .null, .null, .null, .null, .int 0, .null, .null, .null, .int 0, .null, .null, .null, .null, .null, .null, .null, .null, .null, .null, .null, .null, .null, .int 0, .int 0, .int 0, .null, .null, .null, .null, .null, .null, .int 0, .int 0]) := by rw [eC3]; exact va_up_self _ _ _
  have ha3 : ad3 34 = q1 := by rw [ead3]; exact va_up_self _ _ _
  have ha32 : ∀ t, t < 34 → ad2 t = ad3 t := fun t ht => by rw [ead3, va_up_ne _ _ (Nat.ne_of_lt ht)]
  have hCM3 : ∀ i, i < 34 → C3 i = cellOf G 0 ad3 M i := fun i hi => by
    rw [eC3, va_up_ne _ _ (Nat.ne_of_lt hi), hCM i hi]
    exact cell_34 hi ha32 rfl
  refine lv_dup hx hb dL_law_11 rfl ?_
  have hM8 := c_X8_init l G ad3 C3 M hCM3 hC3
  rw [ha3] at hM8
  refine g_cI (As := []) (rest := [.ref q1]) S hw3 hM8 mf_X8_init wm_L_12 ⟨by decide, by decide⟩ ⟨by decide, by decide⟩ hl.1 rfl (Nat.le_of_ble_eq_true rfl) dL_law_12 (fun u4 H4 locs4 hp4 hw4 => ?_)
  obtain ⟨N4, ad4, C4⟩ := u4
  obtain ⟨eN4, ea4, M2, hC4, e34, hI8⟩ := hp4
  have eN4 : N4 = 61 := eN4
  subst eN4
  have ea4 : ∀ i, i < 35 → ad4 i = ad3 i := ea4
  have hC4 : ∀ i, i < 61 → C4 i = cellOf G 0 ad4 M2 i := hC4
  have hw4 : Wg G 61 ad4 C4 s H4 locs4 := hw4
  have hw5 : Wd G (61 + 13 * 0) 0 ad4 M2 s H4 locs4 := hw4.to rfl (fun _ _ => rfl) hC4
  have eq0 : q0 = ad4 0 := by rw [ea4 0 (by decide), ← ha32 0 (by decide), ea2]
  have eq1 : q1 = ad4 34 := by rw [ea4 34 (by decide), ha3]
  refine lv_astore_n (lv' := [(2, .ref q1), (1, .ref q0), (0, .ref b)]) hx hb dL_law_15 rfl hl (by decide) rfl (fun ls hl => ?_)
  refine lv_iconst (v := nI 0) hx hb dL_law_16 (by decide) ?_
  refine lv_istore_n (lv' := [(3, .int (nI 0)), (2, .ref q1), (1, .ref q0), (0, .ref b)]) hx hb dL_law_17 rfl hl (by decide) rfl (fun ls hl => ?_)
  rw [eq0, eq1] at hl
  refine W.widen (k := 61 + 26 * 0) (n := 184472 + 1732 * 0) (by decide) (by decide) ?_
  exact law_loop hL C0 hG 513 0 (by decide) (by decide) 0 ad4 M2 H4 locs4 ls (rel_start (hI7.of e34) hI8) hw5 (lv_sub hl [3, 2, 1, 0] rfl)
