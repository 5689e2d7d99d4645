/-! constructors with loops -/
theorem up_up {C : Nat → va_E} {q : Nat} {a b : va_E} : va_up (va_up C q a) q b = va_up C q b := by
  funext i
  by_cases h : i = q
  · rw [h, va_up_self, va_up_self]
  · rw [va_up_ne _ _ h, va_up_ne _ _ h, va_up_ne _ _ h]
theorem gfl_s {v : Int32} {f : Nat → Int32} {i : Nat} : upd (fun j => if j < i then v else f j) i v = fun j => if j < i + 1 then v else f j := by
  funext j
  by_cases hj : j = i
  · subst hj; simp [upd]
  · simp only [upd, if_neg hj, show (j < i + 1) = (j < i) by simp; omega]
theorem gfl_0 {v : Int32} {f : Nat → Int32} : (fun j => if j < 0 then v else f j) = f := by
  funext j
  simp
set_option maxHeartbeats 4000000 in
set_option maxRecDepth 100000 in
theorem c_gfill (l : Launch) (G : GT) (N : Nat) (ad : Nat → Nat) (C : Nat → va_E) (q n : Nat) (hq : q < N) (f : Nat → Int32) (hC : C q = .inl (G.2.2.1, n, .inl f)) (hn : n < 2147483648) (v : Int32) : CgV l G yJ7_fill_53178 cJ7_fill_53178 4 0 0 0 0 [.ref (ad q), .int v] (N, ad, C) (fun u => u = (N, ad, va_up C q (.inl (G.2.2.1, n, .inl (fun j => if j < n then v else f j))))) := by
  refine cg_startV (by decide +kernel) (Nat.le_of_ble_eq_true rfl) ?_
  intro p e s m below meth c ls S hr hlocks hini hw hl
  have hw : Wg G N ad C s s.heap [] := hw
  have hl : lv_has ls 4 [(0, .ref (ad q)), (1, .int v)] := hl
  generalize hAv : List.toArray ([.ref (ad q), .int v] : List Value) = A at S ⊢
  have loop : ∀ (n' : Nat) (i : Nat), i + n' = n → ∀ (H : Heap) (locs : List Loc) (ls : Array Slot), Wg G N ad (va_up C q (.inl (G.2.2.1, n, .inl (fun j => if j < i then v else f j)))) s H locs → lv_has ls 4 [(0, .ref (ad q)), (1, .int v), (2, .int (nI i)), (3, .int (nI n))] → W p l e { frames := 0, cells := 0, slots := 0, locals := 0 } s m A below meth c H locs 0 0 (MQ below (va_Qv (fun u => u = (N, ad, va_up C q (.inl (G.2.2.1, n, .inl (fun j => if j < n then v else f j))))) (HgS G) (fun q => G.1 ≤ q)) A s 0 0 (fun q => G.1 ≤ q)) (F0 m 5 ls []) := by
    intro n'
    induction n' with
    | zero =>
      intro i hi H locs ls hw hl
      have hi : i = n := by omega
      subst hi
      refine lv_iload_n S.1 S.2.1 dJ7_fill_53178_5 rfl (lv_at hl 2 rfl) ?_
      refine lv_iload_n S.1 S.2.1 dJ7_fill_53178_6 rfl (lv_at hl 3 rfl) ?_
      refine n_ge (tgt := 20) S (by omega) (by omega) dJ7_fill_53178_7 (by decide) (fun c1 => ?_) (fun c1 => absurd c1 (by omega))
      exact g_retv S hr hlocks hw rfl dJ7_fill_53178_20
    | succ n' ih =>
      intro i hi H locs ls hw hl
      refine lv_iload_n S.1 S.2.1 dJ7_fill_53178_5 rfl (lv_at hl 2 rfl) ?_
      refine lv_iload_n S.1 S.2.1 dJ7_fill_53178_6 rfl (lv_at hl 3 rfl) ?_
      refine n_ge (tgt := 20) S (by omega) (by omega) dJ7_fill_53178_7 (by decide) (fun c11 => absurd c11 (by omega)) (fun c11 => ?_)
      refine lv_aload_n S.1 S.2.1 dJ7_fill_53178_10 rfl (lv_at hl 0 rfl) ?_
      refine lv_iload_n S.1 S.2.1 dJ7_fill_53178_11 rfl (lv_at hl 2 rfl) ?_
      refine lv_iload_n S.1 S.2.1 dJ7_fill_53178_12 rfl (lv_at hl 1 rfl) ?_
      refine x_ast S hw q rfl hq (va_up_self _ _ _) hn i (by omega) dJ7_fill_53178_13 (fun C1 H locs eC1 hw => ?_)
      rw [eC1, up_up, gfl_s] at hw
      refine lv_iinc (v := nI (i + 1)) (lv' := [(2, .int (nI (i + 1))), (0, .ref (ad q)), (1, .int v), (3, .int (nI n))]) S.1 S.2.1 dJ7_fill_53178_14 hl (k := 2) rfl (iinc1 _) (by decide) rfl (fun ls hl => ?_)
      refine lv_goto (tgt := 5) S.1 S.2.1 dJ7_fill_53178_17 (by decide) ?_
      exact ih (i + 1) (by omega) _ _ ls hw (lv_sub hl [1, 2, 0, 3] rfl)
  refine lv_iconst (v := nI 0) S.1 S.2.1 dJ7_fill_53178_0 (by decide) ?_
  refine lv_istore_n (lv' := [(2, .int (nI 0)), (0, .ref (ad q)), (1, .int v)]) S.1 S.2.1 dJ7_fill_53178_1 rfl hl (by decide) rfl (fun ls hl => ?_)
  refine lv_aload_n S.1 S.2.1 dJ7_fill_53178_2 rfl (lv_at hl 1 rfl) ?_
  refine x_len S hw q rfl hq hC 0 rfl dJ7_fill_53178_3 ?_
  refine m_top (y := nI n) rfl ?_
  refine lv_istore_n (lv' := [(3, .int (nI n)), (2, .int (nI 0)), (0, .ref (ad q)), (1, .int v)]) S.1 S.2.1 dJ7_fill_53178_4 rfl hl (by decide) rfl (fun ls hl => ?_)
  refine loop n 0 (by omega) _ _ ls ?_ (lv_sub hl [2, 3, 1, 0] rfl)
  rw [gfl_0]
  refine hw.to rfl (fun _ _ => rfl) (fun i _ => ?_)
  by_cases h : i = q
  · rw [h, va_up_self]; exact hC
  · rw [va_up_ne _ _ h]

set_option maxHeartbeats 4000000 in
set_option maxRecDepth 100000 in
theorem c_X5_init (l : Launch) (G : GT) (N : Nat) (ad : Nat → Nat) (C : Nat → va_E) (h : Nat) (hh : h < N) (hC : C h = .inr (5, [.null, .null, .null, .null])) : CgV l G yX5_init cX5_init 2 1 23 4 160 [.ref (ad h)] (N, ad, C) (fun u => u.1 = (N + 4) ∧ (∀ i, i < N → u.2.1 i = ad i) ∧ (∀ i, i < N → i ≠ h → u.2.2 i = C i) ∧ u.2.2 h = .inr (5, [.ref (u.2.1 N), .ref (u.2.1 (N + 1)), .ref (u.2.1 (N + 2)), .ref (u.2.1 (N + 3))]) ∧ u.2.2 N = .inl (G.2.2.2.1, 64, .inl (fun j => if j < 64 then nI 1 else 0)) ∧ u.2.2 (N + 1) = .inl (G.2.2.1, 64, .inl (fun _ => 0)) ∧ u.2.2 (N + 2) = .inl (G.2.2.1, 8, .inl (fun _ => 0)) ∧ u.2.2 (N + 3) = .inl (G.2.2.1, 24, .inl (fun j => if j < 24 then nI 1 else 0))) := by
  refine cg_startV (by decide +kernel) (Nat.le_of_ble_eq_true rfl) ?_
  intro p e s m below meth c ls S hr hlocks hini hw hl
  have hini : meth.name = "<init>" := hini
  have hw : Wg G N ad C s s.heap [] := hw
  have hl : lv_has ls 2 [(0, .ref (ad h))] := hl
  refine lv_aload_n S.1 S.2.1 dX5_init_0 rfl (lv_at hl 0 rfl) ?_
  refine x_oi S wm_X5_3 hl.1 dX5_init_1 (by decide) (by decide) ?_
  refine lv_aload_n S.1 S.2.1 dX5_init_4 rfl (lv_at hl 0 rfl) ?_
  refine lv_bipush (v := nI 64) S.1 S.2.1 dX5_init_5 (by decide) ?_
  refine x_newZ (N' := 64) S hw (by decide) (by decide) (by decide) (by decide) (by decide) rfl dX5_init_7 (fun q1 ad1 C1 H ead1 eC1 hw => ?_)
  have hC1_h : C1 h = .inr (5, [.null, .null, .null, .null]) := by rw [eC1, va_up_ne _ _ (by omega)]; exact hC
  have hC1_0 : C1 N = .inl (G.2.2.2.1, 64, .inl (fun _ => 0)) := by rw [eC1]; exact va_up_self _ _ _
  have hfC1 : ∀ i, i < N → i ≠ h → C1 i = C i := fun i hi hne => by rw [eC1, va_up_ne _ _ (by omega)]
  have ha1_h : ad1 h = (ad h) := by rw [ead1, va_up_ne _ _ (by omega)]
  have ha1_0 : ad1 N = q1 := by rw [ead1]; exact va_up_self _ _ _
  have hfa1 : ∀ i, i < N → ad1 i = ad i := fun i hi => by rw [ead1, va_up_ne _ _ (by omega)]
  refine x_putF (fs' := [.ref q1, .null, .null, .null]) S hw h ha1_h (by omega) hC1_h rfl in_X5 tyX5_ok nmX5 0 (by decide) wf_X5_9 rfl hini rfl rfl rfl (by show 0 < 4; decide) rfl dX5_init_9 (fun C2 H locs eC2 hw => ?_)
  have hC2_h : C2 h = .inr (5, [.ref q1, .null, .null, .null]) := by rw [eC2]; exact va_up_self _ _ _
  have hC2_0 : C2 N = .inl (G.2.2.2.1, 64, .inl (fun _ => 0)) := by rw [eC2, va_up_ne _ _ (by omega)]; exact hC1_0
  have hfC2 : ∀ i, i < N → i ≠ h → C2 i = C i := fun i hi hne => by rw [eC2, va_up_ne _ _ (by omega)]; exact hfC1 i hi hne
  refine lv_aload_n S.1 S.2.1 dX5_init_12 rfl (lv_at hl 0 rfl) ?_
  refine lv_bipush (v := nI 64) S.1 S.2.1 dX5_init_13 (by decide) ?_
  refine x_newI (N' := 64) S hw (by decide) (by decide) (by decide) (by decide) (by decide) rfl dX5_init_15 (fun q3 ad3 C3 H ead3 eC3 hw => ?_)
  have hC3_h : C3 h = .inr (5, [.ref q1, .null, .null, .null]) := by rw [eC3, va_up_ne _ _ (by omega)]; exact hC2_h
  have hC3_0 : C3 N = .inl (G.2.2.2.1, 64, .inl (fun _ => 0)) := by rw [eC3, va_up_ne _ _ (by omega)]; exact hC2_0
  have hC3_1 : C3 (N + 1) = .inl (G.2.2.1, 64, .inl (fun _ => 0)) := by rw [eC3]; exact va_up_self _ _ _
  have hfC3 : ∀ i, i < N → i ≠ h → C3 i = C i := fun i hi hne => by rw [eC3, va_up_ne _ _ (by omega)]; exact hfC2 i hi hne
  have ha3_h : ad3 h = (ad h) := by rw [ead3, va_up_ne _ _ (by omega)]; exact ha1_h
  have ha3_0 : ad3 N = q1 := by rw [ead3, va_up_ne _ _ (by omega)]; exact ha1_0
  have ha3_1 : ad3 (N + 1) = q3 := by rw [ead3]; exact va_up_self _ _ _
  have hfa3 : ∀ i, i < N → ad3 i = ad i := fun i hi => by rw [ead3, va_up_ne _ _ (by omega)]; exact hfa1 i hi
  refine x_putF (fs' := [.ref q1, .ref q3, .null, .null]) S hw h ha3_h (by omega) hC3_h rfl in_X5 tyX5_ok nmX5 1 (by decide) wf_X5_15 rfl hini rfl rfl rfl (by show 1 < 4; decide) rfl dX5_init_17 (fun C4 H locs eC4 hw => ?_)
  have hC4_h : C4 h = .inr (5, [.ref q1, .ref q3, .null, .null]) := by rw [eC4]; exact va_up_self _ _ _
  have hC4_0 : C4 N = .inl (G.2.2.2.1, 64, .inl (fun _ => 0)) := by rw [eC4, va_up_ne _ _ (by omega)]; exact hC3_0
  have hC4_1 : C4 (N + 1) = .inl (G.2.2.1, 64, .inl (fun _ => 0)) := by rw [eC4, va_up_ne _ _ (by omega)]; exact hC3_1
  have hfC4 : ∀ i, i < N → i ≠ h → C4 i = C i := fun i hi hne => by rw [eC4, va_up_ne _ _ (by omega)]; exact hfC3 i hi hne
  refine lv_aload_n S.1 S.2.1 dX5_init_20 rfl (lv_at hl 0 rfl) ?_
  refine lv_bipush (v := nI 8) S.1 S.2.1 dX5_init_21 (by decide) ?_
  refine x_newI (N' := 8) S hw (by decide) (by decide) (by decide) (by decide) (by decide) rfl dX5_init_23 (fun q5 ad5 C5 H ead5 eC5 hw => ?_)
  have hC5_h : C5 h = .inr (5, [.ref q1, .ref q3, .null, .null]) := by rw [eC5, va_up_ne _ _ (by omega)]; exact hC4_h
  have hC5_0 : C5 N = .inl (G.2.2.2.1, 64, .inl (fun _ => 0)) := by rw [eC5, va_up_ne _ _ (by omega)]; exact hC4_0
  have hC5_1 : C5 (N + 1) = .inl (G.2.2.1, 64, .inl (fun _ => 0)) := by rw [eC5, va_up_ne _ _ (by omega)]; exact hC4_1
  have hC5_2 : C5 (N + 2) = .inl (G.2.2.1, 8, .inl (fun _ => 0)) := by rw [eC5]; exact va_up_self _ _ _
  have hfC5 : ∀ i, i < N → i ≠ h → C5 i = C i := fun i hi hne => by rw [eC5, va_up_ne _ _ (by omega)]; exact hfC4 i hi hne
  have ha5_h : ad5 h = (ad h) := by rw [ead5, va_up_ne _ _ (by omega)]; exact ha3_h
  have ha5_0 : ad5 N = q1 := by rw [ead5, va_up_ne _ _ (by omega)]; exact ha3_0
  have ha5_1 : ad5 (N + 1) = q3 := by rw [ead5, va_up_ne _ _ (by omega)]; exact ha3_1
  have ha5_2 : ad5 (N + 2) = q5 := by rw [ead5]; exact va_up_self _ _ _
  have hfa5 : ∀ i, i < N → ad5 i = ad i := fun i hi => by rw [ead5, va_up_ne _ _ (by omega)]; exact hfa3 i hi
  refine x_putF (fs' := [.ref q1, .ref q3, .ref q5, .null]) S hw h ha5_h (by omega) hC5_h rfl in_X5 tyX5_ok nmX5 2 (by decide) wf_X5_19 rfl hini rfl rfl rfl (by show 2 < 4; decide) rfl dX5_init_25 (fun C6 H locs eC6 hw => ?_)
  have hC6_h : C6 h = .inr (5, [.ref q1, .ref q3, .ref q5, .null]) := by rw [eC6]; exact va_up_self _ _ _
  have hC6_0 : C6 N = .inl (G.2.2.2.1, 64, .inl (fun _ => 0)) := by rw [eC6, va_up_ne _ _ (by omega)]; exact hC5_0
  have hC6_1 : C6 (N + 1) = .inl (G.2.2.1, 64, .inl (fun _ => 0)) := by rw [eC6, va_up_ne _ _ (by omega)]; exact hC5_1
  have hC6_2 : C6 (N + 2) = .inl (G.2.2.1, 8, .inl (fun _ => 0)) := by rw [eC6, va_up_ne _ _ (by omega)]; exact hC5_2
  have hfC6 : ∀ i, i < N → i ≠ h → C6 i = C i := fun i hi hne => by rw [eC6, va_up_ne _ _ (by omega)]; exact hfC5 i hi hne
  refine lv_aload_n S.1 S.2.1 dX5_init_28 rfl (lv_at hl 0 rfl) ?_
  refine lv_bipush (v := nI 24) S.1 S.2.1 dX5_init_29 (by decide) ?_
  refine x_newI (N' := 24) S hw (by decide) (by decide) (by decide) (by decide) (by decide) rfl dX5_init_31 (fun q7 ad7 C7 H ead7 eC7 hw => ?_)
  have hC7_h : C7 h = .inr (5, [.ref q1, .ref q3, .ref q5, .null]) := by rw [eC7, va_up_ne _ _ (by omega)]; exact hC6_h
  have hC7_0 : C7 N = .inl (G.2.2.2.1, 64, .inl (fun _ => 0)) := by rw [eC7, va_up_ne _ _ (by omega)]; exact hC6_0
  have hC7_1 : C7 (N + 1) = .inl (G.2.2.1, 64, .inl (fun _ => 0)) := by rw [eC7, va_up_ne _ _ (by omega)]; exact hC6_1
  have hC7_2 : C7 (N + 2) = .inl (G.2.2.1, 8, .inl (fun _ => 0)) := by rw [eC7, va_up_ne _ _ (by omega)]; exact hC6_2
  have hC7_3 : C7 (N + 3) = .inl (G.2.2.1, 24, .inl (fun _ => 0)) := by rw [eC7]; exact va_up_self _ _ _
  have hfC7 : ∀ i, i < N → i ≠ h → C7 i = C i := fun i hi hne => by rw [eC7, va_up_ne _ _ (by omega)]; exact hfC6 i hi hne
  have ha7_h : ad7 h = (ad h) := by rw [ead7, va_up_ne _ _ (by omega)]; exact ha5_h
  have ha7_0 : ad7 N = q1 := by rw [ead7, va_up_ne _ _ (by omega)]; exact ha5_0
  have ha7_1 : ad7 (N + 1) = q3 := by rw [ead7, va_up_ne _ _ (by omega)]; exact ha5_1
  have ha7_2 : ad7 (N + 2) = q5 := by rw [ead7, va_up_ne _ _ (by omega)]; exact ha5_2
  have ha7_3 : ad7 (N + 3) = q7 := by rw [ead7]; exact va_up_self _ _ _
  have hfa7 : ∀ i, i < N → ad7 i = ad i := fun i hi => by rw [ead7, va_up_ne _ _ (by omega)]; exact hfa5 i hi
  refine x_putF (fs' := [.ref q1, .ref q3, .ref q5, .ref q7]) S hw h ha7_h (by omega) hC7_h rfl in_X5 tyX5_ok nmX5 3 (by decide) wf_X5_22 rfl hini rfl rfl rfl (by show 3 < 4; decide) rfl dX5_init_33 (fun C8 H locs eC8 hw => ?_)
  have hC8_h : C8 h = .inr (5, [.ref q1, .ref q3, .ref q5, .ref q7]) := by rw [eC8]; exact va_up_self _ _ _
  have hC8_0 : C8 N = .inl (G.2.2.2.1, 64, .inl (fun _ => 0)) := by rw [eC8, va_up_ne _ _ (by omega)]; exact hC7_0
  have hC8_1 : C8 (N + 1) = .inl (G.2.2.1, 64, .inl (fun _ => 0)) := by rw [eC8, va_up_ne _ _ (by omega)]; exact hC7_1
  have hC8_2 : C8 (N + 2) = .inl (G.2.2.1, 8, .inl (fun _ => 0)) := by rw [eC8, va_up_ne _ _ (by omega)]; exact hC7_2
  have hC8_3 : C8 (N + 3) = .inl (G.2.2.1, 24, .inl (fun _ => 0)) := by rw [eC8, va_up_ne _ _ (by omega)]; exact hC7_3
  have hfC8 : ∀ i, i < N → i ≠ h → C8 i = C i := fun i hi hne => by rw [eC8, va_up_ne _ _ (by omega)]; exact hfC7 i hi hne
  generalize hAv : List.toArray ([.ref (ad h)] : List Value) = A at S ⊢
  have loop : ∀ (n' i : Nat), i + n' = 64 → ∀ (C2 : Nat → va_E) (H : Heap) (locs : List Loc) (ls : Array Slot), (∀ k, k ≠ N → C2 k = C8 k) → C2 N = .inl (G.2.2.2.1, 64, .inl (fun j => if j < i then nI 1 else 0)) → Wg G (N + 4) ad7 C2 s H locs → lv_has ls 2 [(0, .ref (ad h)), (1, .int (nI i))] → W p l e { frames := 1, cells := 4, slots := 160, locals := 23 } s m A below meth c H locs 4 160 (MQ below (va_Qv (fun u => u.1 = (N + 4) ∧ (∀ i, i < N → u.2.1 i = ad i) ∧ (∀ i, i < N → i ≠ h → u.2.2 i = C i) ∧ u.2.2 h = .inr (5, [.ref (u.2.1 N), .ref (u.2.1 (N + 1)), .ref (u.2.1 (N + 2)), .ref (u.2.1 (N + 3))]) ∧ u.2.2 N = .inl (G.2.2.2.1, 64, .inl (fun j => if j < 64 then nI 1 else 0)) ∧ u.2.2 (N + 1) = .inl (G.2.2.1, 64, .inl (fun _ => 0)) ∧ u.2.2 (N + 2) = .inl (G.2.2.1, 8, .inl (fun _ => 0)) ∧ u.2.2 (N + 3) = .inl (G.2.2.1, 24, .inl (fun j => if j < 24 then nI 1 else 0))) (HgS G) (fun q => G.1 ≤ q)) A s 4 160 (fun q => G.1 ≤ q)) (F0 m 38 ls []) := by
    intro n'
    induction n' with
    | zero =>
      intro i hi C2 H locs ls hk h0 hw hl
      have hi : i = 64 := by omega
      subst hi
      have h2h : C2 h = .inr (5, [.ref q1, .ref q3, .ref q5, .ref q7]) := (hk h (by omega)).trans hC8_h
      have h23 : C2 (N + 3) = .inl (G.2.2.1, 24, .inl (fun _ => 0)) := (hk _ (by omega)).trans hC8_3
      refine lv_iload_n S.1 S.2.1 dX5_init_38 rfl (lv_at hl 1 rfl) ?_
      refine lv_aload_n S.1 S.2.1 dX5_init_39 rfl (lv_at hl 0 rfl) ?_
      refine x_get S hw h ha7_h (by omega) h2h rfl in_X5 0 (by decide) wf_X5_9 rfl dX5_init_40 ?_
      refine x_len S hw N ha7_0 (by omega) h0 1 rfl dX5_init_43 ?_
      refine m_top (y := nI 64) rfl ?_
      refine n_ge (tgt := 60) S (by decide) (by decide) dX5_init_44 (by decide) (fun c1 => ?_) (fun c1 => absurd c1 (by omega))
      refine lv_aload_n S.1 S.2.1 dX5_init_60 rfl (lv_at hl 0 rfl) ?_
      refine x_get S hw h ha7_h (by omega) h2h rfl in_X5 3 (by decide) wf_X5_22 rfl dX5_init_61 ?_
      refine lv_iconst (v := nI 1) S.1 S.2.1 dX5_init_64 (by decide) ?_
      have hM := c_gfill l G (N + 4) ad7 C2 (N + 3) 24 (by omega) _ h23 (by decide) (nI 1)
      rw [ha7_3] at hM
      refine g_cSV (As := [.ref q7, .int (nI 1)]) (rest := []) S hw hM mf_J7_fill_53178 wm_X5_25 ⟨by decide, by decide⟩ ⟨by decide, by decide⟩ hl.1 rfl (Nat.le_of_ble_eq_true rfl) dX5_init_65 (fun u H locs hp hw => ?_)
      obtain ⟨uN, uA, uC⟩ := u
      cases hp
      have hw : Wg G (N + 4) ad7 (va_up C2 (N + 3) (.inl (G.2.2.1, 24, .inl (fun j => if j < 24 then nI 1 else 0)))) s H locs := hw
      refine g_retv S hr hlocks hw ⟨rfl, hfa7, fun i hi hne => ?_, ?_, ?_, ?_, ?_, ?_⟩ dX5_init_68
      · show va_up C2 (N + 3) _ i = C i
        rw [va_up_ne _ _ (by omega)]
        exact (hk i (by omega)).trans (hfC8 i hi hne)
      · show va_up C2 (N + 3) _ h = .inr (5, [.ref (ad7 N), .ref (ad7 (N + 1)), .ref (ad7 (N + 2)), .ref (ad7 (N + 3))])
        rw [va_up_ne _ _ (by omega), ha7_0, ha7_1, ha7_2, ha7_3]
        exact h2h
      · show va_up C2 (N + 3) _ N = _
        rw [va_up_ne _ _ (by omega)]
        exact h0
      · show va_up C2 (N + 3) _ (N + 1) = _
        rw [va_up_ne _ _ (by omega)]
        exact (hk _ (by omega)).trans hC8_1
      · show va_up C2 (N + 3) _ (N + 2) = _
        rw [va_up_ne _ _ (by omega)]
        exact (hk _ (by omega)).trans hC8_2
      · show va_up C2 (N + 3) _ (N + 3) = _
        rw [va_up_self]
    | succ n' ih =>
      intro i hi C2 H locs ls hk h0 hw hl
      have h2h : C2 h = .inr (5, [.ref q1, .ref q3, .ref q5, .ref q7]) := (hk h (by omega)).trans hC8_h
      refine lv_iload_n S.1 S.2.1 dX5_init_38 rfl (lv_at hl 1 rfl) ?_
      refine lv_aload_n S.1 S.2.1 dX5_init_39 rfl (lv_at hl 0 rfl) ?_
      refine x_get S hw h ha7_h (by omega) h2h rfl in_X5 0 (by decide) wf_X5_9 rfl dX5_init_40 ?_
      refine x_len S hw N ha7_0 (by omega) h0 1 rfl dX5_init_43 ?_
      refine m_top (y := nI 64) rfl ?_
      refine n_ge (tgt := 60) S (by omega) (by decide) dX5_init_44 (by decide) (fun c1 => absurd c1 (by omega)) (fun c1 => ?_)
      refine lv_aload_n S.1 S.2.1 dX5_init_47 rfl (lv_at hl 0 rfl) ?_
      refine x_get S hw h ha7_h (by omega) h2h rfl in_X5 0 (by decide) wf_X5_9 rfl dX5_init_48 ?_
      refine lv_iload_n S.1 S.2.1 dX5_init_51 rfl (lv_at hl 1 rfl) ?_
      refine lv_iconst (v := nI 1) S.1 S.2.1 dX5_init_52 (by decide) ?_
      refine x_zst S hw N ha7_0 (by omega) h0 (by decide) i (by omega) (by decide) dX5_init_53 (fun C3 H locs eC3 hw => ?_)
      refine lv_iinc (v := nI (i + 1)) (lv' := [(1, .int (nI (i + 1))), (0, .ref (ad h))]) S.1 S.2.1 dX5_init_54 hl (k := 1) rfl (iinc1 _) (by decide) rfl (fun ls hl => ?_)
      refine lv_goto (tgt := 38) S.1 S.2.1 dX5_init_57 (by decide) ?_
      refine ih (i + 1) (by omega) C3 _ _ ls (fun k hk2 => by rw [eC3, va_up_ne _ _ hk2]; exact hk k hk2) ?_ hw (lv_sub hl [1, 0] rfl)
      rw [eC3, va_up_self, gfl_s]
  refine lv_iconst (v := nI 0) S.1 S.2.1 dX5_init_36 (by decide) ?_
  refine lv_istore_n (lv' := [(1, .int (nI 0)), (0, .ref (ad h))]) S.1 S.2.1 dX5_init_37 rfl hl (by decide) rfl (fun ls hl => ?_)
  refine loop 64 0 (by decide) C8 _ _ ls (fun _ _ => rfl) ?_ hw (lv_sub hl [1, 0] rfl)
  rw [gfl_0 (f := fun _ => 0)]
  exact hC8_0
