/-! THE START: what constructors leave is what is kept; the law from its entry -/
theorem Init7.of {M M2 : Mem} (h : Init7 M) (e : ∀ i, i < 34 → M2 i = M i) : Init7 M2 := by
  unfold Init7
  rw [e 0 (by decide), e 6 (by decide), e 12 (by decide), e 2 (by decide), e 3 (by decide), e 4 (by decide), e 5 (by decide), e 9 (by decide), e 18 (by decide), e 19 (by decide), e 20 (by decide), e 21 (by decide), e 22 (by decide), e 23 (by decide), e 24 (by decide), e 25 (by decide), e 30 (by decide), e 31 (by decide)]
  exact h
theorem rel_start {M : Mem} (h7 : Init7 M) (h8 : Init8 M) : Inv 0 0 M := by
  obtain ⟨⟨a0, a6, a12⟩, b2, b3, b4, b5, b9, b18, b19, ⟨t0, t1, t2, t21⟩, br, b30, b31⟩ := h7
  obtain ⟨⟨c1, c6, c10, c26, c24, c25, c33⟩, cr, ⟨c39, c40, c41⟩, c51, c52, c53, c54⟩ := h8
  have hp : ∀ j, j < 20 → pureB (M 24) j = true := fun j hj => by
    unfold pureB
    rw [(br j hj).2.2.1]
    decide
  have hm : MR 0 20 0 0 1 M (mom M 20) (modR M) := by
    refine MR.mk' t21 t2 ⟨0, Nat.le_refl _, t0⟩ (c24.trans t0.symm) (c25.trans t1.symm) (c6.trans t2.symm) ⟨fun j hj => ?_, fun j hj => ?_, fun j hj hq => ?_, fun i j hi hj _ _ _ => ?_⟩ ⟨fun j hj => (br j hj).1.trans (cr j (by omega)).1.symm, fun j hj => (br j hj).2.1.trans (cr j (by omega)).2.1.symm, fun j hj => (br j hj).2.2.1.trans (cr j (by omega)).2.2.1.symm, fun j hj => (br j hj).2.2.2.trans (cr j (by omega)).2.2.2.symm⟩ (fun t ht => absurd ht (by omega)) (fun t ht => absurd ht (by omega)) (fun j hj => ?_) (fun t ht => absurd ht (by omega)) (fun e _ h2 => b30 e h2) (fun t h1 h2 => absurd (by rw [b9]) h2)
    · show inB (M 22 j) 1 = true
      rw [(br j hj).1]; decide
    · show inB (M 23 j) 8 = true
      rw [(br j hj).2.1]; decide
    · have hq : pureB (M 24) j = false := hq
      rw [hp j hj] at hq; cases hq
    · show M 23 i = M 23 j
      rw [(br i hi).2.1, (br j hj).2.1]
    · rw [show j = 0 by omega, b31, c41]
  refine ⟨0, 0, 20, 1, 0, ⟨a0, Nat.le_refl _, a6, by decide, by decide, by decide, by decide, a12, by decide, c33, c10, c1, c26⟩, ⟨TG.mk (fun j hj => ?_) (by rw [b3, c52]; exact FA.rf) (by rw [b4, c53]; exact FA.rf) (fun t h => absurd h (by omega)), fun j hj => (b5 j hj).trans (c54 j hj).symm, fun t _ _ => by rw [b9]⟩, ⟨fun j hj => absurd hj (by omega), fun j hj => absurd hj (by omega), fun j hj => absurd hj (by omega), fun j hj => absurd hj (by omega)⟩, ⟨fun j hj => absurd hj (by omega), fun j hj => absurd hj (by omega), fun j hj => absurd hj (by omega), fun j hj => absurd hj (by omega), fun j hj => absurd hj (by omega)⟩, ⟨fun j hj => ?_, fun j hj => ?_, b18, b19⟩, hm, SL.none⟩
  · rw [b2 j hj, c51]
    show nI 1 = b01 (eqB 0 0)
    decide
  · rw [show j = 0 by omega, b18, c39]
  · rw [show j = 0 by omega, b19, c40]
theorem df_X7 : ∀ j, j < 9 → defaultValue (tyX7 j) = vp_V [.null, .null, .null, .null, .null, .null, .null, .null, .int 0] j := by
  intro j hj
  rcases (show j = 0 ∨ j = 1 ∨ j = 2 ∨ j = 3 ∨ j = 4 ∨ j = 5 ∨ j = 6 ∨ j = 7 ∨ j = 8 by omega) with rfl | rfl | rfl | rfl | rfl | rfl | rfl | rfl | rfl <;> rfl
theorem df_X8 : ∀ j, j < 35 → defaultValue (tyX8 j) = vp_V [.int 0, .int 0, .null, .null, .null, .null, .int 0, .null, .null, .null, .int 0, .null, .null, .null, .null, .null, .null, .null, .null, .null, .null, .null, .null, .null, .int 0, .int 0, .int 0, .null, .null, .null, .null, .null, .null, .int 0, .int 0] j := by
  intro j hj
  rcases (show j = 0 ∨ j = 1 ∨ j = 2 ∨ j = 3 ∨ j = 4 ∨ j = 5 ∨ j = 6 ∨ j = 7 ∨ j = 8 ∨ j = 9 ∨ j = 10 ∨ j = 11 ∨ j = 12 ∨ j = 13 ∨ j = 14 ∨ j = 15 ∨ j = 16 ∨ j = 17 ∨ j = 18 ∨ j = 19 ∨ j = 20 ∨ j = 21 ∨ j = 22 ∨ j = 23 ∨ j = 24 ∨ j = 25 ∨ j = 26 ∨ j = 27 ∨ j = 28 ∨ j = 29 ∨ j = 30 ∨ j = 31 ∨ j = 32 ∨ j = 33 ∨ j = 34 by omega) with rfl | rfl | rfl | rfl | rfl | rfl | rfl | rfl | rfl | rfl | rfl | rfl | rfl | rfl | rfl | rfl | rfl | rfl | rfl | rfl | rfl | rfl | rfl | rfl | rfl | rfl | rfl | rfl | rfl | rfl | rfl | rfl | rfl | rfl | rfl <;> rfl
theorem nests_in : ∀ q ∈ nests, Cond.methodLinkNest q.1 q.2.1 q.2.2 "OilLine" ∈ lw_tbl := List.forall_mem_cons.mpr ⟨wN_X7_18, List.forall_mem_cons.mpr ⟨wN_X7_25, List.forall_mem_cons.mpr ⟨wN_X7_32, List.forall_mem_cons.mpr ⟨wN_X7_46, List.forall_mem_cons.mpr ⟨wN_X1_23, List.forall_mem_cons.mpr ⟨wN_X1_30, List.forall_mem_cons.mpr ⟨wN_X0_32, List.forall_mem_cons.mpr ⟨wN_X3_25, List.forall_mem_cons.mpr ⟨wN_X1_141, fun _ h => absurd h List.not_mem_nil⟩⟩⟩⟩⟩⟩⟩⟩⟩
set_option maxHeartbeats 4000000 in
set_option maxRecDepth 100000 in
theorem start_world {s : State} {A : Array Value} (hts : ∀ w ∈ lw_tbl, w.before A s = true) : ∃ G : GT, G.1 = s.heap.size ∧ Wg G 0 (fun _ => 0) (fun _ => .inr (0, [])) s s.heap [] := by
  have ht := tb_sub hts
  obtain ⟨c0, i0, hk0⟩ := u_known (ws := TB) (C := RX0) (T := TX0) (N := 6) (n := 6) ht in_X0 (ht _ wb_X0)
  obtain ⟨c1, i1, hk1⟩ := u_known (ws := TB) (C := RX1) (T := TX1) (N := 7) (n := 7) ht in_X1 (ht _ wb_X1)
  obtain ⟨c2, i2, hk2⟩ := u_known (ws := TB) (C := RX2) (T := TX2) (N := 5) (n := 5) ht in_X2 (ht _ wb_X2)
  obtain ⟨c3, i3, hk3⟩ := u_known (ws := TB) (C := RX3) (T := TX3) (N := 5) (n := 5) ht in_X3 (ht _ wb_X3)
  obtain ⟨c4, i4, hk4⟩ := u_known (ws := TB) (C := RX4) (T := TX4) (N := 4) (n := 4) ht in_X4 (ht _ wb_X4)
  obtain ⟨c5, i5, hk5⟩ := u_known (ws := TB) (C := RX5) (T := TX5) (N := 4) (n := 4) ht in_X5 (ht _ wb_X5)
  obtain ⟨c6, i6, hk6⟩ := u_known (ws := TB) (C := RX6) (T := TX6) (N := 5) (n := 5) ht in_X6 (ht _ wb_X6)
  obtain ⟨c7, i7, hk7⟩ := u_known (ws := TB) (C := RX7) (T := TX7) (N := 9) (n := 9) ht in_X7 (ht _ wb_X7)
  obtain ⟨c8, i8, hk8⟩ := u_known (ws := TB) (C := RX8) (T := TX8) (N := 35) (n := 35) ht in_X8 (ht _ wb_X8)
  obtain ⟨cI, kI, pI, f1, f2, f3⟩ := Cond.arrayClass_spec (ht _ wA_I)
  obtain ⟨cZ, kZ, pZ, z1, z2, z3⟩ := Cond.arrayClass_spec (ht _ wA_Z)
  obtain ⟨pM, cM, kM, g1, g2, g3, g4, g5⟩ := Cond.arrayOver_spec (hts _ wO_M)
  obtain ⟨dC, dI, hKc⟩ : ∃ (dC : Nat → ClassId) (dI : Nat → Nat → Nat), ∀ (k : Nat) (q : vw_C), vwCl[k]? = some q → u_Kn s q.1 q.2.1 q.2.2 (dC k) (dI k) := by
    refine ⟨fun k => if k = 0 then c0 else if k = 1 then c1 else if k = 2 then c2 else if k = 3 then c3 else if k = 4 then c4 else if k = 5 then c5 else if k = 6 then c6 else if k = 7 then c7 else c8, fun k => if k = 0 then i0 else if k = 1 then i1 else if k = 2 then i2 else if k = 3 then i3 else if k = 4 then i4 else if k = 5 then i5 else if k = 6 then i6 else if k = 7 then i7 else i8, ?_⟩
    intro k q hq
    match k, hq with
    | 0, hq => cases hq; exact hk0
    | 1, hq => cases hq; exact hk1
    | 2, hq => cases hq; exact hk2
    | 3, hq => cases hq; exact hk3
    | 4, hq => cases hq; exact hk4
    | 5, hq => cases hq; exact hk5
    | 6, hq => cases hq; exact hk6
    | 7, hq => cases hq; exact hk7
    | 8, hq => cases hq; exact hk8
    | k + 9, hq => simp [vwCl] at hq
  refine ⟨(s.heap.size, (dC, dI), cI, cZ, cM), rfl, fun k q h => by simp [wl] at h, ⟨fun i j p q h => by simp [wl] at h, fun k q h => by simp [wl] at h⟩, va_S.rf, ⟨hKc, fun k q h => ?_⟩, ⟨fun q hq => va_Nw.of rfl (hts _ (nests_in q hq)), va_AO.of (hts _ wO_M)⟩, Nat.le_refl _⟩
  match k, h with
  | 0, h => cases h; exact ⟨fun n z => ⟨fun k h => (by cases h), kI, f2, pI, f3⟩, f1⟩
  | 1, h => cases h; exact ⟨fun n z => ⟨fun k h => (by cases h), kZ, z2, pZ, z3⟩, z1⟩
  | 2, h => cases h; exact ⟨fun n z => ⟨fun k h => (by cases h), kM, g3, pM, g4⟩, kM, pM, g3, g4, g1, g5⟩
  | k + 3, h => simp [tysG] at h
