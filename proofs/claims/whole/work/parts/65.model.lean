set_option maxHeartbeats 4000000 in
set_option maxRecDepth 100000 in
theorem c_X8_init (l : Launch) (G : GT) (ad : Nat → Nat) (C : Nat → va_E) (M : Mem) (hM : ∀ i, i < 34 → C i = cellOf G 0 ad M i) (hC : C 34 = .inr (8, [.int 0, .int 0, .null, .null, .null, .null, .int 0, .null, .null, .null, .int 0, .null, .null, .null, .null, .null, .null, .null, .null, .null, .null, .null, .null, .null, .int 0, .int 0, .int 0, .null, .null, .null, .null, .null, .null, .int 0, .int 0])) : CgV l G yX8_init cX8_init 2 2 44 26 182546 [.ref (ad 34)] (35, ad, C) (fun u => u.1 = 61 ∧ (∀ i, i < 35 → u.2.1 i = ad i) ∧ ∃ M2 : Mem, (∀ i, i < 61 → u.2.2 i = cellOf G 0 u.2.1 M2 i) ∧ (∀ i, i < 34 → M2 i = M i) ∧ Init8 M2) := by
  refine cg_startV (by decide +kernel) (Nat.le_of_ble_eq_true rfl) ?_
  intro p e s m below meth c ls S hr hlocks hini hw hl
  have hini : meth.name = "<init>" := hini
  have hw : Wg G 35 ad C s s.heap [] := hw
  have hl : lv_has ls 2 [(0, .ref (ad 34))] := hl
  refine pre8 (N := 35) (h := 34) S hini (by decide) hC hw hl ?_
  intro ad1 C1 H1 locs1 hw1 hfa hfC h34 h35 h36 h37 h38 h39 h40 h41 h42 h43 h44 h45 h46 h47 h48 h49 h50 h51 h52 h53 h54 h55 h56 h57 h58 h59 h60
  have hM0 : ∀ i, i < 34 → C1 i = cellOf G 0 ad1 M i := fun i c34 => by
    rw [hfC i (Nat.lt_succ_of_lt c34) (Nat.ne_of_lt c34), hM i c34]
    exact cell_34 c34 (fun t ht => (hfa t (Nat.lt_succ_of_lt ht)).symm) rfl
  have hw : Wd G 61 0 ad1 (mZ8 M) s H1 locs1 := hw1.to rfl (fun _ _ => rfl) (conv8 hM0 h34 h35 h36 h37 h38 h39 h40 h41 h42 h43 h44 h45 h46 h47 h48 h49 h50 h51 h52 h53 h54 h55 h56 h57 h58 h59 h60)
  have hl : lv_has ls 2 [(0, .ref (ad1 34))] := by rw [hfa 34 (by decide)]; exact hl
  clear h34 h35 h36 h37 h38 h39 h40 h41 h42 h43 h44 h45 h46 h47 h48 h49 h50 h51 h52 h53 h54 h55 h56 h57 h58 h59 h60 hM0 hw1
  generalize hAv : List.toArray ([.ref (ad 34)] : List Value) = A at S ⊢
  have loop : ∀ (n' i : Nat), i + n' = 24 → ∀ (M1 : Mem) (H : Heap) (locs : List Loc) (ls : Array Slot), (∀ k, k ≠ 54 → M1 k = mZ8 M k) → (∀ j, j < i → M1 54 j = nI 1) → Wd G 61 0 ad1 M1 s H locs → lv_has ls 2 [(0, .ref (ad1 34)), (1, .int (nI i))] → W p l e { frames := 2, cells := 26, slots := 182546, locals := 44 } s m A below meth c H locs 26 182546 (MQ below (va_Qv (fun u => u.1 = 61 ∧ (∀ i, i < 35 → u.2.1 i = ad i) ∧ ∃ M2 : Mem, (∀ i, i < 61 → u.2.2 i = cellOf G 0 u.2.1 M2 i) ∧ (∀ i, i < 34 → M2 i = M i) ∧ Init8 M2) (HgS G) (fun q => G.1 ≤ q)) A s 26 182546 (fun q => G.1 ≤ q)) (F0 m 228 ls []) := by
    intro n'
    induction n' with
    | zero =>
      intro i hi M1 H locs ls hk h54 hw hl
      have hi : i = 24 := by omega
      subst hi
      refine lv_iload_n S.1 S.2.1 dX8_init_228 rfl (lv_at hl 1 rfl) ?_
      refine lv_bipush (v := nI 24) S.1 S.2.1 dX8_init_229 (by decide) ?_
      refine n_ge (tgt := 247) S (by decide) (by decide) dX8_init_231 (by decide) (fun c1 => ?_) (fun c1 => absurd c1 (by omega))
      refine lv_aload_n S.1 S.2.1 dX8_init_247 rfl (lv_at hl 0 rfl) ?_
      refine lv_bipush (v := nI 20) S.1 S.2.1 dX8_init_248 (by decide) ?_
      refine m_VI (As := [.int (nI 20)]) (rest := []) 34 S hw (by decide) rfl rfl (c_X8_line l G 61 0 ad1 M1 (by decide) (nI 20)) mf_X8_line wm_X8_100 ⟨by decide, by decide⟩ ⟨by decide, by decide⟩ hl.1 rfl (Nat.le_of_ble_eq_true rfl) dX8_init_250 (fun r M2 H locs hp hw => ?_)
      refine lv_istore_n (lv' := [(1, .int r), (0, .ref (ad1 34))]) S.1 S.2.1 dX8_init_253 rfl hl (by decide) rfl (fun ls hl => ?_)
      rcases hp with ⟨hp, -⟩ | ⟨-, r1, c1, c6, c10, c26, c24, c25, c33, c35, c36, c37, c38, c39, c40, c41, c3⟩
      · exact absurd hp (by decide)
      have z : ∀ k, 41 < k → k ≠ 54 → M2 k = fun _ => 0 := fun k h1 h2 => (c3 k (by omega)).trans ((hk k h2).trans (mZ8_gt (by omega)))
      refine g_retv S hr hlocks hw ⟨rfl, hfa, M2, fun _ _ => rfl, fun i hi => ?_, ⟨c1, c6, c10, c26, c24, c25, c33⟩, fun j hj => ⟨?_, ?_, ?_, ?_⟩, ⟨?_, ?_, ?_⟩, z 51 (by decide) (by decide), z 52 (by decide) (by decide), z 53 (by decide) (by decide), fun j hj => ?_⟩ dX8_init_254
      · exact (c3 i (by omega)).trans ((hk i (by omega)).trans (mZ8_lt hi))
      · rw [c35]; exact if_pos hj
      · rw [c36]; exact if_pos hj
      · rw [c37]; exact if_pos hj
      · rw [c38]; exact if_pos hj
      · rw [c39]; exact pk_us
      · rw [c40]; exact pk_us
      · rw [c41]; exact pk_us
      · rw [c3 54 (by decide)]; exact h54 j hj
    | succ n' ih =>
      intro i hi M1 H locs ls hk h54 hw hl
      refine lv_iload_n S.1 S.2.1 dX8_init_228 rfl (lv_at hl 1 rfl) ?_
      refine lv_bipush (v := nI 24) S.1 S.2.1 dX8_init_229 (by decide) ?_
      refine n_ge (tgt := 247) S (by omega) (by decide) dX8_init_231 (by decide) (fun c1 => absurd c1 (by omega)) (fun c1 => ?_)
      refine lv_aload_n S.1 S.2.1 dX8_init_234 rfl (lv_at hl 0 rfl) ?_
      refine m_getR 34 23 54 S hw (by decide) rfl rfl rfl in_X8 (by decide) wf_X8_78 dX8_init_235 ?_
      refine lv_iload_n S.1 S.2.1 dX8_init_238 rfl (lv_at hl 1 rfl) ?_
      refine lv_iconst (v := nI 1) S.1 S.2.1 dX8_init_239 (by decide) ?_
      refine n_ast 54 i S hw (by decide) rfl (by decide) (by omega) rfl dX8_init_240 (fun M2 H locs eM2 hw => ?_)
      refine lv_iinc (v := nI (i + 1)) (lv' := [(1, .int (nI (i + 1))), (0, .ref (ad1 34))]) S.1 S.2.1 dX8_init_241 hl (k := 1) rfl (iinc1 _) (by decide) rfl (fun ls hl => ?_)
      refine lv_goto (tgt := 228) S.1 S.2.1 dX8_init_244 (by decide) ?_
      refine ih (i + 1) (by omega) M2 _ _ ls (fun k hk2 => by rw [eM2, va_up_ne _ _ hk2]; exact hk k hk2) (fun j hj => ?_) hw (lv_sub hl [1, 0] rfl)
      rw [eM2, va_up_self]
      by_cases q : j = i
      · rw [q, pk_us]
      · rw [pk_un q]; exact h54 j (by omega)
  refine lv_iconst (v := nI 0) S.1 S.2.1 dX8_init_226 (by decide) ?_
  refine lv_istore_n (lv' := [(1, .int (nI 0)), (0, .ref (ad1 34))]) S.1 S.2.1 dX8_init_227 rfl hl (by decide) rfl (fun ls hl => ?_)
  exact loop 24 0 (by decide) (mZ8 M) _ _ ls (fun _ _ => rfl) (fun j hj => absurd hj (by omega)) hw (lv_sub hl [1, 0] rfl)
