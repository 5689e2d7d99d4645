/-! PUSH, TRIAL, UNDO, each as a whole -/
theorem PE.bb {P n : Nat} {M M1 M3 M2 : Mem} (hw : ∀ q, q < 4 * n + 373 → M3 60 (900 * P + q) = pgF n (modR M1) q) (hb : ∀ q, q < 4 * n + 373 → pgF n (modR M2) q = M3 60 (900 * P + q)) : PE n (modR M1) (modR M2) := PE.of (fun q hq => ((hb q hq).trans (hw q hq)).symm)
theorem att_cells {K P : Nat} {M M1 : Mem} (hf : attFr K (61 + 13 * P) M M1) : ∀ k, 34 ≤ k → k < 61 → M1 k = M k := fun k h1 h2 => hf k (by omega) (by omega) (by omega) (by omega) (by omega) (by omega)
theorem st_push {B K K1 P D n b0 Wn t : Nat} {ad1 : Nat → Nat} {M M1 M2 : Mem} {x y u v r r' : Int32} (hB29 : B < 2 ^ 29) (h : Rel B K P D n b0 Wn M) (ht0 : M 20 0 = nI t) (htB : t ≤ B) (hK : K ≤ K1)
    (h1 : attD D (b0 + P) n M x y u v r (Old K M M1) (attS K P n (b0 + P) M (K1, ad1, M1) ∧ attNr n (b0 + P) M M1) (P < K1 ∧ MoA n (b0 + P) (mom M 20) (mom M1 (61 + 13 * P)) ∧ attFr0 K (61 + 13 * P) M M1 ∧ M1 0 = upd (M 0) 8 (nI (P + 1)) ∧ attKr n 6 (b0 + P) t Wn x y u v M M1))
    (h2 : tryD D (b0 + P) n M1 x y u v r' (M2 = M1) (tryC P n (b0 + P) u x M1 M2 ∧ tryNo n M1 M2) (∃ M3 : Mem, tryC P n (b0 + P) u x M1 M3 ∧ tryOk (b0 + P) t Wn (tryHx M1 x y v) (tryFx M1 (b0 + P) n x y u v).2 M1 M3 ∧ M2 = va_up M3 34 (upd (M3 34) 33 (nI (P + 1))))) : r = r' ∧ Inv (B + 1000) K1 M2 := by
  have hP : P ≤ K := h.1.2.1
  have e1 : ∀ k, 34 ≤ k → k < 61 → M1 k = M k := att_any h1 (fun o k _ h2 => o k (by omega)) (fun o => att_cells o.1.2.2) (fun o k h1 h2 => o.2.2.1 k (by omega) (by omega) (by omega) (by omega) (by omega) (by omega) (by omega))
  obtain ⟨er, hc⟩ := push_join h e1 h1 h2
  refine ⟨er, ?_⟩
  rcases hc with ⟨o, rfl⟩ | ⟨hb, ⟨⟨-, -, hf⟩, hS, e18, e19⟩, hc, hno⟩ | ⟨hb, ⟨hPK, hMo, hf, hM0, hk⟩, ⟨M3, hc, hok, rfl⟩, eh, eh60, hF, hFv, hFc, hFs⟩
  · exact ⟨_, _, _, _, _, (h.old hK o).up (by omega)⟩
  · have hf : attFr K (61 + 13 * P) M M1 := hf
    exact ⟨_, _, _, _, _, (h.no hK hf hS (by rw [e18]; exact FA.rf) (by rw [e19]; exact FA.rf) hc (PE.of hno).sy).up (by omega)⟩
  · obtain ⟨ha, ht, hd, hw, ⟨bl1, bl2, bl3, bl4⟩, hm, hs⟩ := id h
    obtain ⟨i1, i2, i3, i4, i5⟩ := id ha.b
    obtain ⟨m1, m2, -, m4, m5, m6, m7, m8, m9, m10, m11, m12, m13, m14⟩ := hm.un
    obtain ⟨k1, k2, k3, k4, k5, k6⟩ := hc
    obtain ⟨o1, o2, o3, o4, o5⟩ := hok
    obtain ⟨f1, f2, f3, f4, f5, f6, f7, f8⟩ := hk
    have eu : ∀ k, k ≠ 34 → va_up M3 34 (upd (M3 34) 33 (nI (P + 1))) k = M3 k := fun k hk => va_up_ne _ _ hk
    have e34 : ∀ j, j ≠ 33 → va_up M3 34 (upd (M3 34) 33 (nI (P + 1))) 34 j = M3 34 j := fun j hj => by rw [va_up_self, pk_un hj]
    have e33 : va_up M3 34 (upd (M3 34) 33 (nI (P + 1))) 34 33 = nI (P + 1) := by rw [va_up_self, pk_us]
    have eq : ∀ r, 2 ≤ r → modR (va_up M3 34 (upd (M3 34) 33 (nI (P + 1)))) r = modR M3 r := modR_rw (fun k hk => eu k (by unfold bkRow at hk; omega))
    generalize va_up M3 34 (upd (M3 34) 33 (nI (P + 1))) = M2 at *
    -- the cells that stay
    have s1 : ∀ k, k < 17 → k ≠ 0 → M2 k = M k := fun k h1 h2 => (eu k (by omega)).trans ((k6 k (by omega)).trans (hf k (by omega) h2 (by omega) (by omega) (by omega) (by omega) (by omega)))
    have s2 : ∀ k, k = 42 ∨ k = 43 ∨ k = 45 ∨ k = 46 ∨ k = 47 ∨ k = 51 ∨ k = 52 ∨ k = 53 ∨ k = 54 ∨ k = 55 ∨ k = 56 ∨ k = 57 ∨ k = 58 → M2 k = M k := fun k hk => (eu k (by omega)).trans ((k6 k (by omega)).trans (e1 k (by omega) (by omega)))
    have ss : ∀ k, (k < 17 ∧ k ≠ 0) ∨ k = 42 ∨ k = 43 ∨ k = 45 ∨ k = 46 ∨ k = 47 ∨ k = 51 ∨ k = 52 ∨ k = 53 ∨ k = 54 ∨ k = 55 ∨ k = 56 ∨ k = 57 ∨ k = 58 → M2 k = M k := fun k hk => by
      by_cases q : k < 17
      · exact s1 k q (by omega)
      · exact s2 k (by omega)
    have s20 : ∀ k, 17 ≤ k → k < 34 → M2 k = M1 k := fun k h1 h2 => (eu k (by omega)).trans (k6 k (by omega))
    have s0 : M2 0 = upd (M 0) 8 (nI (P + 1)) := (eu 0 (by decide)).trans ((k6 0 (by decide)).trans hM0)
    have s34 : ∀ j, j ≠ 34 → j ≠ 24 → j ≠ 25 → j ≠ 6 → j ≠ 33 → M2 34 j = M 34 j := fun j q1 q2 q3 q4 q5 => (e34 j q5).trans ((k5 j q1 q2 q3 q4).trans (by rw [e1 34 (by decide) (by decide)]))
    have s61 : ∀ k, 61 ≤ k → M2 k = M1 k := fun k h1 => (eu k (by omega)).trans (k6 k (by omega))
    have e60 : M2 60 = M3 60 := eu 60 (by decide)
    -- what came
    have hgo : RG n D (b0 + P + 1) M (mom M2 20) (modR M2) := by
      refine RG.trans (RG.rows (fun r q1 q2 q3 => (show M2 (20 + r) = mom M1 20 r from s20 (20 + r) (by omega) (by omega))) (f1.dd i1)) ?_
      refine RG.trans hF ?_
      refine RG.symm (RG.rows (fun r q1 q2 q3 => (eq r q1).trans (o1 r q1 q2 q3)) RG.rf)
    have hca : ∀ t, t < D * 8 → ¬ M 9 t = 0 → M1 29 t = M3 50 t ∧ ∃ c, c < 2 ^ 30 ∧ M1 29 t = nI c := fun t q1 q2 => by
      have z1 : M1 29 t = (attFx M (b0 + P) n x y u v).2 9 t := (f1.2.1 t (by omega) q2).2.2
      have z2 : M2 29 t = modR M2 9 t := (hgo.2.1 t q1 q2).2.2
      have z3 : M2 50 = M3 50 := eu 50 (by decide)
      have z4 : modR M2 9 = M2 50 := by simp [modR]
      rw [s20 29 (by decide) (by decide), z4, z3] at z2
      obtain ⟨c, q3, q4⟩ := hFc t (by omega) q2
      exact ⟨z2, c, by omega, z1.trans q4⟩
    have hkp : FA Wn (M2 32) (M2 59) := by
      rw [s20 32 (by decide) (by decide), f6, eu 59 (by decide), o5, e1 59 (by decide) (by decide), ← eh]
      exact keep_eq m12 (fun w hwn => wish_same hw hB29 i1 (fun k hk => (k6 k (by omega)).trans (e1 k (by omega) (by omega))) hca w hwn)
    have hm2 : MR (B + 1000) n D Wn (b0 + P + 1) M2 (mom M2 20) (modR M2) := by
      refine ⟨?_, ?_, ⟨t + attHx M x y v, by omega, ?_⟩, ?_, ?_, ?_, ?_, RG.T9 (s1 9 (by decide) (by decide)) hgo, ?_, ?_, ?_⟩
      · show M2 21 0 = nI n
        rw [s20 21 (by decide) (by decide)]; exact f5
      · show M2 20 2 = nI (b0 + P + 1)
        rw [s20 20 (by decide) (by decide)]; exact f4
      · show M2 20 0 = nI (t + attHx M x y v)
        rw [s20 20 (by decide) (by decide)]; exact f2
      · rw [modR_0.1]
        show M2 34 24 = M2 20 0
        rw [e34 24 (by decide), s20 20 (by decide) (by decide), f2, o2, eh]
      · rw [modR_0.2.1]
        show M2 34 25 = M2 20 1
        rw [e34 25 (by decide), s20 20 (by decide) (by decide), f3, o3, eh, e1 54 (by decide) (by decide), e1 34 (by decide) (by decide), m5]
        exact (passC_cg ht.2.1 _ _ _).symm
      · rw [modR_0.2.2]
        show M2 34 6 = M2 20 2
        rw [e34 6 (by decide), s20 20 (by decide) (by decide), f4, o4]
      · exact hFv.cg (RG.symm (RG.rows (fun r q1 q2 q3 => (show M2 (20 + r) = mom M1 20 r from s20 (20 + r) (by omega) (by omega))) (f1.dd i1)))
      · exact hkp
      · intro e q1 q2
        show M2 30 e = nI 0
        rw [s20 30 (by decide) (by decide)]
        exact (f1.2.2.1 e q2).trans (hFs e q1 q2)
      · intro t2 q1 q2
        rw [s1 9 (by decide) (by decide)] at q2
        obtain ⟨c, q3, q4⟩ := hFc t2 q1 q2
        refine ⟨c, by omega, ?_⟩
        show M2 29 t2 = nI c
        rw [s20 29 (by decide) (by decide)]
        exact ((f1.2.1 t2 q1 q2).2.2).trans q4
    have hb2 : BL (b0 + P + 1) M2 := by
      have fs : ∀ {f g : Nat → Int32} {a : Int32}, FA (b0 + P) f g → FA (b0 + P + 1) (upd f (b0 + P) a) (upd g (b0 + P) a) := fun {f g a} hfg j hj => by
        by_cases q : j = b0 + P
        · rw [q, pk_us, pk_us]
        · rw [pk_un q, pk_un q]; exact hfg j (by omega)
      refine ⟨?_, ?_, ?_, ?_⟩
      · rw [s20 18 (by decide) (by decide), f7, eu 39 (by decide), k3, e1 39 (by decide) (by decide)]
        exact fs bl1
      · rw [s20 19 (by decide) (by decide), f8, eu 40 (by decide), k4, e1 40 (by decide) (by decide)]
        exact fs bl2
      · rw [s20 18 (by decide) (by decide), f7, pk_un (by omega)]; exact bl3
      · rw [s20 19 (by decide) (by decide), f8, pk_un (by omega)]; exact bl4
    have hs2 : SL (B + 1000) (P + 1) D n b0 Wn M2 := by
      intro p hp
      by_cases q : p = P
      · subst q
        refine ⟨modR M, hm.to (by omega) i1 i5 i4 (s1 9 (by decide) (by decide)) (hMo.to (fun r hr => rfl) (fun r hr => s61 _ (by omega))) PE.rf, fun q hq => ?_⟩
        rw [e60, k1 q hq, modR_cg e1]
      · have := hs.keep (M2 := M2) (Nat.le_refl _) (show B ≤ B + 1000 by omega) i1 i2 i5 i4 (s1 9 (by decide) (by decide)) (fun p hp r hr => (s61 _ (by omega)).trans (hf _ (by omega) (by omega) (by omega) (by omega) (by omega) (by omega) (by omega))) (fun q hq => by rw [e60, k2 q (Or.inl hq), e1 60 (by decide) (by decide)])
        exact this p (by omega)
    obtain ⟨a1, a2, a3, a4, a5, a6, a7, a8, a9, c1, c2, c3, c4⟩ := ha
    exact ⟨P + 1, D, n, b0, Wn, ⟨by rw [s0]; exact pk_us, by omega, by rw [s1 6 (by decide) (by decide)]; exact a3, a4, a5, a6, by omega, by rw [s1 12 (by decide) (by decide)]; exact a8, a9, e33, (s34 10 (by decide) (by decide) (by decide) (by decide) (by decide)).trans c2, (s34 1 (by decide) (by decide) (by decide) (by decide) (by decide)).trans c3, (s34 26 (by decide) (by decide) (by decide) (by decide) (by decide)).trans c4⟩, ht.of (fun k hk => ss k (by omega)), hd.of (fun k hk => ss k (by omega)), hw.of (by omega) (fun k hk => ss k (by omega)), hb2, hm2, hs2⟩
theorem st_trial {B K K1 P D n b0 Wn t : Nat} {ad1 : Nat → Nat} {M M1 M2 : Mem} {x y u v r r' : Int32} (h : Rel B K P D n b0 Wn M) (hK : K ≤ K1)
    (h1 : attD D (b0 + P) n M x y u v r (Old K M M1) (attS K P n (b0 + P) M (K1, ad1, M1) ∧ attNr n (b0 + P) M M1) (attS K P n (b0 + P) M (K1, ad1, M1) ∧ MoA n (b0 + P) (mom M 20) (mom M1 20) ∧ M1 18 = upd (M 18) (b0 + P) u ∧ M1 19 = upd (M 19) (b0 + P) x))
    (h2 : tryD D (b0 + P) n M1 x y u v r' (M2 = M1) (tryC P n (b0 + P) u x M1 M2 ∧ tryNo n M1 M2) (∃ M3 : Mem, tryC P n (b0 + P) u x M1 M3 ∧ tryOk (b0 + P) t Wn (tryHx M1 x y v) (tryFx M1 (b0 + P) n x y u v).2 M1 M3 ∧ BBi P n (4 * n + 373) M3 M2)) : r = r' ∧ Inv (B + 1000) K1 M2 := by
  have e1 : ∀ k, 34 ≤ k → k < 61 → M1 k = M k := att_any h1 (fun o k _ h2 => o k (by omega)) (fun o => att_cells o.1.2.2) (fun o => att_cells o.1.2.2)
  obtain ⟨er, hc⟩ := push_join h e1 h1 h2
  refine ⟨er, ?_⟩
  have un : ∀ (f : Nat → Int32) (z : Int32), FA (b0 + P) (upd f (b0 + P) z) f := fun f z j hj => pk_un (by omega)
  rcases hc with ⟨o, rfl⟩ | ⟨hb, ⟨⟨-, -, hf⟩, hS, e18, e19⟩, hc, hno⟩ | ⟨hb, ⟨⟨-, -, hf⟩, hS, e18, e19⟩, ⟨M3, hc, -, bb1, bb2, bb3, bb4⟩, -⟩
  · exact ⟨_, _, _, _, _, (h.old hK o).up (by omega)⟩
  · have hf : attFr K (61 + 13 * P) M M1 := hf
    exact ⟨_, _, _, _, _, (h.no hK hf hS (by rw [e18]; exact FA.rf) (by rw [e19]; exact FA.rf) hc (PE.of hno).sy).up (by omega)⟩
  · have hf : attFr K (61 + 13 * P) M M1 := hf
    obtain ⟨k1, k2, k3, k4, k5, k6⟩ := hc
    have hc2 : tryC P n (b0 + P) u x M1 M2 := ⟨fun q hq => by rw [bb4 60 (by decide)]; exact k1 q hq, fun q hq => by rw [bb4 60 (by decide)]; exact k2 q hq, by rw [bb4 39 (by decide)]; exact k3, by rw [bb4 40 (by decide)]; exact k4, fun j q1 q2 q3 q4 => (bb2 j q1 q2 q3 q4).trans (k5 j q1 q2 q3 q4), fun k hk => (bb4 k (by omega)).trans (k6 k hk)⟩
    exact ⟨_, _, _, _, _, (h.no hK hf hS (by rw [e18]; exact un _ _) (by rw [e19]; exact un _ _) hc2 (PE.bb (M := M) k1 bb3)).up (by omega)⟩
theorem st_undo {B K K1 P D n b0 Wn : Nat} {M M1 M2 : Mem} {r r' : Int32} (h : Rel B K P D n b0 Wn M) (hK : K ≤ K1)
    (h1 : Dec1 (decide (0 < P)) (r = -3 ∧ Old K M M1) (r = nI (b0 + (P - 1)) ∧ P - 1 < K1 ∧ M1 0 = upd (M 0) 8 (nI (P - 1)) ∧ MoA n (b0 + (P - 1)) (mom M (61 + 13 * (P - 1))) (mom M1 20) ∧ (∀ i, i < 61 + 13 * K → i ≠ 0 → (i < 20 ∨ 33 ≤ i) → M1 i = M i)))
    (h2 : Dec1 (decide (0 < P)) (r' = -3 ∧ M2 = M1) (r' = M2 34 6 ∧ ∃ M3 : Mem, M3 = va_up M1 34 (upd (M1 34) 33 (nI (P - 1))) ∧ BBi (P - 1) n (4 * n + 373) M3 M2)) : r = r' ∧ Inv (B + 1000) K1 M2 := by
  rcases h1.join h2 with ⟨-, ⟨r1, o⟩, r2, rfl⟩ | ⟨e0, ⟨r1, hPK, hM0, hMo, hf⟩, r2, M3, rfl, bb1, bb2, bb3, bb4⟩
  · exact ⟨r1.trans r2.symm, _, _, _, _, _, (h.old hK o).up (by omega)⟩
  have hP0 : 0 < P := of_decide_eq_true e0
  obtain ⟨p, rfl⟩ : ∃ p, P = p + 1 := ⟨P - 1, by omega⟩
  rw [Nat.add_sub_cancel] at *
  obtain ⟨ha, ht, hd, hw, ⟨bl1, bl2, bl3, bl4⟩, hm, hs⟩ := h
  obtain ⟨i1, i2, i3, i4, i5⟩ := id ha.b
  have hPK2 : p + 1 ≤ K := ha.2.1
  have eu : ∀ k, k ≠ 34 → va_up M1 34 (upd (M1 34) 33 (nI p)) k = M1 k := fun k hk => va_up_ne _ _ hk
  have e34 : ∀ j, j ≠ 33 → va_up M1 34 (upd (M1 34) 33 (nI p)) 34 j = M1 34 j := fun j hj => by rw [va_up_self, pk_un hj]
  have e33 : va_up M1 34 (upd (M1 34) 33 (nI p)) 34 33 = nI p := by rw [va_up_self, pk_us]
  generalize va_up M1 34 (upd (M1 34) 33 (nI p)) = M3 at *
  have ef : ∀ k, (k < 20 ∧ k ≠ 0) ∨ k = 39 ∨ k = 40 ∨ k = 42 ∨ k = 43 ∨ k = 45 ∨ k = 46 ∨ k = 47 ∨ k = 51 ∨ k = 52 ∨ k = 53 ∨ k = 54 ∨ k = 55 ∨ k = 56 ∨ k = 57 ∨ k = 58 ∨ k = 60 ∨ (61 ≤ k ∧ k < 61 + 13 * K) → M2 k = M k := fun k hk => (bb4 k (by omega)).trans ((eu k (by omega)).trans (hf k (by omega) (by omega) (by omega)))
  obtain ⟨Q, hq1, hq2⟩ := hs p (by omega)
  have hQ : PE n Q (modR M2) := PE.of (fun q hq => by
    rw [bb3 q hq, eu 60 (by decide), hf 60 (by omega) (by decide) (by decide)]
    exact (hq2 q hq).symm)
  have hS : MoA n (b0 + p) (mom M (61 + 13 * p)) (mom M2 20) := hMo.to (fun r hr => rfl) (fun r hr => (bb4 (20 + r) (by omega)).trans (eu (20 + r) (by omega)))
  have hm2 : MR (B + 1000) n D Wn (b0 + p) M2 (mom M2 20) (modR M2) := hq1.to (by omega) i1 i5 (by omega) (ef 9 (by omega)) hS hQ
  have e6 : M2 34 6 = nI (b0 + p) := hm2.un.2.2.2.2.2.1.trans hm2.un.2.1
  have s34 : ∀ j, j ≠ 34 → j ≠ 24 → j ≠ 25 → j ≠ 6 → j ≠ 33 → M2 34 j = M 34 j := fun j q1 q2 q3 q4 q5 => (bb2 j q1 q2 q3 q4).trans ((e34 j q5).trans (by rw [hf 34 (by omega) (by decide) (by decide)]))
  obtain ⟨a1, a2, a3, a4, a5, a6, a7, a8, a9, c1, c2, c3, c4⟩ := ha
  have s0 : M2 0 8 = nI p := by rw [bb4 0 (by decide), eu 0 (by decide), hM0]; exact pk_us
  refine ⟨by rw [r1, r2, e6], p, D, n, b0, Wn, ⟨s0, by omega, by rw [ef 6 (by omega)]; exact a3, a4, a5, a6, by omega, by rw [ef 12 (by omega)]; exact a8, a9, (bb2 33 (by decide) (by decide) (by decide) (by decide)).trans e33, (s34 10 (by decide) (by decide) (by decide) (by decide) (by decide)).trans c2, (s34 1 (by decide) (by decide) (by decide) (by decide) (by decide)).trans c3, (s34 26 (by decide) (by decide) (by decide) (by decide) (by decide)).trans c4⟩, ht.of (fun k hk => ef k (by omega)), hd.of (fun k hk => ef k (by omega)), hw.of (by omega) (fun k hk => ef k (by omega)), ⟨?_, ?_, ?_, ?_⟩, hm2, hs.keep (by omega) (by omega) i1 i2 i5 i4 (ef 9 (by omega)) (fun p' hp r hr => ef _ (by omega)) (fun q hq => by rw [ef 60 (by omega)])⟩
  · rw [ef 18 (by omega), ef 39 (by omega)]; exact bl1.le (by omega)
  · rw [ef 19 (by omega), ef 40 (by omega)]; exact bl2.le (by omega)
  · rw [ef 18 (by omega)]; exact bl3
  · rw [ef 19 (by omega)]; exact bl4
