theorem TG.un {D : Nat} {M : Mem} (h : TG D M (modT M)) : (∀ j, j < 64 → M 2 j = b01 (eqB (M 51 j) 0)) ∧ FA 64 (M 3) (M 52) ∧ FA 8 (M 4) (M 53) ∧ ∀ t, t < D * 8 → (M 9 t = 0 ↔ M 45 t = 0) ∧ (¬ M 9 t = 0 → M 10 t = M 46 t ∧ M 11 t = M 47 t) := h
theorem TG.mk {D : Nat} {M : Mem} (h2 : ∀ j, j < 64 → M 2 j = b01 (eqB (M 51 j) 0)) (h3 : FA 64 (M 3) (M 52)) (h4 : FA 8 (M 4) (M 53)) (h9 : ∀ t, t < D * 8 → (M 9 t = 0 ↔ M 45 t = 0) ∧ (¬ M 9 t = 0 → M 10 t = M 46 t ∧ M 11 t = M 47 t)) : TG D M (modT M) := ⟨h2, h3, h4, h9⟩
/-- what the reference's rows are in the relation of moments -/
theorem MR.un {B n D Wn bn : Nat} {M : Mem} (h : MR B n D Wn bn M (mom M 20) (modR M)) : M 21 0 = nI n ∧ M 20 2 = nI bn ∧ (∃ t, t ≤ B ∧ M 20 0 = nI t) ∧ M 34 24 = M 20 0 ∧ M 34 25 = M 20 1 ∧ M 34 6 = M 20 2 ∧ VR n bn (mom M 20) ∧ (FA n (M 22) (M 35) ∧ FA n (M 23) (M 36) ∧ FA n (M 24) (M 37) ∧ FA n (M 25) (M 38)) ∧ (∀ t, t < D * 8 → ¬ M 9 t = 0 → M 27 t = M 48 t ∧ M 28 t = M 49 t ∧ M 29 t = M 50 t) ∧ FA D (M 30) (M 44) ∧ FA bn (M 31) (M 41) ∧ FA Wn (M 32) (M 59) ∧ (∀ e, D ≤ e → e < 6 → M 30 e = nI 0) ∧ (∀ t, t < 48 → ¬ M 9 t = 0 → ∃ c, c ≤ B ∧ M 29 t = nI c) := by
  obtain ⟨s10, s02, s00, q00, q01, q02, hv, ⟨f1, f2, f3, f4⟩, h12, hsz, hcb⟩ := h
  rw [modR_0.1] at q00
  rw [modR_0.2.1] at q01
  rw [modR_0.2.2] at q02
  exact ⟨s10, s02, s00, q00, q01, q02, hv, f1, f2, f3, f4, h12, hsz, hcb⟩
theorem MR.mk' {B n D Wn bn : Nat} {M : Mem} (s10 : M 21 0 = nI n) (s02 : M 20 2 = nI bn) (s00 : ∃ t, t ≤ B ∧ M 20 0 = nI t) (q00 : M 34 24 = M 20 0) (q01 : M 34 25 = M 20 1) (q02 : M 34 6 = M 20 2) (hv : VR n bn (mom M 20)) (f1 : FA n (M 22) (M 35) ∧ FA n (M 23) (M 36) ∧ FA n (M 24) (M 37) ∧ FA n (M 25) (M 38)) (f2 : ∀ t, t < D * 8 → ¬ M 9 t = 0 → M 27 t = M 48 t ∧ M 28 t = M 49 t ∧ M 29 t = M 50 t) (f3 : FA D (M 30) (M 44)) (f4 : FA bn (M 31) (M 41)) (h12 : FA Wn (M 32) (M 59)) (hsz : ∀ e, D ≤ e → e < 6 → M 30 e = nI 0) (hcb : ∀ t, t < 48 → ¬ M 9 t = 0 → ∃ c, c ≤ B ∧ M 29 t = nI c) : MR B n D Wn bn M (mom M 20) (modR M) := by
  refine ⟨s10, s02, s00, ?_, ?_, ?_, hv, ⟨f1, f2, f3, f4⟩, h12, hsz, hcb⟩
  · rw [modR_0.1]; exact q00
  · rw [modR_0.2.1]; exact q01
  · rw [modR_0.2.2]; exact q02
theorem AL.reset {K P D n b0 Wn : Nat} {M M2 : Mem} (h : AL K P D n b0 Wn M) (e0 : M2 0 8 = nI 0) (e6 : M2 6 = M 6) (e12 : M2 12 = M 12) (e33 : M2 34 33 = nI 0) (e10 : M2 34 10 = M 34 10) (e1 : M2 34 1 = M 34 1) (e26 : M2 34 26 = M 34 26) : AL K 0 D n (b0 + P) Wn M2 := by
  obtain ⟨a1, a2, a3, a4, a5, a6, a7, a8, a9, b1, b2, b3, b4⟩ := h
  exact ⟨e0, Nat.zero_le _, by rw [e6]; exact a3, a4, a5, by omega, a7, by rw [e12]; exact a8, a9, e33, e10.trans b2, e1.trans b3, e26.trans b4⟩
theorem AL.b {K P D n b0 Wn : Nat} {M : Mem} (h : AL K P D n b0 Wn M) : D ≤ 6 ∧ n ≤ 120 ∧ 1 ≤ b0 ∧ b0 + P ≤ 200 ∧ Wn ≤ 20 := ⟨h.2.2.2.1, h.2.2.2.2.1, h.2.2.2.2.2.1, h.2.2.2.2.2.2.1, h.2.2.2.2.2.2.2.2.1⟩
theorem tn_lt {x : Int32} {n : Nat} (h : inB x n = true) (hn : n ≤ 2 ^ 31) : tn x < n ∧ x = nI (tn x) := by
  obtain ⟨j, hj, e⟩ := inB_of h hn
  have := tn_of e (by omega)
  rw [this]
  exact ⟨hj, e⟩
theorem and2 {a b : Bool} (h : (a && b) = true) : a = true ∧ b = true := by
  cases a <;> cases b <;> simp_all

theorem st_grace {B K P D n b0 Wn : Nat} {M M1 M2 : Mem} {x y r r' : Int32} (h : Rel B K P D n b0 Wn M) (h1 : Dec1 (inB x 8) (r = -1 ∧ M1 = M) (Dec1 (inB y 101) (r = -2 ∧ M1 = M) (r = M 4 (tn x) ∧ M1 0 = (upd (M 0) 8 (nI 0)) ∧ M1 4 = (upd (M 4) (tn x) y) ∧ (∀ k, k ≠ 0 ∧ k ≠ 4 → M1 k = M k)))) (h2 : Dec1 (inB x 8) (r' = -1 ∧ M2 = M1) (Dec1 (inB y 101) (r' = -2 ∧ M2 = M1) (r' = M1 53 (tn x) ∧ M2 34 = (upd (M1 34) 33 (nI 0)) ∧ M2 53 = (upd (M1 53) (tn x) y) ∧ (∀ k, k ≠ 34 ∧ k ≠ 53 → M2 k = M1 k)))) : r = r' ∧ Inv (B + 1000) K M2 := by
  have hB : B ≤ B + 1000 := by omega
  rcases h1.join h2 with ⟨-, ⟨rfl, rfl⟩, rfl, rfl⟩ | ⟨ex, h1, h2⟩
  · exact ⟨rfl, _, _, _, _, _, h.up hB⟩
  rcases h1.join h2 with ⟨-, ⟨rfl, rfl⟩, rfl, rfl⟩ | ⟨ey, h1, h2⟩
  · exact ⟨rfl, _, _, _, _, _, h.up hB⟩
  obtain ⟨ha, ht, hd, hw, hb, hm, hs⟩ := h
  obtain ⟨g2, g3, g4, g9⟩ := TG.un ht.1
  obtain ⟨r1, a1, a2, a3⟩ := h1
  obtain ⟨r2, c1, c2, c3⟩ := h2
  have hf : ∀ k, ¬ (k = 0 ∨ k = 4 ∨ k = 34 ∨ k = 53) → M2 k = M k := fun k hk => (c3 k (by omega)).trans (a3 k (by omega))
  have e33 : M2 34 33 = nI 0 := by rw [c1, a3 34 (by decide)]; exact pk_us
  have e34 : ∀ j, j ≠ 33 → M2 34 j = M 34 j := fun j hj => by rw [c1, a3 34 (by decide)]; exact pk_un hj
  have e0 : M2 0 8 = nI 0 := by rw [c3 0 (by decide), a1]; exact pk_us
  have ec : M2 4 = upd (M 4) (tn x) y := (c3 4 (by decide)).trans a2
  have em : M2 53 = upd (M 53) (tn x) y := by rw [c2, a3 53 (by decide)]
  have ht2 : TL D M2 := by
    refine ⟨TG.mk ?_ ?_ ?_ ?_, ?_, ?_⟩
    · rw [hf 2 (by decide), hf 51 (by decide)]; exact g2
    · rw [hf 3 (by decide), hf 52 (by decide)]; exact g3
    · rw [ec, em]; exact g4.upd rfl
    · rw [hf 9 (by decide), hf 45 (by decide), hf 10 (by decide), hf 46 (by decide), hf 11 (by decide), hf 47 (by decide)]; exact g9
    · rw [hf 5 (by decide), hf 54 (by decide)]; exact ht.2.1
    · rw [hf 9 (by decide)]; exact ht.2.2
  refine ⟨?_, 0, D, n, b0 + P, Wn, ha.reset e0 (hf 6 (by decide)) (hf 12 (by decide)) e33 (e34 10 (by decide)) (e34 1 (by decide)) (e34 26 (by decide)), ht2, hd.of (fun k hk => hf k (by omega)), hw.of hB (fun k hk => hf k (by omega)), hb.of (fun k hk => hf k (by omega)), hm.of hB ha.b.1 ha.b.2.2.2.2 ha.b.2.2.2.1 (hf 9 (by decide)) (fun r hr => hf (20 + r) (by omega)) (fun k hk => hf k (by unfold bkRow at hk; omega)) (e34 24 (by decide)) (e34 25 (by decide)) (e34 6 (by decide)), SL.none⟩
  rw [r1, r2, a3 53 (by decide)]
  exact g4 _ (tn_lt ex (by decide)).1

theorem st_price {B K P D n b0 Wn : Nat} {M M1 M2 : Mem} {x y r r' : Int32} (h : Rel B K P D n b0 Wn M) (h1 : Dec1 (inB x 24) (r = -1 ∧ M1 = M) (Dec1 (inB y 101) (r = -2 ∧ M1 = M) (r = M 5 (tn x) ∧ M1 0 = (upd (M 0) 8 (nI 0)) ∧ M1 5 = (upd (M 5) (tn x) y) ∧ (∀ k, k ≠ 0 ∧ k ≠ 5 → M1 k = M k)))) (h2 : Dec1 (inB x 24) (r' = -1 ∧ M2 = M1) (Dec1 (inB y 101) (r' = -2 ∧ M2 = M1) (r' = M1 54 (tn x) ∧ M2 34 = (upd (M1 34) 33 (nI 0)) ∧ M2 54 = (upd (M1 54) (tn x) y) ∧ (∀ k, k ≠ 34 ∧ k ≠ 54 → M2 k = M1 k)))) : r = r' ∧ Inv (B + 1000) K M2 := by
  have hB : B ≤ B + 1000 := by omega
  rcases h1.join h2 with ⟨-, ⟨rfl, rfl⟩, rfl, rfl⟩ | ⟨ex, h1, h2⟩
  · exact ⟨rfl, _, _, _, _, _, h.up hB⟩
  rcases h1.join h2 with ⟨-, ⟨rfl, rfl⟩, rfl, rfl⟩ | ⟨ey, h1, h2⟩
  · exact ⟨rfl, _, _, _, _, _, h.up hB⟩
  obtain ⟨ha, ht, hd, hw, hb, hm, hs⟩ := h
  obtain ⟨g2, g3, g4, g9⟩ := TG.un ht.1
  obtain ⟨r1, a1, a2, a3⟩ := h1
  obtain ⟨r2, c1, c2, c3⟩ := h2
  have hf : ∀ k, ¬ (k = 0 ∨ k = 5 ∨ k = 34 ∨ k = 54) → M2 k = M k := fun k hk => (c3 k (by omega)).trans (a3 k (by omega))
  have e33 : M2 34 33 = nI 0 := by rw [c1, a3 34 (by decide)]; exact pk_us
  have e34 : ∀ j, j ≠ 33 → M2 34 j = M 34 j := fun j hj => by rw [c1, a3 34 (by decide)]; exact pk_un hj
  have e0 : M2 0 8 = nI 0 := by rw [c3 0 (by decide), a1]; exact pk_us
  have ec : M2 5 = upd (M 5) (tn x) y := (c3 5 (by decide)).trans a2
  have em : M2 54 = upd (M 54) (tn x) y := by rw [c2, a3 54 (by decide)]
  have ht2 : TL D M2 := by
    refine ⟨TG.mk ?_ ?_ ?_ ?_, ?_, ?_⟩
    · rw [hf 2 (by decide), hf 51 (by decide)]; exact g2
    · rw [hf 3 (by decide), hf 52 (by decide)]; exact g3
    · rw [hf 4 (by decide), hf 53 (by decide)]; exact g4
    · rw [hf 9 (by decide), hf 45 (by decide), hf 10 (by decide), hf 46 (by decide), hf 11 (by decide), hf 47 (by decide)]; exact g9
    · rw [ec, em]; exact ht.2.1.upd rfl
    · rw [hf 9 (by decide)]; exact ht.2.2
  refine ⟨?_, 0, D, n, b0 + P, Wn, ha.reset e0 (hf 6 (by decide)) (hf 12 (by decide)) e33 (e34 10 (by decide)) (e34 1 (by decide)) (e34 26 (by decide)), ht2, hd.of (fun k hk => hf k (by omega)), hw.of hB (fun k hk => hf k (by omega)), hb.of (fun k hk => hf k (by omega)), hm.of hB ha.b.1 ha.b.2.2.2.2 ha.b.2.2.2.1 (hf 9 (by decide)) (fun r hr => hf (20 + r) (by omega)) (fun k hk => hf k (by unfold bkRow at hk; omega)) (e34 24 (by decide)) (e34 25 (by decide)) (e34 6 (by decide)), SL.none⟩
  rw [r1, r2, a3 54 (by decide)]
  exact ht.2.1 _ (tn_lt ex (by decide)).1

theorem st_rate {B K P D n b0 Wn : Nat} {M M1 M2 : Mem} {x y r r' : Int32} (h : Rel B K P D n b0 Wn M) (h1 : Dec1 (inB x D) (r = -1 ∧ M1 = M) (Dec1 (wi y (nI 1) (nI 60)) (r = -2 ∧ M1 = M) (r = M 8 (tn x) ∧ M1 0 = (upd (M 0) 8 (nI 0)) ∧ M1 8 = (upd (M 8) (tn x) y) ∧ (∀ k, k ≠ 0 ∧ k ≠ 8 → M1 k = M k)))) (h2 : Dec1 (inB x D) (r' = -1 ∧ M2 = M1) (Dec1 (wi y (nI 1) (nI 60)) (r' = -2 ∧ M2 = M1) (r' = M1 43 (tn x) ∧ M2 34 = (upd (M1 34) 33 (nI 0)) ∧ M2 43 = (upd (M1 43) (tn x) y) ∧ (∀ k, k ≠ 34 ∧ k ≠ 43 → M2 k = M1 k)))) : r = r' ∧ Inv (B + 1000) K M2 := by
  have hB : B ≤ B + 1000 := by omega
  rcases h1.join h2 with ⟨-, ⟨rfl, rfl⟩, rfl, rfl⟩ | ⟨ex, h1, h2⟩
  · exact ⟨rfl, _, _, _, _, _, h.up hB⟩
  rcases h1.join h2 with ⟨-, ⟨rfl, rfl⟩, rfl, rfl⟩ | ⟨ey, h1, h2⟩
  · exact ⟨rfl, _, _, _, _, _, h.up hB⟩
  obtain ⟨ha, ht, hd, hw, hb, hm, hs⟩ := h
  obtain ⟨g2, g3, g4, g9⟩ := TG.un ht.1
  obtain ⟨r1, a1, a2, a3⟩ := h1
  obtain ⟨r2, c1, c2, c3⟩ := h2
  have hf : ∀ k, ¬ (k = 0 ∨ k = 8 ∨ k = 34 ∨ k = 43) → M2 k = M k := fun k hk => (c3 k (by omega)).trans (a3 k (by omega))
  have e33 : M2 34 33 = nI 0 := by rw [c1, a3 34 (by decide)]; exact pk_us
  have e34 : ∀ j, j ≠ 33 → M2 34 j = M 34 j := fun j hj => by rw [c1, a3 34 (by decide)]; exact pk_un hj
  have e0 : M2 0 8 = nI 0 := by rw [c3 0 (by decide), a1]; exact pk_us
  have ec : M2 8 = upd (M 8) (tn x) y := (c3 8 (by decide)).trans a2
  have em : M2 43 = upd (M 43) (tn x) y := by rw [c2, a3 43 (by decide)]
  obtain ⟨d1, d2, d3, d4⟩ := hd
  have hx := tn_lt ex (by have := ha.b.1; omega)
  have hd2 : DL D n M2 := by
    refine ⟨by rw [hf 7 (by decide), hf 42 (by decide)]; exact d1, by rw [ec, em]; exact d2.upd rfl, by rw [hf 7 (by decide)]; exact d3, fun d hd => ?_⟩
    rw [ec]
    by_cases q : d = tn x
    · rw [q, pk_us]; exact ey
    · rw [pk_un q]; exact d4 d hd
  refine ⟨?_, 0, D, n, b0 + P, Wn, ha.reset e0 (hf 6 (by decide)) (hf 12 (by decide)) e33 (e34 10 (by decide)) (e34 1 (by decide)) (e34 26 (by decide)), ht.of (fun k hk => hf k (by omega)), hd2, hw.of hB (fun k hk => hf k (by omega)), hb.of (fun k hk => hf k (by omega)), hm.of hB ha.b.1 ha.b.2.2.2.2 ha.b.2.2.2.1 (hf 9 (by decide)) (fun r hr => hf (20 + r) (by omega)) (fun k hk => hf k (by unfold bkRow at hk; omega)) (e34 24 (by decide)) (e34 25 (by decide)) (e34 6 (by decide)), SL.none⟩
  rw [r1, r2, a3 43 (by decide)]
  exact d2 _ hx.1

theorem st_follow {B K P D n b0 Wn : Nat} {M M1 M2 : Mem} {x y u v r r' : Int32} (h : Rel B K P D n b0 Wn M) (h1 : Dec1 (inB x 8 && inB y 8) (r = -1 ∧ M1 = M) (Dec1 (inB u 2 && inB v 201) (r = -2 ∧ M1 = M) (Dec1 (!(eqB u 0 && eqB x y)) (r = -3 ∧ M1 = M) (r = nI 0 ∧ M1 0 = (upd (M 0) 8 (nI 0)) ∧ M1 2 = (upd (M 2) (tn x * 8 + tn y) (b01 (eqB u (nI 1)))) ∧ M1 3 = (upd (M 3) (tn x * 8 + tn y) v) ∧ M1 4 = (M 4) ∧ M1 5 = (M 5) ∧ (∀ k, k ≠ 0 ∧ (k < 1 ∨ 6 ≤ k) → M1 k = M k))))) (h2 : Dec1 (inB x 8 && inB y 8) (r' = -1 ∧ M2 = M1) (Dec1 (inB u 2 && inB v 201) (r' = -2 ∧ M2 = M1) (Dec1 (!(eqB u 0 && eqB x y)) (r' = -3 ∧ M2 = M1) (r' = nI 0 ∧ M2 34 = (upd (M1 34) 33 (nI 0)) ∧ M2 51 = (upd (M1 51) (tn x * 8 + tn y) (b01 (eqB u 0))) ∧ M2 52 = (upd (M1 52) (tn x * 8 + tn y) v) ∧ (∀ k, k ≠ 34 ∧ k ≠ 51 ∧ k ≠ 52 → M2 k = M1 k))))) : r = r' ∧ Inv (B + 1000) K M2 := by
  have hB : B ≤ B + 1000 := by omega
  rcases h1.join h2 with ⟨-, ⟨rfl, rfl⟩, rfl, rfl⟩ | ⟨exy, h1, h2⟩
  · exact ⟨rfl, _, _, _, _, _, h.up hB⟩
  rcases h1.join h2 with ⟨-, ⟨rfl, rfl⟩, rfl, rfl⟩ | ⟨euv, h1, h2⟩
  · exact ⟨rfl, _, _, _, _, _, h.up hB⟩
  rcases h1.join h2 with ⟨-, ⟨rfl, rfl⟩, rfl, rfl⟩ | ⟨ene, h1, h2⟩
  · exact ⟨rfl, _, _, _, _, _, h.up hB⟩
  obtain ⟨ha, ht, hd, hw, hb, hm, hs⟩ := h
  obtain ⟨g2, g3, g4, g9⟩ := TG.un ht.1
  obtain ⟨r1, a1, a2, a2b, a4, a5, a3⟩ := h1
  obtain ⟨r2, c1, c2, c2b, c3⟩ := h2
  have hf : ∀ k, ¬ (k = 0 ∨ k = 1 ∨ k = 2 ∨ k = 3 ∨ k = 34 ∨ k = 51 ∨ k = 52) → M2 k = M k := fun k hk => by
    rw [c3 k (by omega)]
    by_cases k4 : k = 4
    · rw [k4]; exact a4
    by_cases k5 : k = 5
    · rw [k5]; exact a5
    exact a3 k (by omega)
  have e33 : M2 34 33 = nI 0 := by rw [c1, a3 34 (by decide)]; exact pk_us
  have e34 : ∀ j, j ≠ 33 → M2 34 j = M 34 j := fun j hj => by rw [c1, a3 34 (by decide)]; exact pk_un hj
  have e0 : M2 0 8 = nI 0 := by rw [c3 0 (by decide), a1]; exact pk_us
  have e2 : M2 2 = upd (M 2) (tn x * 8 + tn y) (b01 (eqB u (nI 1))) := (c3 2 (by decide)).trans a2
  have e3 : M2 3 = upd (M 3) (tn x * 8 + tn y) v := (c3 3 (by decide)).trans a2b
  have e51 : M2 51 = upd (M 51) (tn x * 8 + tn y) (b01 (eqB u 0)) := by rw [c2, a3 51 (by decide)]
  have e52 : M2 52 = upd (M 52) (tn x * 8 + tn y) v := by rw [c2b, a3 52 (by decide)]
  have eu : b01 (eqB u (nI 1)) = b01 (eqB (b01 (eqB u 0)) 0) := by
    obtain ⟨j, hj, ej⟩ := inB_of (and2 euv).1 (by decide)
    rw [ej]
    rcases (show j = 0 ∨ j = 1 by omega) with rfl | rfl <;> decide
  have ht2 : TL D M2 := by
    refine ⟨TG.mk ?_ ?_ ?_ ?_, ?_, ?_⟩
    · intro j hj
      rw [e2, e51]
      by_cases q : j = tn x * 8 + tn y
      · rw [q, pk_us, pk_us]; exact eu
      · rw [pk_un q, pk_un q]; exact g2 j hj
    · rw [e3, e52]; exact g3.upd rfl
    · rw [hf 4 (by decide), hf 53 (by decide)]; exact g4
    · rw [hf 9 (by decide), hf 45 (by decide), hf 10 (by decide), hf 46 (by decide), hf 11 (by decide), hf 47 (by decide)]; exact g9
    · rw [hf 5 (by decide), hf 54 (by decide)]; exact ht.2.1
    · rw [hf 9 (by decide)]; exact ht.2.2
  exact ⟨r1.trans r2.symm, 0, D, n, b0 + P, Wn, ha.reset e0 (hf 6 (by decide)) (hf 12 (by decide)) e33 (e34 10 (by decide)) (e34 1 (by decide)) (e34 26 (by decide)), ht2, hd.of (fun k hk => hf k (by omega)), hw.of hB (fun k hk => hf k (by omega)), hb.of (fun k hk => hf k (by omega)), hm.of hB ha.b.1 ha.b.2.2.2.2 ha.b.2.2.2.1 (hf 9 (by decide)) (fun r hr => hf (20 + r) (by omega)) (fun k hk => hf k (by unfold bkRow at hk; omega)) (e34 24 (by decide)) (e34 25 (by decide)) (e34 6 (by decide)), SL.none⟩

theorem st_wait {B K P D n b0 Wn : Nat} {M M1 M2 : Mem} {x r r' : Int32} (h : Rel B K P D n b0 Wn M) (h1 : Dec1 (inB x 1001) (r = -2 ∧ M1 = M) (r = M 20 0 + x ∧ M1 0 = (upd (M 0) 8 (nI 0)) ∧ M1 20 = (upd (M 20) 0 (M 20 0 + x)) ∧ (∀ k, k ≠ 0 ∧ k ≠ 20 → M1 k = M k))) (h2 : Dec1 (inB x 1001) (r' = -2 ∧ M2 = M1) (r' = M1 34 24 + x ∧ M2 34 = (upd (upd (M1 34) 24 (M1 34 24 + x)) 33 (nI 0)) ∧ (∀ k, k ≠ 34 → M2 k = M1 k))) : r = r' ∧ Inv (B + 1000) K M2 := by
  have hB : B ≤ B + 1000 := by omega
  rcases h1.join h2 with ⟨-, ⟨rfl, rfl⟩, rfl, rfl⟩ | ⟨ex, h1, h2⟩
  · exact ⟨rfl, _, _, _, _, _, h.up hB⟩
  obtain ⟨ha, ht, hd, hw, hb, hm, hs⟩ := h
  obtain ⟨g2, g3, g4, g9⟩ := TG.un ht.1
  obtain ⟨r1, a1, a2, a3⟩ := h1
  obtain ⟨r2, c1, c3⟩ := h2
  have hf : ∀ k, ¬ (k = 0 ∨ k = 20 ∨ k = 34) → M2 k = M k := fun k hk => (c3 k (by omega)).trans (a3 k (by omega))
  have e33 : M2 34 33 = nI 0 := by rw [c1]; exact pk_us
  have e24 : M2 34 24 = M 34 24 + x := by rw [c1, pk_un (by decide), pk_us, a3 34 (by decide)]
  have e34 : ∀ j, j ≠ 33 → j ≠ 24 → M2 34 j = M 34 j := fun j hj hj2 => by rw [c1, pk_un hj, pk_un hj2, a3 34 (by decide)]
  have e0 : M2 0 8 = nI 0 := by rw [c3 0 (by decide), a1]; exact pk_us
  have e20 : M2 20 = upd (M 20) 0 (M 20 0 + x) := (c3 20 (by decide)).trans a2
  obtain ⟨m1, m2, ⟨t, htB, m3⟩, m4, m5, m6, m7, m8, m9, m10, m11, m12, m13, m14⟩ := hm.un
  have hx := tn_lt ex (by decide)
  have hm2 : MR (B + 1000) n D Wn (b0 + P) M2 (mom M2 20) (modR M2) := by
    refine MR.mk' ?_ ?_ ⟨t + tn x, by omega, ?_⟩ ?_ ?_ ?_ (VR.rows m7 (Nat.le_refl _) (hf 22 (by decide)) (hf 23 (by decide)) (hf 24 (by decide))) ?_ ?_ ?_ ?_ ?_ ?_ ?_
    · rw [hf 21 (by decide)]; exact m1
    · rw [e20, pk_un (by decide)]; exact m2
    · rw [e20, pk_us, m3]
      conv => lhs; rw [hx.2]
      exact nI_add _ _
    · rw [e24, e20, pk_us, m4]
    · rw [e34 25 (by decide) (by decide), e20, pk_un (by decide)]; exact m5
    · rw [e34 6 (by decide) (by decide), e20, pk_un (by decide)]; exact m6
    · rw [hf 22 (by decide), hf 23 (by decide), hf 24 (by decide), hf 25 (by decide), hf 35 (by decide), hf 36 (by decide), hf 37 (by decide), hf 38 (by decide)]; exact m8
    · rw [hf 9 (by decide), hf 27 (by decide), hf 28 (by decide), hf 29 (by decide), hf 48 (by decide), hf 49 (by decide), hf 50 (by decide)]; exact m9
    · rw [hf 30 (by decide), hf 44 (by decide)]; exact m10
    · rw [hf 31 (by decide), hf 41 (by decide)]; exact m11
    · rw [hf 32 (by decide), hf 59 (by decide)]; exact m12
    · rw [hf 30 (by decide)]; exact m13
    · rw [hf 9 (by decide), hf 29 (by decide)]
      intro t2 h1 h2
      obtain ⟨c, hc, e⟩ := m14 t2 h1 h2
      exact ⟨c, by omega, e⟩
  refine ⟨?_, 0, D, n, b0 + P, Wn, ha.reset e0 (hf 6 (by decide)) (hf 12 (by decide)) e33 (e34 10 (by decide) (by decide)) (e34 1 (by decide) (by decide)) (e34 26 (by decide) (by decide)), ht.of (fun k hk => hf k (by omega)), hd.of (fun k hk => hf k (by omega)), hw.of hB (fun k hk => hf k (by omega)), hb.of (fun k hk => hf k (by omega)), hm2, SL.none⟩
  rw [r1, r2, a3 34 (by decide), m4]

theorem st_tank {B K P D n b0 Wn : Nat} {M M1 M2 : Mem} {x y u v z r r' : Int32} (h : Rel B K P D n b0 Wn M) (h1 : Dec1 (inB x D && inB y 8) (r = -1 ∧ M1 = M) (Dec1 (okTank u v z) (r = -2 ∧ M1 = M) (Dec1 (eqB (M 9 (tn x * 8 + tn y)) 0) (r = -3 ∧ M1 = M) (r = nI 0 ∧ M1 0 = (upd (M 0) 8 (nI 0)) ∧ M1 6 = (M 6) ∧ M1 7 = (M 7) ∧ M1 8 = (M 8) ∧ M1 9 = (upd (M 9) (tn x * 8 + tn y) (nI 1)) ∧ M1 10 = (upd (M 10) (tn x * 8 + tn y) u) ∧ M1 11 = (upd (M 11) (tn x * 8 + tn y) v) ∧ M1 27 = (upd (M 27) (tn x * 8 + tn y) z) ∧ M1 28 = (upd (M 28) (tn x * 8 + tn y) (nI 0)) ∧ M1 29 = (upd (M 29) (tn x * 8 + tn y) (nI 0)) ∧ M1 30 = (M 30) ∧ (∀ k, k ≠ 0 ∧ (k < 6 ∨ 12 ≤ k) ∧ (k < 26 ∨ 31 ≤ k) → M1 k = M k))))) (h2 : Dec1 (inB x D && inB y 8) (r' = -1 ∧ M2 = M1) (Dec1 (okTank u v z) (r' = -2 ∧ M2 = M1) (Dec1 (eqB (M1 45 (tn x * 8 + tn y)) 0) (r' = -3 ∧ M2 = M1) (r' = nI 0 ∧ M2 34 = (upd (M1 34) 33 (nI 0)) ∧ M2 45 = (upd (M1 45) (tn x * 8 + tn y) (nI 1)) ∧ M2 46 = (upd (M1 46) (tn x * 8 + tn y) u) ∧ M2 47 = (upd (M1 47) (tn x * 8 + tn y) v) ∧ M2 48 = (upd (M1 48) (tn x * 8 + tn y) z) ∧ M2 49 = (upd (M1 49) (tn x * 8 + tn y) (nI 0)) ∧ M2 50 = (upd (M1 50) (tn x * 8 + tn y) (nI 0)) ∧ (∀ k, k ≠ 34 ∧ k ≠ 45 ∧ k ≠ 46 ∧ k ≠ 47 ∧ k ≠ 48 ∧ k ≠ 49 ∧ k ≠ 50 → M2 k = M1 k))))) : r = r' ∧ Inv (B + 1000) K M2 := by
  have hB : B ≤ B + 1000 := by omega
  rcases h1.join h2 with ⟨-, ⟨rfl, rfl⟩, rfl, rfl⟩ | ⟨exy, h1, h2⟩
  · exact ⟨rfl, _, _, _, _, _, h.up hB⟩
  rcases h1.join h2 with ⟨-, ⟨rfl, rfl⟩, rfl, rfl⟩ | ⟨eok, h1, h2⟩
  · exact ⟨rfl, _, _, _, _, _, h.up hB⟩
  obtain ⟨ha, ht, hd, hw, hb, hm, hs⟩ := id h
  obtain ⟨g2, g3, g4, g9⟩ := TG.un ht.1
  have hx := tn_lt (and2 exy).1 (by have := ha.b.1; omega)
  have hy := tn_lt (and2 exy).2 (by decide)
  have hD6 := ha.b.1
  obtain ⟨tk, etk⟩ : ∃ tk, tn x * 8 + tn y = tk := ⟨_, rfl⟩
  have htk : tk < D * 8 := by omega
  rw [etk] at h1 h2
  have e45 : M1 45 = M 45 := by
    rcases h1 with ⟨-, -, rfl⟩ | ⟨-, h1⟩
    · rfl
    · exact h1.2.2.2.2.2.2.2.2.2.2.2.2 45 (by decide)
  have eq : eqB (M 9 tk) 0 = eqB (M1 45 tk) 0 := by
    rw [e45]
    have := (g9 tk htk).1
    unfold eqB
    exact decide_eq_decide.mpr this
  rw [← eq] at h2
  rcases h1.join h2 with ⟨-, ⟨rfl, rfl⟩, rfl, rfl⟩ | ⟨e90, h1, h2⟩
  · exact ⟨rfl, _, _, _, _, _, h.up hB⟩
  have z9 : M 9 tk = 0 := by simpa [eqB] using e90
  obtain ⟨r1, a1, b6, b7, b8, b9, b10, b11, b27, b28, b29, b30, a3⟩ := h1
  obtain ⟨r2, c1, c45, c46, c47, c48, c49, c50, c3⟩ := h2
  have hf : ∀ k, ¬ (k = 0 ∨ k = 9 ∨ k = 10 ∨ k = 11 ∨ k = 26 ∨ k = 27 ∨ k = 28 ∨ k = 29 ∨ k = 34 ∨ k = 45 ∨ k = 46 ∨ k = 47 ∨ k = 48 ∨ k = 49 ∨ k = 50) → M2 k = M k := fun k hk => by
    rw [c3 k (by omega)]
    by_cases k6 : k = 6
    · rw [k6]; exact b6
    by_cases k7 : k = 7
    · rw [k7]; exact b7
    by_cases k8 : k = 8
    · rw [k8]; exact b8
    by_cases k30 : k = 30
    · rw [k30]; exact b30
    exact a3 k (by omega)
  have e33 : M2 34 33 = nI 0 := by rw [c1, a3 34 (by decide)]; exact pk_us
  have e34 : ∀ j, j ≠ 33 → M2 34 j = M 34 j := fun j hj => by rw [c1, a3 34 (by decide)]; exact pk_un hj
  have e0 : M2 0 8 = nI 0 := by rw [c3 0 (by decide), a1]; exact pk_us
  have e9 : M2 9 = upd (M 9) tk (nI 1) := (c3 9 (by decide)).trans b9
  have e10 : M2 10 = upd (M 10) tk u := (c3 10 (by decide)).trans b10
  have e11 : M2 11 = upd (M 11) tk v := (c3 11 (by decide)).trans b11
  have e27 : M2 27 = upd (M 27) tk z := (c3 27 (by decide)).trans b27
  have e28 : M2 28 = upd (M 28) tk (nI 0) := (c3 28 (by decide)).trans b28
  have e29 : M2 29 = upd (M 29) tk (nI 0) := (c3 29 (by decide)).trans b29
  have e45 : M2 45 = upd (M 45) tk (nI 1) := by rw [c45, a3 45 (by decide)]
  have e46 : M2 46 = upd (M 46) tk u := by rw [c46, a3 46 (by decide)]
  have e47 : M2 47 = upd (M 47) tk v := by rw [c47, a3 47 (by decide)]
  have e48 : M2 48 = upd (M 48) tk z := by rw [c48, a3 48 (by decide)]
  have e49 : M2 49 = upd (M 49) tk (nI 0) := by rw [c49, a3 49 (by decide)]
  have e50 : M2 50 = upd (M 50) tk (nI 0) := by rw [c50, a3 50 (by decide)]
  have n1 : ¬ nI 1 = 0 := by decide
  obtain ⟨m1, m2, ⟨t, htB, m3⟩, m4, m5, m6, m7, m8, m9, m10, m11, m12, m13, m14⟩ := hm.un
  have ht2 : TL D M2 := by
    refine ⟨TG.mk ?_ ?_ ?_ ?_, ?_, ?_⟩
    · rw [hf 2 (by decide), hf 51 (by decide)]; exact g2
    · rw [hf 3 (by decide), hf 52 (by decide)]; exact g3
    · rw [hf 4 (by decide), hf 53 (by decide)]; exact g4
    · intro t ht
      rw [e9, e45, e10, e46, e11, e47]
      by_cases q : t = tk
      · rw [q, pk_us, pk_us, pk_us, pk_us, pk_us, pk_us]; exact ⟨Iff.rfl, fun _ => ⟨rfl, rfl⟩⟩
      · rw [pk_un q, pk_un q, pk_un q, pk_un q, pk_un q, pk_un q]; exact g9 t ht
    · rw [hf 5 (by decide), hf 54 (by decide)]; exact ht.2.1
    · intro t h1 h2
      rw [e9, pk_un (by omega)]; exact ht.2.2 t h1 h2
  have hw2 : WL (B + 1000) D Wn M2 := by
    obtain ⟨w1, w2, w3, w4, w5⟩ := hw
    refine ⟨by rw [hf 13 (by decide), hf 55 (by decide)]; exact w1, by rw [hf 14 (by decide), hf 56 (by decide)]; exact w2, by rw [hf 15 (by decide), hf 57 (by decide)]; exact w3, by rw [hf 16 (by decide), hf 58 (by decide)]; exact w4, fun w hw => ?_⟩
    obtain ⟨⟨t2, k1, k2, k3⟩, k4, c, k5, k6⟩ := w5 w hw
    rw [hf 13 (by decide), hf 14 (by decide), hf 16 (by decide)]
    refine ⟨⟨t2, k1, k2, ?_⟩, k4, c, by omega, k6⟩
    rw [e9]
    by_cases q : t2 = tk
    · rw [q, pk_us]; exact n1
    · rw [pk_un q]; exact k3
  have hm2 : MR (B + 1000) n D Wn (b0 + P) M2 (mom M2 20) (modR M2) := by
    refine MR.mk' ?_ ?_ ⟨t, by omega, ?_⟩ ?_ ?_ ?_ (VR.rows m7 (Nat.le_refl _) (hf 22 (by decide)) (hf 23 (by decide)) (hf 24 (by decide))) ?_ ?_ ?_ ?_ ?_ ?_ ?_
    · rw [hf 21 (by decide)]; exact m1
    · rw [hf 20 (by decide)]; exact m2
    · rw [hf 20 (by decide)]; exact m3
    · rw [e34 24 (by decide), hf 20 (by decide)]; exact m4
    · rw [e34 25 (by decide), hf 20 (by decide)]; exact m5
    · rw [e34 6 (by decide), hf 20 (by decide)]; exact m6
    · rw [hf 22 (by decide), hf 23 (by decide), hf 24 (by decide), hf 25 (by decide), hf 35 (by decide), hf 36 (by decide), hf 37 (by decide), hf 38 (by decide)]; exact m8
    · intro t2 h1 h2
      rw [e9] at h2
      rw [e27, e28, e29, e48, e49, e50]
      by_cases q : t2 = tk
      · rw [q, pk_us, pk_us, pk_us, pk_us, pk_us, pk_us]; exact ⟨rfl, rfl, rfl⟩
      · rw [pk_un q] at h2
        rw [pk_un q, pk_un q, pk_un q, pk_un q, pk_un q, pk_un q]; exact m9 t2 h1 h2
    · rw [hf 30 (by decide), hf 44 (by decide)]; exact m10
    · rw [hf 31 (by decide), hf 41 (by decide)]; exact m11
    · rw [hf 32 (by decide), hf 59 (by decide)]; exact m12
    · rw [hf 30 (by decide)]; exact m13
    · intro t2 h1 h2
      rw [e9] at h2
      rw [e29]
      by_cases q : t2 = tk
      · exact ⟨0, by omega, by rw [q, pk_us]⟩
      · rw [pk_un q] at h2
        rw [pk_un q]
        obtain ⟨c, hc, e⟩ := m14 t2 h1 h2
        exact ⟨c, by omega, e⟩
  exact ⟨r1.trans r2.symm, 0, D, n, b0 + P, Wn, ha.reset e0 (hf 6 (by decide)) (hf 12 (by decide)) e33 (e34 10 (by decide)) (e34 1 (by decide)) (e34 26 (by decide)), ht2, hd.of (fun k hk => hf k (by omega)), hw2, hb.of (fun k hk => hf k (by omega)), hm2, SL.none⟩

theorem st_wish {B K P D n b0 Wn : Nat} {M M1 M2 : Mem} {x y u v r r' : Int32} (h : Rel B K P D n b0 Wn M) (h1 : Dec1 (inB x D && (inB y 8 && !eqB (M 9 (tn x * 8 + tn y)) 0)) (r = -1 ∧ M1 = M) (Dec1 (wi u (nI 1) (nI 1000) && inB v 100001) (r = -2 ∧ M1 = M) (Dec1 (decide (Wn < 20)) (r = -4 ∧ M1 = M) (r = nI Wn ∧ M1 0 = (upd (M 0) 8 (nI 0)) ∧ M1 12 = (upd (M 12) 0 (nI (Wn + 1))) ∧ M1 13 = (upd (M 13) Wn (nI (tn x * 8 + tn y))) ∧ M1 14 = (upd (M 14) Wn u) ∧ M1 15 = (upd (M 15) Wn v) ∧ M1 16 = (upd (M 16) Wn (M 29 (tn x * 8 + tn y))) ∧ M1 32 = (upd (M 32) Wn (-1)) ∧ (∀ k, k ≠ 0 ∧ (k < 12 ∨ 17 ≤ k) ∧ k ≠ 32 → M1 k = M k))))) (h2 : Dec1 (inB x D && (inB y 8 && !eqB (M1 45 (tn x * 8 + tn y)) 0)) (r' = -1 ∧ M2 = M1) (Dec1 (wi u (nI 1) (nI 1000) && inB v 100001) (r' = -2 ∧ M2 = M1) (Dec1 (decide (Wn < 20)) (r' = -4 ∧ M2 = M1) (r' = nI Wn ∧ M2 34 = (upd (upd (M1 34) 26 (nI (Wn + 1))) 33 (nI 0)) ∧ M2 55 = (upd (M1 55) Wn (nI (tn x * 8 + tn y))) ∧ M2 56 = (upd (M1 56) Wn u) ∧ M2 57 = (upd (M1 57) Wn v) ∧ M2 58 = (upd (M1 58) Wn (M1 50 (tn x * 8 + tn y))) ∧ M2 59 = (upd (M1 59) Wn (-1)) ∧ (∀ k, k ≠ 34 ∧ k ≠ 55 ∧ k ≠ 56 ∧ k ≠ 57 ∧ k ≠ 58 ∧ k ≠ 59 → M2 k = M1 k))))) : r = r' ∧ Inv (B + 1000) K M2 := by
  have hB : B ≤ B + 1000 := by omega
  obtain ⟨ha, ht, hd, hw, hb, hm, hs⟩ := id h
  obtain ⟨g2, g3, g4, g9⟩ := TG.un ht.1
  have hD6 := ha.b.1
  have e45 : M1 45 = M 45 := by
    rcases h1 with ⟨-, -, rfl⟩ | ⟨-, ⟨-, -, rfl⟩ | ⟨-, ⟨-, -, rfl⟩ | ⟨-, h1⟩⟩⟩
    · rfl
    · rfl
    · rfl
    · exact h1.2.2.2.2.2.2.2.2 45 (by decide)
  have eq : (inB x D && (inB y 8 && !eqB (M 9 (tn x * 8 + tn y)) 0)) = (inB x D && (inB y 8 && !eqB (M1 45 (tn x * 8 + tn y)) 0)) := by
    rw [e45]
    cases hx : inB x D
    · rfl
    cases hy : inB y 8
    · rfl
    have hx := tn_lt hx (by omega)
    have hy := tn_lt hy (by decide)
    have := (g9 (tn x * 8 + tn y) (by omega)).1
    have e : eqB (M 9 (tn x * 8 + tn y)) 0 = eqB (M 45 (tn x * 8 + tn y)) 0 := decide_eq_decide.mpr this
    rw [e]
  rw [← eq] at h2
  rcases h1.join h2 with ⟨-, ⟨rfl, rfl⟩, rfl, rfl⟩ | ⟨exy, h1, h2⟩
  · exact ⟨rfl, _, _, _, _, _, h.up hB⟩
  rcases h1.join h2 with ⟨-, ⟨rfl, rfl⟩, rfl, rfl⟩ | ⟨euv, h1, h2⟩
  · exact ⟨rfl, _, _, _, _, _, h.up hB⟩
  rcases h1.join h2 with ⟨-, ⟨rfl, rfl⟩, rfl, rfl⟩ | ⟨efull, h1, h2⟩
  · exact ⟨rfl, _, _, _, _, _, h.up hB⟩
  have hx := tn_lt (and2 exy).1 (by omega)
  have hy := tn_lt (and2 (and2 exy).2).1 (by decide)
  obtain ⟨tk, etk⟩ : ∃ tk, tn x * 8 + tn y = tk := ⟨_, rfl⟩
  have htk : tk < D * 8 := by omega
  rw [etk] at h1 h2 exy
  have n9 : ¬ M 9 tk = 0 := by
    have := (and2 (and2 exy).2).2
    simpa [eqB] using this
  have hW : Wn < 20 := of_decide_eq_true efull
  obtain ⟨r1, a1, b12, b13, b14, b15, b16, b32, a3⟩ := h1
  obtain ⟨r2, c1, c55, c56, c57, c58, c59, c3⟩ := h2
  have hf : ∀ k, ¬ (k = 0 ∨ k = 12 ∨ k = 13 ∨ k = 14 ∨ k = 15 ∨ k = 16 ∨ k = 32 ∨ k = 34 ∨ k = 55 ∨ k = 56 ∨ k = 57 ∨ k = 58 ∨ k = 59) → M2 k = M k := fun k hk => (c3 k (by omega)).trans (a3 k (by omega))
  have e33 : M2 34 33 = nI 0 := by rw [c1]; exact pk_us
  have e26 : M2 34 26 = nI (Wn + 1) := by rw [c1, pk_un (by decide), pk_us]
  have e34 : ∀ j, j ≠ 33 → j ≠ 26 → M2 34 j = M 34 j := fun j hj hj2 => by rw [c1, pk_un hj, pk_un hj2, a3 34 (by decide)]
  have e0 : M2 0 8 = nI 0 := by rw [c3 0 (by decide), a1]; exact pk_us
  have e12 : M2 12 0 = nI (Wn + 1) := by rw [c3 12 (by decide), b12, pk_us]
  have e13 : M2 13 = upd (M 13) Wn (nI tk) := (c3 13 (by decide)).trans b13
  have e14 : M2 14 = upd (M 14) Wn u := (c3 14 (by decide)).trans b14
  have e15 : M2 15 = upd (M 15) Wn v := (c3 15 (by decide)).trans b15
  have e16 : M2 16 = upd (M 16) Wn (M 29 tk) := (c3 16 (by decide)).trans b16
  have e32 : M2 32 = upd (M 32) Wn (-1) := (c3 32 (by decide)).trans b32
  have e55 : M2 55 = upd (M 55) Wn (nI tk) := by rw [c55, a3 55 (by decide)]
  have e56 : M2 56 = upd (M 56) Wn u := by rw [c56, a3 56 (by decide)]
  have e57 : M2 57 = upd (M 57) Wn v := by rw [c57, a3 57 (by decide)]
  have e58 : M2 58 = upd (M 58) Wn (M 50 tk) := by rw [c58, a3 58 (by decide), a3 50 (by decide)]
  have e59 : M2 59 = upd (M 59) Wn (-1) := by rw [c59, a3 59 (by decide)]
  obtain ⟨m1, m2, ⟨t, htB, m3⟩, m4, m5, m6, m7, m8, m9, m10, m11, m12, m13, m14⟩ := hm.un
  have fs : ∀ {f g : Nat → Int32} {a b : Int32}, FA Wn f g → a = b → FA (Wn + 1) (upd f Wn a) (upd g Wn b) := fun {f g a b} hfg hab j hj => by
    by_cases q : j = Wn
    · rw [q, pk_us, pk_us]; exact hab
    · rw [pk_un q, pk_un q]; exact hfg j (by omega)
  have hw2 : WL (B + 1000) D (Wn + 1) M2 := by
    obtain ⟨w1, w2, w3, w4, w5⟩ := hw
    refine ⟨by rw [e13, e55]; exact fs w1 rfl, by rw [e14, e56]; exact fs w2 rfl, by rw [e15, e57]; exact fs w3 rfl, by rw [e16, e58]; exact fs w4 (m9 tk htk n9).2.2, fun w hw => ?_⟩
    rw [e13, e14, e16, hf 9 (by decide)]
    by_cases q : w = Wn
    · rw [q, pk_us, pk_us, pk_us]
      obtain ⟨c, hc, e⟩ := m14 tk (by omega) n9
      exact ⟨⟨tk, htk, rfl, n9⟩, (and2 euv).1, c, by omega, e⟩
    · rw [pk_un q, pk_un q, pk_un q]
      obtain ⟨k1, k4, c, k5, k6⟩ := w5 w (by omega)
      exact ⟨k1, k4, c, by omega, k6⟩
  have hm2 : MR (B + 1000) n D (Wn + 1) (b0 + P) M2 (mom M2 20) (modR M2) := by
    refine MR.mk' ?_ ?_ ⟨t, by omega, ?_⟩ ?_ ?_ ?_ (VR.rows m7 (Nat.le_refl _) (hf 22 (by decide)) (hf 23 (by decide)) (hf 24 (by decide))) ?_ ?_ ?_ ?_ ?_ ?_ ?_
    · rw [hf 21 (by decide)]; exact m1
    · rw [hf 20 (by decide)]; exact m2
    · rw [hf 20 (by decide)]; exact m3
    · rw [e34 24 (by decide) (by decide), hf 20 (by decide)]; exact m4
    · rw [e34 25 (by decide) (by decide), hf 20 (by decide)]; exact m5
    · rw [e34 6 (by decide) (by decide), hf 20 (by decide)]; exact m6
    · rw [hf 22 (by decide), hf 23 (by decide), hf 24 (by decide), hf 25 (by decide), hf 35 (by decide), hf 36 (by decide), hf 37 (by decide), hf 38 (by decide)]; exact m8
    · rw [hf 9 (by decide), hf 27 (by decide), hf 28 (by decide), hf 29 (by decide), hf 48 (by decide), hf 49 (by decide), hf 50 (by decide)]; exact m9
    · rw [hf 30 (by decide), hf 44 (by decide)]; exact m10
    · rw [hf 31 (by decide), hf 41 (by decide)]; exact m11
    · rw [e32, e59]; exact fs m12 rfl
    · rw [hf 30 (by decide)]; exact m13
    · rw [hf 9 (by decide), hf 29 (by decide)]
      intro t2 h1 h2
      obtain ⟨c, hc, e⟩ := m14 t2 h1 h2
      exact ⟨c, by omega, e⟩
  obtain ⟨a1', a2', a3', a4', a5', a6', a7', a8', a9', b1', b2', b3', b4'⟩ := ha
  exact ⟨r1.trans r2.symm, 0, D, n, b0 + P, Wn + 1, ⟨e0, Nat.zero_le _, by rw [hf 6 (by decide)]; exact a3', a4', a5', by omega, a7', e12, hW, e33, (e34 10 (by decide) (by decide)).trans b2', (e34 1 (by decide) (by decide)).trans b3', e26⟩, ht.of (fun k hk => hf k (by omega)), hd.of (fun k hk => hf k (by omega)), hw2, hb.of (fun k hk => hf k (by omega)), hm2, SL.none⟩

theorem st_door {B K P D n b0 Wn : Nat} {M M1 M2 : Mem} {x r r' : Int32} (h : Rel B K P D n b0 Wn M) (h1 : Dec1 (inB x (n + 1)) (r = -2 ∧ M1 = M) (Dec1 (!anyB (fun d => eqB (M 7 d) x) D) (r = -3 ∧ M1 = M) (Dec1 (decide (D < 6)) (r = -4 ∧ M1 = M) (r = nI D ∧ M1 0 = (upd (M 0) 8 (nI 0)) ∧ M1 6 = (upd (M 6) 0 (nI (D + 1))) ∧ M1 7 = (upd (M 7) D x) ∧ M1 8 = (upd (M 8) D (nI 10)) ∧ M1 9 = (M 9) ∧ M1 10 = (M 10) ∧ M1 11 = (M 11) ∧ (∀ k, k ≠ 0 ∧ (k < 6 ∨ 12 ≤ k) → M1 k = M k))))) (h2 : Dec1 (inB x (n + 1)) (r' = -2 ∧ M2 = M1) (Dec1 (!anyB (fun d => eqB (M1 42 d) x) D) (r' = -3 ∧ M2 = M1) (Dec1 (decide (D < 6)) (r' = -4 ∧ M2 = M1) (r' = nI D ∧ M2 34 = (upd (upd (M1 34) 10 (nI (D + 1))) 33 (nI 0)) ∧ M2 42 = (upd (M1 42) D x) ∧ M2 43 = (upd (M1 43) D (nI 10)) ∧ M2 44 = (upd (M1 44) D (nI 0)) ∧ M2 45 = (fun t => if D * 8 ≤ t ∧ t < D * 8 + 8 then nI 0 else M1 45 t) ∧ (∀ k, k ≠ 34 ∧ k ≠ 42 ∧ k ≠ 43 ∧ k ≠ 44 ∧ k ≠ 45 → M2 k = M1 k))))) : r = r' ∧ Inv (B + 1000) K M2 := by
  have hB : B ≤ B + 1000 := by omega
  rcases h1.join h2 with ⟨-, ⟨rfl, rfl⟩, rfl, rfl⟩ | ⟨ex, h1, h2⟩
  · exact ⟨rfl, _, _, _, _, _, h.up hB⟩
  obtain ⟨ha, ht, hd, hw, hb, hm, hs⟩ := id h
  obtain ⟨g2, g3, g4, g9⟩ := TG.un ht.1
  obtain ⟨d1, d2, d3, d4⟩ := id hd
  have e42 : M1 42 = M 42 := by
    rcases h1 with ⟨-, -, rfl⟩ | ⟨-, ⟨-, -, rfl⟩ | ⟨-, h1⟩⟩
    · rfl
    · rfl
    · exact h1.2.2.2.2.2.2.2.2 42 (by decide)
  have eq : anyB (fun d => eqB (M 7 d) x) D = anyB (fun d => eqB (M1 42 d) x) D := anyB_congr (fun d hd => by rw [e42, d1 d hd])
  rw [← eq] at h2
  rcases h1.join h2 with ⟨-, ⟨rfl, rfl⟩, rfl, rfl⟩ | ⟨etk, h1, h2⟩
  · exact ⟨rfl, _, _, _, _, _, h.up hB⟩
  rcases h1.join h2 with ⟨-, ⟨rfl, rfl⟩, rfl, rfl⟩ | ⟨efull, h1, h2⟩
  · exact ⟨rfl, _, _, _, _, _, h.up hB⟩
  have hD : D < 6 := of_decide_eq_true efull
  obtain ⟨r1, a1, b6, b7, b8, b9, b10, b11, a3⟩ := h1
  obtain ⟨r2, c1, c42, c43, c44, c45, c3⟩ := h2
  have hf : ∀ k, ¬ (k = 0 ∨ k = 6 ∨ k = 7 ∨ k = 8 ∨ k = 34 ∨ k = 42 ∨ k = 43 ∨ k = 44 ∨ k = 45) → M2 k = M k := fun k hk => by
    rw [c3 k (by omega)]
    by_cases k9 : k = 9
    · rw [k9]; exact b9
    by_cases k10 : k = 10
    · rw [k10]; exact b10
    by_cases k11 : k = 11
    · rw [k11]; exact b11
    exact a3 k (by omega)
  have e33 : M2 34 33 = nI 0 := by rw [c1]; exact pk_us
  have e10 : M2 34 10 = nI (D + 1) := by rw [c1, pk_un (by decide), pk_us]
  have e34 : ∀ j, j ≠ 33 → j ≠ 10 → M2 34 j = M 34 j := fun j hj hj2 => by rw [c1, pk_un hj, pk_un hj2, a3 34 (by decide)]
  have e0 : M2 0 8 = nI 0 := by rw [c3 0 (by decide), a1]; exact pk_us
  have e6 : M2 6 0 = nI (D + 1) := by rw [c3 6 (by decide), b6, pk_us]
  have e7 : M2 7 = upd (M 7) D x := (c3 7 (by decide)).trans b7
  have e8 : M2 8 = upd (M 8) D (nI 10) := (c3 8 (by decide)).trans b8
  have e42 : M2 42 = upd (M 42) D x := by rw [c42, a3 42 (by decide)]
  have e43 : M2 43 = upd (M 43) D (nI 10) := by rw [c43, a3 43 (by decide)]
  have e44 : M2 44 = upd (M 44) D (nI 0) := by rw [c44, a3 44 (by decide)]
  have e45 : ∀ t, M2 45 t = if D * 8 ≤ t ∧ t < D * 8 + 8 then nI 0 else M 45 t := fun t => by rw [c45, a3 45 (by decide)]
  obtain ⟨m1, m2, ⟨t, htB, m3⟩, m4, m5, m6, m7, m8, m9, m10, m11, m12, m13, m14⟩ := hm.un
  have fs : ∀ {f g : Nat → Int32} {a b : Int32}, FA D f g → a = b → FA (D + 1) (upd f D a) (upd g D b) := fun {f g a b} hfg hab j hj => by
    by_cases q : j = D
    · rw [q, pk_us, pk_us]; exact hab
    · rw [pk_un q, pk_un q]; exact hfg j (by omega)
  have hd2 : DL (D + 1) n M2 := by
    refine ⟨by rw [e7, e42]; exact fs d1 rfl, by rw [e8, e43]; exact fs d2 rfl, fun d hd => ?_, fun d hd => ?_⟩
    · rw [e7]
      by_cases q : d = D
      · rw [q, pk_us]; exact ex
      · rw [pk_un q]; exact d3 d (by omega)
    · rw [e8]
      by_cases q : d = D
      · rw [q, pk_us]; decide
      · rw [pk_un q]; exact d4 d (by omega)
  have ht2 : TL (D + 1) M2 := by
    refine ⟨TG.mk ?_ ?_ ?_ ?_, ?_, ?_⟩
    · rw [hf 2 (by decide), hf 51 (by decide)]; exact g2
    · rw [hf 3 (by decide), hf 52 (by decide)]; exact g3
    · rw [hf 4 (by decide), hf 53 (by decide)]; exact g4
    · intro t h1
      rw [hf 9 (by decide), hf 10 (by decide), hf 11 (by decide), hf 46 (by decide), hf 47 (by decide), e45]
      by_cases q : t < D * 8
      · rw [if_neg (by omega)]; exact g9 t q
      · rw [if_pos (by omega), ht.2.2 t (by omega) (by omega)]
        exact ⟨Iff.rfl, fun z => absurd rfl z⟩
    · rw [hf 5 (by decide), hf 54 (by decide)]; exact ht.2.1
    · intro t h1 h2
      rw [hf 9 (by decide)]; exact ht.2.2 t (by omega) h2
  have hw2 : WL (B + 1000) (D + 1) Wn M2 := by
    have hw := hw.of (M2 := M2) hB (fun k hk => hf k (by omega))
    obtain ⟨w1, w2, w3, w4, w5⟩ := hw
    refine ⟨w1, w2, w3, w4, fun w hw => ?_⟩
    obtain ⟨⟨t2, k1, k2, k3⟩, k4⟩ := w5 w hw
    exact ⟨⟨t2, by omega, k2, k3⟩, k4⟩
  have hm2 : MR (B + 1000) n (D + 1) Wn (b0 + P) M2 (mom M2 20) (modR M2) := by
    refine MR.mk' ?_ ?_ ⟨t, by omega, ?_⟩ ?_ ?_ ?_ (VR.rows m7 (Nat.le_refl _) (hf 22 (by decide)) (hf 23 (by decide)) (hf 24 (by decide))) ?_ ?_ ?_ ?_ ?_ ?_ ?_
    · rw [hf 21 (by decide)]; exact m1
    · rw [hf 20 (by decide)]; exact m2
    · rw [hf 20 (by decide)]; exact m3
    · rw [e34 24 (by decide) (by decide), hf 20 (by decide)]; exact m4
    · rw [e34 25 (by decide) (by decide), hf 20 (by decide)]; exact m5
    · rw [e34 6 (by decide) (by decide), hf 20 (by decide)]; exact m6
    · rw [hf 22 (by decide), hf 23 (by decide), hf 24 (by decide), hf 25 (by decide), hf 35 (by decide), hf 36 (by decide), hf 37 (by decide), hf 38 (by decide)]; exact m8
    · rw [hf 9 (by decide), hf 27 (by decide), hf 28 (by decide), hf 29 (by decide), hf 48 (by decide), hf 49 (by decide), hf 50 (by decide)]
      intro t2 h1 h2
      by_cases q : t2 < D * 8
      · exact m9 t2 q h2
      · exact absurd (ht.2.2 t2 (by omega) (by omega)) h2
    · rw [hf 30 (by decide), e44]
      intro j hj
      by_cases q : j = D
      · rw [q, pk_us]; exact m13 D (Nat.le_refl _) hD
      · rw [pk_un q]; exact m10 j (by omega)
    · rw [hf 31 (by decide), hf 41 (by decide)]; exact m11
    · rw [hf 32 (by decide), hf 59 (by decide)]; exact m12
    · rw [hf 30 (by decide)]; exact fun e h1 h2 => m13 e (by omega) h2
    · rw [hf 9 (by decide), hf 29 (by decide)]
      intro t2 h1 h2
      obtain ⟨c, hc, e⟩ := m14 t2 h1 h2
      exact ⟨c, by omega, e⟩
  obtain ⟨a1', a2', a3', a4', a5', a6', a7', a8', a9', b1', b2', b3', b4'⟩ := ha
  exact ⟨r1.trans r2.symm, 0, D + 1, n, b0 + P, Wn, ⟨e0, Nat.zero_le _, e6, hD, a5', by omega, a7', by rw [hf 12 (by decide)]; exact a8', a9', e33, e10, (e34 1 (by decide) (by decide)).trans b3', (e34 26 (by decide) (by decide)).trans b4'⟩, ht2, hd2, hw2, hb.of (fun k hk => hf k (by omega)), hm2, SL.none⟩

theorem st_line {B K P D n b0 Wn : Nat} {M M1 M2 : Mem} {x r r' : Int32} (h : Rel B K P D n b0 Wn M) (h1 : Dec1 (wi x (nI 4) (nI 120)) (r = -2 ∧ M1 = M) (r = nI 0 ∧ (∀ t, t < 48 → M1 9 t = 0) ∧ M1 20 0 = nI 0 ∧ M1 20 1 = nI 0 ∧ M1 20 2 = nI 1 ∧ M1 0 = (upd (M 0) 8 (nI 0)) ∧ M1 6 = (upd (M 6) 0 (nI 0)) ∧ M1 7 = (M 7) ∧ M1 8 = (M 8) ∧ M1 10 = (M 10) ∧ M1 11 = (M 11) ∧ M1 12 = (upd (M 12) 0 (nI 0)) ∧ M1 21 = (upd (M 21) 0 (nI (tn x))) ∧ M1 22 = (fun j => if j < (tn x) then nI 0 else M 22 j) ∧ M1 23 = (fun j => if j < (tn x) then nI 0 else M 23 j) ∧ M1 24 = (fun j => if j < (tn x) then (-1) else M 24 j) ∧ M1 25 = (fun j => if j < (tn x) then nI 0 else M 25 j) ∧ M1 27 = (M 27) ∧ M1 28 = (M 28) ∧ M1 29 = (M 29) ∧ M1 30 = (fun j => if j < 6 then nI 0 else M 30 j) ∧ M1 31 = (upd (M 31) 0 (nI 0)) ∧ M1 32 = (M 32) ∧ (∀ k, k ≠ 0 ∧ (k < 6 ∨ 12 ≤ k) ∧ k ≠ 12 ∧ (k < 20 ∨ 33 ≤ k) → M1 k = M k))) (h2 : Dec1 (wi x (nI 4) (nI 120)) (r' = -2 ∧ M2 = M1) (r' = nI 0 ∧ M2 34 1 = x ∧ M2 34 6 = nI 1 ∧ M2 34 10 = nI 0 ∧ M2 34 26 = nI 0 ∧ M2 34 24 = nI 0 ∧ M2 34 25 = nI 0 ∧ M2 34 33 = nI 0 ∧ M2 35 = (fun j => if j < 120 then nI 0 else M1 35 j) ∧ M2 36 = (fun j => if j < 120 then nI 0 else M1 36 j) ∧ M2 37 = (fun j => if j < 120 then (-1) else M1 37 j) ∧ M2 38 = (fun j => if j < 120 then nI 0 else M1 38 j) ∧ M2 39 = (upd (M1 39) 0 (nI 0)) ∧ M2 40 = (upd (M1 40) 0 (-1)) ∧ M2 41 = (upd (M1 41) 0 (nI 0)) ∧ (∀ k, k ≠ 34 ∧ k ≠ 35 ∧ k ≠ 36 ∧ k ≠ 37 ∧ k ≠ 38 ∧ k ≠ 39 ∧ k ≠ 40 ∧ k ≠ 41 → M2 k = M1 k))) : r = r' ∧ Inv (B + 1000) K M2 := by
  have hB : B ≤ B + 1000 := by omega
  rcases h1.join h2 with ⟨-, ⟨rfl, rfl⟩, rfl, rfl⟩ | ⟨ex, h1, h2⟩
  · exact ⟨rfl, _, _, _, _, _, h.up hB⟩
  obtain ⟨ha, ht, hd, hw, hb, hm, hs⟩ := h
  obtain ⟨g2, g3, g4, g9⟩ := TG.un ht.1
  obtain ⟨r1, z9, t0, t1, t2, a0, a6, a7, a8, a10, a11, a12, a21, a22, a23, a24, a25, a27, a28, a29, a30, a31, a32, a3⟩ := h1
  obtain ⟨r2, c1, c6, c10, c26, c24, c25, c33, c35, c36, c37, c38, c39, c40, c41, c3⟩ := h2
  have hf : ∀ k, ¬ (k = 0 ∨ k = 6 ∨ k = 7 ∨ k = 8 ∨ k = 9 ∨ k = 10 ∨ k = 11 ∨ k = 12 ∨ k = 20 ∨ k = 21 ∨ k = 22 ∨ k = 23 ∨ k = 24 ∨ k = 25 ∨ k = 26 ∨ k = 27 ∨ k = 28 ∨ k = 29 ∨ k = 30 ∨ k = 31 ∨ k = 32 ∨ k = 34 ∨ k = 35 ∨ k = 36 ∨ k = 37 ∨ k = 38 ∨ k = 39 ∨ k = 40 ∨ k = 41) → M2 k = M k := fun k hk => (c3 k (by omega)).trans (a3 k (by omega))
  have hx := tn_lt (wi_4 ex) (by decide)
  have hn : tn x ≤ 120 := by omega
  obtain ⟨n', en⟩ : ∃ n', tn x = n' := ⟨_, rfl⟩
  rw [en] at hx hn a21 a22 a23 a24 a25
  have z9' : ∀ t, t < 48 → M2 9 t = 0 := fun t h => by rw [c3 9 (by decide)]; exact z9 t h
  have e22 := (c3 22 (by decide)).trans a22
  have e23 := (c3 23 (by decide)).trans a23
  have e24 := (c3 24 (by decide)).trans a24
  have e25 := (c3 25 (by decide)).trans a25
  have e30 := (c3 30 (by decide)).trans a30
  have e31 := (c3 31 (by decide)).trans a31
  have e35 := c35
  rw [a3 35 (by decide)] at e35
  have e36 := c36
  rw [a3 36 (by decide)] at e36
  have e37 := c37
  rw [a3 37 (by decide)] at e37
  have e38 := c38
  rw [a3 38 (by decide)] at e38
  have e39 := c39
  rw [a3 39 (by decide)] at e39
  have e40 := c40
  rw [a3 40 (by decide)] at e40
  have e41 := c41
  rw [a3 41 (by decide)] at e41
  have e20 : M2 20 = M1 20 := c3 20 (by decide)
  have e21 : M2 21 0 = nI n' := by rw [c3 21 (by decide), a21, pk_us]
  have hp : ∀ j, j < n' → pureB (M2 24) j = true := fun j hj => by rw [e24]; simp [pureB, eqB, hj]
  have hm2 : MR (B + 1000) n' 0 0 1 M2 (mom M2 20) (modR M2) := by
    refine MR.mk' e21 (by rw [e20]; exact t2) ⟨0, by omega, by rw [e20]; exact t0⟩ (by rw [e20, c24, t0]) (by rw [e20, c25, t1]) (by rw [e20, c6, t2]) ⟨fun j hj => ?_, fun j hj => ?_, fun j hj hq => ?_, fun i j hi hj _ _ _ => ?_⟩ ⟨fun j hj => ?_, fun j hj => ?_, fun j hj => ?_, fun j hj => ?_⟩ (fun t ht => absurd ht (by omega)) (fun t ht => absurd ht (by omega)) (fun j hj => ?_) (fun t ht => absurd ht (by omega)) (fun e _ h2 => ?_) (fun t h1 h2 => absurd (z9' t h1) h2)
    · show inB (M2 22 j) 1 = true
      rw [e22]; simp only [if_pos hj]; decide
    · show inB (M2 23 j) 8 = true
      rw [e23]; simp only [if_pos hj]; decide
    · have hq : pureB (M2 24) j = false := hq
      rw [hp j hj] at hq; cases hq
    · show M2 23 i = M2 23 j
      rw [e23]; simp only [if_pos hi, if_pos hj]
    · rw [e22, e35]; simp only [if_pos hj, if_pos (show j < 120 by omega)]
    · rw [e23, e36]; simp only [if_pos hj, if_pos (show j < 120 by omega)]
    · rw [e24, e37]; simp only [if_pos hj, if_pos (show j < 120 by omega)]
    · rw [e25, e38]; simp only [if_pos hj, if_pos (show j < 120 by omega)]
    · rw [show j = 0 by omega, e31, e41, pk_us, pk_us]
    · rw [e30]; simp only [if_pos h2]
  obtain ⟨b1, b2, b3, b4⟩ := hb
  have hb2 : BL 1 M2 := by
    refine ⟨fun j hj => ?_, fun j hj => ?_, by rw [hf 18 (by decide)]; exact b3, by rw [hf 19 (by decide)]; exact b4⟩
    · rw [show j = 0 by omega, hf 18 (by decide), e39, pk_us]; exact b3
    · rw [show j = 0 by omega, hf 19 (by decide), e40, pk_us]; exact b4
  have ht2 : TL 0 M2 := by
    refine ⟨TG.mk ?_ ?_ ?_ ?_, ?_, ?_⟩
    · rw [hf 2 (by decide), hf 51 (by decide)]; exact g2
    · rw [hf 3 (by decide), hf 52 (by decide)]; exact g3
    · rw [hf 4 (by decide), hf 53 (by decide)]; exact g4
    · exact fun t h => absurd h (by omega)
    · rw [hf 5 (by decide), hf 54 (by decide)]; exact ht.2.1
    · exact fun t _ h => z9' t h
  refine ⟨r1.trans r2.symm, 0, 0, n', 1, 0, ⟨by rw [c3 0 (by decide), a0]; exact pk_us, Nat.zero_le _, by rw [c3 6 (by decide), a6]; exact pk_us, by decide, hn, by decide, by decide, by rw [c3 12 (by decide), a12]; exact pk_us, by decide, c33, c10, by rw [c1]; exact hx.2, c26⟩, ht2, ⟨fun j hj => absurd hj (by omega), fun j hj => absurd hj (by omega), fun j hj => absurd hj (by omega), fun j hj => absurd hj (by omega)⟩, ⟨fun j hj => absurd hj (by omega), fun j hj => absurd hj (by omega), fun j hj => absurd hj (by omega), fun j hj => absurd hj (by omega), fun j hj => absurd hj (by omega)⟩, hb2, hm2, SL.none⟩
