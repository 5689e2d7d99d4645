/-! THE CLASS AND THE REFERENCE TELL THE SAME: what is kept between them. B: a bound of time and of what came -/
def SZ (D : Nat) (R : Mem) : Prop := ∀ e, D ≤ e → e < 6 → R 10 e = nI 0
def CB (T R : Mem) (B : Nat) : Prop := ∀ t, t < 48 → ¬ T 9 t = 0 → ∃ c, c ≤ B ∧ R 9 t = nI c
section GO
variable {mf : (Nat → Int32) → (Nat → Int32) → Nat → Nat → Pst → Pst} {T R : Mem} {lo hi src d k bn n D B : Nat}
theorem go_9 : goR mf T lo hi src d k bn R 9 = outAm (sinkS T R d (hi - 1)) (R 9) := by simp [goR, mixR, takR, movR, outR]
theorem go_10 : goR mf T lo hi src d k bn R 10 = outSl (sinkS T R d (hi - 1)) d (R 10) := by simp [goR, mixR, takR, movR, outR]
theorem CB.go (h : CB T R B) : CB T (goR mf T lo hi src d k bn R) (B + 1) := by
  intro t ht hn
  obtain ⟨c, hc, e⟩ := h t ht hn
  rw [go_9]
  rcases opt_cases (sinkS T R d (hi - 1)) with hs | ⟨u, hs⟩
  · rw [hs]
    exact ⟨c, by omega, e⟩
  · rw [hs]
    show ∃ c, c ≤ B + 1 ∧ upd (R 9) u (R 9 u + nI 1) t = nI c
    by_cases q : t = u
    · subst q
      refine ⟨c + 1, by omega, ?_⟩
      rw [pk_us, e]
      exact nI_1 c
    · refine ⟨c, by omega, ?_⟩
      rw [pk_un q]
      exact e
theorem SZ.go (h : SZ D R) (hd : d < D) : SZ D (goR mf T lo hi src d k bn R) := by
  intro e h1 h2
  rw [go_10]
  rcases opt_cases (sinkS T R d (hi - 1)) with hs | ⟨u, hs⟩
  · rw [hs]
    show upd (R 10) d (R 10 d + nI 1) e = nI 0
    rw [pk_un (by omega)]
    exact h e h1 h2
  · rw [hs]
    exact h e h1 h2
end GO
theorem flow_keep {mf : (Nat → Int32) → (Nat → Int32) → Nat → Nat → Pst → Pst} {T : Mem} {lo hi src d k bn n D : Nat} (hd : d < D) : ∀ (cc : Nat) (R : Mem) (B : Nat), CB T R B → SZ D R → (flowS mf T lo hi src d k bn n cc R).1 = 0 → CB T (flowS mf T lo hi src d k bn n cc R).2 (B + cc) ∧ SZ D (flowS mf T lo hi src d k bn n cc R).2
  | 0, R, B, h, g, _ => ⟨h, g⟩
  | cc + 1, R, B, h, g, h0 => by
    by_cases c : (stepS mf T lo hi src d k bn n R).1 = 0
    · have x1 : flowS mf T lo hi src d k bn n (cc + 1) R = flowS mf T lo hi src d k bn n cc (stepS mf T lo hi src d k bn n R).2 := if_pos c
      rw [x1] at h0 ⊢
      rw [step_0 c] at h0 ⊢
      have := flow_keep hd cc _ (B + 1) h.go (g.go hd) h0
      rw [show B + (cc + 1) = B + 1 + cc by omega]
      exact this
    · have x1 : flowS mf T lo hi src d k bn n (cc + 1) R = stepS mf T lo hi src d k bn n R := if_neg c
      rw [x1] at h0
      exact absurd h0 c
/-- a moment of the class, the rows of the reference -/
def MR (B n D Wn bn : Nat) (T S Q : Mem) : Prop :=
  S 1 0 = nI n ∧ S 0 2 = nI bn ∧ (∃ t, t ≤ B ∧ S 0 0 = nI t) ∧ Q 0 0 = S 0 0 ∧ Q 0 1 = S 0 1 ∧ Q 0 2 = S 0 2 ∧ VR n bn S ∧ RG n D bn T S Q ∧ FA Wn (S 12) (Q 12) ∧ SZ D S ∧ CB T S B
def PE (n : Nat) (Q Q' : Mem) : Prop := (FA n (Q 2) (Q' 2) ∧ FA n (Q 3) (Q' 3) ∧ FA n (Q 4) (Q' 4) ∧ FA n (Q 5) (Q' 5)) ∧ (FA 48 (Q 7) (Q' 7) ∧ FA 48 (Q 8) (Q' 8) ∧ FA 48 (Q 9) (Q' 9)) ∧ FA 6 (Q 10) (Q' 10) ∧ FA 20 (Q 12) (Q' 12) ∧ FA 200 (Q 11) (Q' 11) ∧ FA 3 (Q 0) (Q' 0)
theorem PE.of {n : Nat} {Q Q' : Mem} (h : ∀ q, q < 4 * n + 373 → pgF n Q q = pgF n Q' q) : PE n Q Q' := by
  have k1 : ∀ c, c < 4 → FA n (Q (2 + c)) (Q' (2 + c)) := fun c hc j hj => by
    have := h (4 * j + c) (by omega)
    unfold pgF at this
    rw [(pg_1 hj hc).1, (pg_1 hj hc).2] at this
    exact this
  have k2 : ∀ c, c < 3 → FA 48 (Q (7 + c)) (Q' (7 + c)) := fun c hc j hj => by
    have := h (4 * n + 3 * j + c) (by omega)
    unfold pgF at this
    rw [(pg_2 hj hc).1, (pg_2 hj hc).2] at this
    exact this
  refine ⟨⟨k1 0 (by decide), k1 1 (by decide), k1 2 (by decide), k1 3 (by decide)⟩, ⟨k2 0 (by decide), k2 1 (by decide), k2 2 (by decide)⟩, fun j hj => ?_, fun j hj => ?_, fun j hj => ?_, fun j hj => ?_⟩
  · have := h (4 * n + 144 + j) (by omega)
    unfold pgF at this
    rw [(pg_3 hj).1, (pg_3 hj).2] at this
    exact this
  · have := h (4 * n + 150 + j) (by omega)
    unfold pgF at this
    rw [(pg_4 hj).1, (pg_4 hj).2] at this
    exact this
  · have := h (4 * n + 170 + j) (by omega)
    unfold pgF at this
    rw [(pg_5 hj).1, (pg_5 hj).2] at this
    exact this
  · have := h (4 * n + 370 + j) (by omega)
    unfold pgF at this
    rw [(pg_6 hj).1, (pg_6 hj).2] at this
    exact this
theorem PE.rf {n : Nat} {Q : Mem} : PE n Q Q := ⟨⟨FA.rf, FA.rf, FA.rf, FA.rf⟩, ⟨FA.rf, FA.rf, FA.rf⟩, FA.rf, FA.rf, FA.rf, FA.rf⟩
theorem PE.sy {n : Nat} {Q Q' : Mem} (h : PE n Q Q') : PE n Q' Q := ⟨⟨h.1.1.sy, h.1.2.1.sy, h.1.2.2.1.sy, h.1.2.2.2.sy⟩, ⟨h.2.1.1.sy, h.2.1.2.1.sy, h.2.1.2.2.sy⟩, h.2.2.1.sy, h.2.2.2.1.sy, h.2.2.2.2.1.sy, h.2.2.2.2.2.sy⟩
theorem PE.row {n : Nat} {Q Q' : Mem} (h : ∀ r, 2 ≤ r → Q' r = Q r) (h0 : FA 3 (Q 0) (Q' 0)) : PE n Q Q' := by
  have k : ∀ (m r : Nat), 2 ≤ r → FA m (Q r) (Q' r) := fun m r hr j _ => by rw [h r hr]
  exact ⟨⟨k _ _ (by decide), k _ _ (by decide), k _ _ (by decide), k _ _ (by decide)⟩, ⟨k _ _ (by decide), k _ _ (by decide), k _ _ (by decide)⟩, k _ _ (by decide), k _ _ (by decide), k _ _ (by decide), h0⟩
theorem MR.to {B B' n D Wn bn : Nat} {T T' S S' Q Q' : Mem} (h : MR B n D Wn bn T S Q) (hB : B ≤ B') (hD : D ≤ 6) (hW : Wn ≤ 20) (hb : bn ≤ 200) (hT : T' 9 = T 9) (hS : MoA n bn S S') (hQ : PE n Q Q') : MR B' n D Wn bn T' S' Q' := by
  obtain ⟨s10, s02, ⟨t, ht, s00⟩, q00, q01, q02, hv, hr, h12, hsz, hcb⟩ := h
  obtain ⟨m00, m01, m02, m10, m2, m3, m4, m5, m7, m8, m9, ms, m11, m12⟩ := hS
  obtain ⟨⟨p2, p3, p4, p5⟩, ⟨p7, p8, p9⟩, p10, p12, p11, p0⟩ := hQ
  have hRS : RG n D bn T S S' := ⟨⟨m2.sy, m3.sy, m4.sy, m5.sy⟩, fun t ht _ => ⟨(m7 t (by omega)).symm, (m8 t (by omega)).symm, (m9 t (by omega)).symm⟩, fun j hj => (ms j (by omega)).symm, m11.sy⟩
  have hRQ : RG n D bn T Q Q' := ⟨⟨p2, p3, p4, p5⟩, fun t ht _ => ⟨p7 t (by omega), p8 t (by omega), p9 t (by omega)⟩, p10.le hD, p11.le hb⟩
  refine ⟨m10, m02, ⟨t, by omega, m00.trans s00⟩, (p0 0 (by decide)).symm.trans (q00.trans m00.symm), (p0 1 (by decide)).symm.trans (q01.trans m01.symm), (p0 2 (by decide)).symm.trans (q02.trans (s02.trans m02.symm)), hv.cg hRS, RG.T9 hT (hRS.symm.trans (hr.trans hRQ)), fun j hj => (m12 j (by omega)).trans ((h12 j hj).trans (p12 j (by omega))), fun e h1 h2 => (ms e h2).trans (hsz e h1 h2), fun t ht hn => ?_⟩
  rw [hT] at hn
  obtain ⟨c, hc, e⟩ := hcb t ht hn
  exact ⟨c, by omega, (m9 t ht).trans e⟩
theorem MoA.self {n bn : Nat} {S S' : Mem} (h : ∀ r, r < 13 → S' r = S r) (h1 : S 1 0 = nI n) (h2 : S 0 2 = nI bn) : MoA n bn S S' := by
  have k : ∀ (m r : Nat), r < 13 → FA m (S' r) (S r) := fun m r hr j _ => by rw [h r hr]
  exact ⟨by rw [h 0 (by decide)], by rw [h 0 (by decide)], by rw [h 0 (by decide)]; exact h2, by rw [h 1 (by decide)]; exact h1, k _ _ (by decide), k _ _ (by decide), k _ _ (by decide), k _ _ (by decide), k _ _ (by decide), k _ _ (by decide), k _ _ (by decide), k _ _ (by decide), k _ _ (by decide), k _ _ (by decide)⟩
theorem modR_0 {M : Mem} : modR M 0 0 = M 34 24 ∧ modR M 0 1 = M 34 25 ∧ modR M 0 2 = M 34 6 := by simp [modR]
theorem modR_rw {M M1 : Mem} (e : ∀ k, bkRow k → M1 k = M k) (r : Nat) (hr : 2 ≤ r) : modR M1 r = modR M r := by
  have h0 : ¬ r = 0 := by omega
  simp only [modR, if_neg h0, e 35 (by simp [bkRow]), e 36 (by simp [bkRow]), e 37 (by simp [bkRow]), e 38 (by simp [bkRow]), e 41 (by simp [bkRow]), e 44 (by simp [bkRow]), e 48 (by simp [bkRow]), e 49 (by simp [bkRow]), e 50 (by simp [bkRow]), e 59 (by simp [bkRow])]
theorem modR_f0 {M M1 : Mem} (e24 : M1 34 24 = M 34 24) (e25 : M1 34 25 = M 34 25) (e6 : M1 34 6 = M 34 6) : FA 3 (modR M 0) (modR M1 0) := by
  intro j hj
  rcases (show j = 0 ∨ j = 1 ∨ j = 2 by omega) with rfl | rfl | rfl
  · rw [modR_0.1, modR_0.1, e24]
  · rw [modR_0.2.1, modR_0.2.1, e25]
  · rw [modR_0.2.2, modR_0.2.2, e6]
theorem modR_cg {M M1 : Mem} (e : ∀ k, 34 ≤ k → k < 61 → M1 k = M k) : modR M1 = modR M := by
  funext r
  simp only [modR, e 34 (by decide) (by decide), e 35 (by decide) (by decide), e 36 (by decide) (by decide), e 37 (by decide) (by decide), e 38 (by decide) (by decide), e 41 (by decide) (by decide), e 44 (by decide) (by decide), e 48 (by decide) (by decide), e 49 (by decide) (by decide), e 50 (by decide) (by decide), e 59 (by decide) (by decide)]
theorem modT_cg {M M1 : Mem} (e : ∀ k, 34 ≤ k → k < 61 → M1 k = M k) : modT M1 = modT M := by
  funext r
  simp only [modT, e 45 (by decide) (by decide), e 46 (by decide) (by decide), e 47 (by decide) (by decide), e 51 (by decide) (by decide), e 52 (by decide) (by decide), e 53 (by decide) (by decide)]
/-- tables, doors, wishes, batches, what is kept to be taken back -/
def TL (D : Nat) (M : Mem) : Prop := TG D M (modT M) ∧ FA 24 (M 5) (M 54) ∧ (∀ t, D * 8 ≤ t → t < 48 → M 9 t = 0)
def DL (D n : Nat) (M : Mem) : Prop := FA D (M 7) (M 42) ∧ FA D (M 8) (M 43) ∧ (∀ d, d < D → inB (M 7 d) (n + 1) = true) ∧ (∀ d, d < D → wi (M 8 d) (nI 1) (nI 60) = true)
def WL (B D Wn : Nat) (M : Mem) : Prop := FA Wn (M 13) (M 55) ∧ FA Wn (M 14) (M 56) ∧ FA Wn (M 15) (M 57) ∧ FA Wn (M 16) (M 58) ∧ ∀ w, w < Wn → (∃ tk, tk < D * 8 ∧ M 13 w = nI tk ∧ ¬ M 9 tk = 0) ∧ wi (M 14 w) (nI 1) (nI 1000) = true ∧ ∃ c, c ≤ B ∧ M 16 w = nI c
def BL (bn : Nat) (M : Mem) : Prop := FA bn (M 18) (M 39) ∧ FA bn (M 19) (M 40) ∧ M 18 0 = nI 0 ∧ M 19 0 = -1
def SL (B P D n b0 Wn : Nat) (M : Mem) : Prop := ∀ p, p < P → ∃ Q : Mem, MR B n D Wn (b0 + p) M (mom M (61 + 13 * p)) Q ∧ ∀ q, q < 4 * n + 373 → M 60 (900 * p + q) = pgF n Q q
def AL (K P D n b0 Wn : Nat) (M : Mem) : Prop := M 0 8 = nI P ∧ P ≤ K ∧ M 6 0 = nI D ∧ D ≤ 6 ∧ n ≤ 120 ∧ 1 ≤ b0 ∧ b0 + P ≤ 200 ∧ M 12 0 = nI Wn ∧ Wn ≤ 20 ∧ M 34 33 = nI P ∧ M 34 10 = nI D ∧ M 34 1 = nI n ∧ M 34 26 = nI Wn
def Rel (B K P D n b0 Wn : Nat) (M : Mem) : Prop := AL K P D n b0 Wn M ∧ TL D M ∧ DL D n M ∧ WL B D Wn M ∧ BL (b0 + P) M ∧ MR B n D Wn (b0 + P) M (mom M 20) (modR M) ∧ SL B P D n b0 Wn M
def Inv (B K : Nat) (M : Mem) : Prop := ∃ P D n b0 Wn, Rel B K P D n b0 Wn M
theorem TL.of {D : Nat} {M M2 : Mem} (h : TL D M) (e : ∀ k, k = 2 ∨ k = 3 ∨ k = 4 ∨ k = 5 ∨ k = 9 ∨ k = 10 ∨ k = 11 ∨ k = 45 ∨ k = 46 ∨ k = 47 ∨ k = 51 ∨ k = 52 ∨ k = 53 ∨ k = 54 → M2 k = M k) : TL D M2 := by
  obtain ⟨h1, h2, h3⟩ := h
  have em : modT M2 = modT M := modT_of (fun k hk => e k (by omega))
  unfold TL
  rw [em, e 5 (by decide), e 54 (by decide), e 9 (by decide)]
  refine ⟨?_, h2, h3⟩
  unfold TG
  rw [e 2 (by decide), e 3 (by decide), e 4 (by decide), e 9 (by decide), e 10 (by decide), e 11 (by decide)]
  exact h1
theorem DL.of {D n : Nat} {M M2 : Mem} (h : DL D n M) (e : ∀ k, k = 7 ∨ k = 8 ∨ k = 42 ∨ k = 43 → M2 k = M k) : DL D n M2 := by
  unfold DL
  rw [e 7 (by decide), e 8 (by decide), e 42 (by decide), e 43 (by decide)]
  exact h
theorem WL.of {B B' D Wn : Nat} {M M2 : Mem} (h : WL B D Wn M) (hB : B ≤ B') (e : ∀ k, k = 9 ∨ k = 13 ∨ k = 14 ∨ k = 15 ∨ k = 16 ∨ k = 55 ∨ k = 56 ∨ k = 57 ∨ k = 58 → M2 k = M k) : WL B' D Wn M2 := by
  obtain ⟨h1, h2, h3, h4, h5⟩ := h
  unfold WL
  rw [e 9 (by decide), e 13 (by decide), e 14 (by decide), e 15 (by decide), e 16 (by decide), e 55 (by decide), e 56 (by decide), e 57 (by decide), e 58 (by decide)]
  refine ⟨h1, h2, h3, h4, fun w hw => ?_⟩
  obtain ⟨a, b, c, hc, e⟩ := h5 w hw
  exact ⟨a, b, c, by omega, e⟩
theorem BL.of {bn : Nat} {M M2 : Mem} (h : BL bn M) (e : ∀ k, k = 18 ∨ k = 19 ∨ k = 39 ∨ k = 40 → M2 k = M k) : BL bn M2 := by
  unfold BL
  rw [e 18 (by decide), e 19 (by decide), e 39 (by decide), e 40 (by decide)]
  exact h
theorem MR.of {B B' n D Wn bn : Nat} {M M2 : Mem} (h : MR B n D Wn bn M (mom M 20) (modR M)) (hB : B ≤ B') (hD : D ≤ 6) (hW : Wn ≤ 20) (hb : bn ≤ 200) (e9 : M2 9 = M 9) (eS : ∀ r, r < 13 → M2 (20 + r) = M (20 + r)) (eQ : ∀ k, bkRow k → M2 k = M k) (e24 : M2 34 24 = M 34 24) (e25 : M2 34 25 = M 34 25) (e6 : M2 34 6 = M 34 6) : MR B' n D Wn bn M2 (mom M2 20) (modR M2) :=
  h.to hB hD hW hb e9 (MoA.self eS h.1 h.2.1) (PE.row (modR_rw eQ) (modR_f0 e24 e25 e6))
theorem MR.up {B B' n D Wn bn : Nat} {T S Q : Mem} (h : MR B n D Wn bn T S Q) (hB : B ≤ B') : MR B' n D Wn bn T S Q := by
  obtain ⟨s10, s02, ⟨t, ht, s00⟩, q00, q01, q02, hv, hr, h12, hsz, hcb⟩ := h
  refine ⟨s10, s02, ⟨t, by omega, s00⟩, q00, q01, q02, hv, hr, h12, hsz, fun t ht hn => ?_⟩
  obtain ⟨c, hc, e⟩ := hcb t ht hn
  exact ⟨c, by omega, e⟩
theorem SL.none {B D n b0 Wn : Nat} {M : Mem} : SL B 0 D n b0 Wn M := fun p hp => absurd hp (Nat.not_lt_zero p)
theorem Rel.up {B B' K P D n b0 Wn : Nat} {M : Mem} (h : Rel B K P D n b0 Wn M) (hB : B ≤ B') : Rel B' K P D n b0 Wn M := by
  obtain ⟨a, t, d, w, b, m, s⟩ := h
  refine ⟨a, t, d, w.of hB (fun _ _ => rfl), b, m.up hB, fun p hp => ?_⟩
  obtain ⟨Q, h1, h2⟩ := s p hp
  exact ⟨Q, h1.up hB, h2⟩
theorem z01_of {f v : Nat → Int32} {n : Nat} (h : ∀ i, i < n → f i = b01 (eqB (v i) 0)) : Z01 f n := fun i hi => by
  rw [h i hi]
  cases eqB (v i) 0 <;> decide
theorem Rel.att {B K P D n b0 Wn : Nat} {M : Mem} (h : Rel B K P D n b0 Wn M) (hB : B < 2 ^ 29) : ∃ t, t ≤ B ∧ M 20 0 = nI t ∧ AttH K M P D n (b0 + P) t Wn ∧ TryH M P D n (b0 + P) t Wn := by
  obtain ⟨⟨a1, a2, a3, a4, a5, a6, a7, a8, a9, b1, b2, b3, b4⟩, ⟨tg, tp, tz⟩, ⟨d1, d2, d3, d4⟩, ⟨w1, w2, w3, w4, w5⟩, hb, hm, hs⟩ := h
  obtain ⟨s10, s02, ⟨t, ht, s00⟩, q00, q01, q02, hv, hr, h12, hsz, hcb⟩ := hm
  rw [modR_0.1] at q00
  rw [modR_0.2.1] at q01
  rw [modR_0.2.2] at q02
  have s10 : M 21 0 = nI n := s10
  have s02 : M 20 2 = nI (b0 + P) := s02
  have s00 : M 20 0 = nI t := s00
  have q00 : M 34 24 = M 20 0 := q00
  have q02 : M 34 6 = M 20 2 := q02
  have hwt : ∀ w, w < Wn → inB (M 13 w) 48 = true := fun w hw => by
    obtain ⟨⟨tk, h1, h2, -⟩, -⟩ := w5 w hw
    rw [h2]
    exact inB_k (by omega) (by decide)
  refine ⟨t, ht, s00, ⟨a1, a2, by omega, a3, a4, s10, a5, s02, a7, s00, by omega, a8, a9, d3, d4, z01_of (v := M 51) tg.1, hv, hwt⟩, ⟨b1, by omega, b2, a4, b3, a5, q02.trans s02, a7, q00.trans s00, by omega, b4, a9, fun d hd => by rw [← d1 d hd]; exact d3 d hd, fun d hd => by rw [← d2 d hd]; exact d4 d hd, hv.cg hr, fun w hw => by rw [← w1 w hw]; exact hwt w hw⟩⟩
theorem TryH.cg {M M1 : Mem} {P D n bn t Wn : Nat} (h : TryH M P D n bn t Wn) (e : ∀ k, 34 ≤ k → k < 61 → M1 k = M k) : TryH M1 P D n bn t Wn := by
  unfold TryH
  rw [modR_cg e, e 34 (by decide) (by decide), e 42 (by decide) (by decide), e 43 (by decide) (by decide), e 55 (by decide) (by decide)]
  exact h
