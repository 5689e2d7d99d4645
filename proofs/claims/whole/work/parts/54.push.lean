/-! PUSH, TRIAL, UNDO: class and reference answer alike and go on telling the same -/
theorem RG.dd {n D D' bx : Nat} {T R R' : Mem} (h : RG n D' bx T R R') (hD : D ≤ D') : RG n D bx T R R' := ⟨h.1, fun t ht => h.2.1 t (by omega), h.2.2.1.le hD, h.2.2.2⟩
def attR (M : Mem) (bn : Nat) : Mem := fun r => if r = 11 then upd (M 31) bn (nI 0) else M (20 + r)
theorem att_try {n D bn : Nat} {M : Mem} (hr : RG n D bn M (mom M 20) (modR M)) : RG n D (bn + 1) M (attR M bn) (tryR M bn) := by
  obtain ⟨f1, f2, f3, f4⟩ := hr
  refine ⟨f1, f2, f3, ?_⟩
  intro j hj
  show upd (M 31) bn (nI 0) j = upd (M 41) bn (nI 0) j
  by_cases q : j = bn
  · rw [q, pk_us, pk_us]
  · rw [pk_un q, pk_un q]
    exact f4 j (by omega)
theorem flow_eq {B K P D n b0 Wn : Nat} {M : Mem} (h : Rel B K P D n b0 Wn M) {lo hi a b k cc : Nat} (hlo : lo < hi) (hhi : hi ≤ n) (haD : a < D) (hbD : b < D) (hk8 : k < 8) :
    (attF M (b0 + P) n lo hi a b k cc).1 = (tryF M (b0 + P) n lo hi a b k cc).1 ∧ ((attF M (b0 + P) n lo hi a b k cc).1 = 0 → RG n D (b0 + P + 1) M (attF M (b0 + P) n lo hi a b k cc).2 (tryF M (b0 + P) n lo hi a b k cc).2 ∧ VR n (b0 + P + 1) (attF M (b0 + P) n lo hi a b k cc).2 ∧ CB M (attF M (b0 + P) n lo hi a b k cc).2 (B + cc) ∧ SZ D (attF M (b0 + P) n lo hi a b k cc).2) := by
  obtain ⟨ha, ht, hd, hw, hb, hm, hs⟩ := h
  obtain ⟨s10, s02, s00, q00, q01, q02, hv, hr, h12, hsz, hcb⟩ := hm
  have hD6 := ha.b.1
  have hb2 := ha.b.2.2.2.1
  generalize b0 + P = bn at *
  have hR := att_try hr
  have hv0 : VR n bn (attR M bn) := VR.rows hv (Nat.le_refl _) rfl rfl rfl
  have hv1 : VR n (bn + 1) (attR M bn) := VR.rows hv (Nat.le_succ _) rfl rfl rfl
  have hvk : VK n bn k (attR M bn) := VK.none hv0 hb2
  have c := flow_cg (bx := bn + 1) (bn := bn) ht.1 (Nat.lt_succ_self _) (by omega) hlo hhi haD hbD hk8 cc (attR M bn) (tryR M bn) hR hv1 hvk
  have s1 := flow_same (T := modT M) (src := a * 8 + k) (d := b) (bm := bn + 1) (bn := bn) (Nat.lt_succ_self _) (by omega) hlo hhi hk8 cc (tryR M bn) (hv1.cg hR) (hvk.cg hR)
  have s0 := flow_same (T := M) (src := a * 8 + k) (d := b) (bm := bn + 1) (bn := bn) (Nat.lt_succ_self _) (by omega) hlo hhi hk8 cc (attR M bn) hv1 hvk
  have e1 : tryF M bn n lo hi a b k cc = flowS mfC (modT M) lo hi (a * 8 + k) b k bn n cc (tryR M bn) := s1.1.symm
  have e0 : attF M bn n lo hi a b k cc = flowS mfC M lo hi (a * 8 + k) b k bn n cc (attR M bn) := rfl
  rw [e1, e0]
  refine ⟨c.1, fun h0 => ⟨c.2 h0, (s0.2 h0).1, ?_⟩⟩
  exact flow_keep hbD cc (attR M bn) B hcb hsz h0
theorem sub_int {a b : Nat} (ha : a < 2 ^ 30) (hb : b < 2 ^ 30) : (nI a - nI b).toInt = (a : Int) - (b : Int) := by
  rw [Int32.toInt_sub, nI_toInt (by omega), nI_toInt (by omega)]
  exact Int.bmod_eq_of_le (by omega) (by omega)
theorem want_iff {a c c0 : Nat} (ha2 : a ≤ 1000) (hc : c < 2 ^ 30) (hc0 : c0 < 2 ^ 30) : nI 0 < nI a - (nI c - nI c0) ↔ ¬ nI a ≤ nI c - nI c0 := by
  have e1 := sub_int hc hc0
  have e2 : (nI a - (nI c - nI c0)).toInt = (a : Int) - ((c : Int) - (c0 : Int)) := by
    rw [Int32.toInt_sub, e1, nI_toInt (by omega)]
    exact Int.bmod_eq_of_le (by omega) (by omega)
  rw [Int32.lt_iff_toInt_lt, Int32.le_iff_toInt_le, e2, e1, nI_toInt (by omega), nI_toInt (by omega)]
  omega
theorem want_0 {wt wm wc ca : Nat → Int32} {w : Nat} : wantS wt wm wc ca w = 0 ↔ ¬ nI 0 < wm w - (ca (tn (wt w)) - wc w) := by
  unfold wantS
  by_cases c : nI 0 < wm w - (ca (tn (wt w)) - wc w)
  · rw [if_pos c]
    refine ⟨fun e => absurd c ?_, fun e => absurd c e⟩
    rw [e]
    decide
  · rw [if_neg c]
    exact ⟨fun _ => c, fun _ => rfl⟩
theorem keep_eq {kp kp' wa wa' : Nat → Int32} {t : Int32} {Wn : Nat} (h : FA Wn kp kp') (h2 : ∀ w, w < Wn → (wa w = 0 ↔ wa' w = 0)) : FA Wn (keepF kp wa t Wn) (keepF kp' wa' t Wn) := fun j hj => by
  have h3 := h2 j hj
  simp only [keepF, h j hj]
  by_cases c : wa j = 0
  · simp only [c, h3.mp c]
  · simp only [c, mt h3.mpr c]
theorem passC_cg {f g : Nat → Int32} (h : FA 24 f g) : ∀ (hh t : Nat) (c : Int32), passC f t c hh = passC g t c hh
  | 0, _, _ => rfl
  | hh + 1, t, c => by
    rw [passC, passC, h (t % 24) (Nat.mod_lt _ (by decide))]
    exact passC_cg h hh _ _
theorem tryR_cg {M M1 : Mem} {bn : Nat} (e : ∀ k, 34 ≤ k → k < 61 → M1 k = M k) : tryR M1 bn = tryR M bn := by
  unfold tryR
  rw [modR_cg e, e 41 (by decide) (by decide), e 34 (by decide) (by decide)]
theorem att_any {D bn n : Nat} {M : Mem} {x y u v r : Int32} {old no ok X : Prop} (h : attD D bn n M x y u v r old no ok) (f : old → X) (g : no → X) (k : ok → X) : X := by
  rcases h with ⟨-, -, o⟩ | ⟨-, ⟨-, -, o⟩ | ⟨-, ⟨-, -, o⟩ | ⟨-, ⟨-, -, o⟩ | ⟨-, -, o⟩⟩⟩⟩
  · exact f o
  · exact f o
  · exact f o
  · exact g o
  · exact k o
/-- both go through, or both are refused, by the same -/
def bothOk (B n D bn : Nat) (M M1 : Mem) (x y u v : Int32) : Prop := attHx M x y v = tryHx M1 x y v ∧ attHx M x y v ≤ 60 ∧ RG n D (bn + 1) M (attFx M bn n x y u v).2 (tryFx M1 bn n x y u v).2 ∧ VR n (bn + 1) (attFx M bn n x y u v).2 ∧ CB M (attFx M bn n x y u v).2 (B + 60) ∧ SZ D (attFx M bn n x y u v).2
theorem push_join {B K P D n b0 Wn : Nat} {M M1 : Mem} {x y u v r r' : Int32} {old no ok old' no' ok' : Prop} (h : Rel B K P D n b0 Wn M) (e : ∀ k, 34 ≤ k → k < 61 → M1 k = M k) (h1 : attD D (b0 + P) n M x y u v r old no ok) (h2 : tryD D (b0 + P) n M1 x y u v r' old' no' ok') : r = r' ∧ ((old ∧ old') ∨ (b0 + P < 200 ∧ no ∧ no') ∨ (b0 + P < 200 ∧ ok ∧ ok' ∧ bothOk B n D (b0 + P) M M1 x y u v)) := by
  unfold attD at h1
  unfold tryD pushD at h2
  rcases h1.join h2 with ⟨-, ⟨r1, o⟩, r2, o'⟩ | ⟨exy, h1, h2⟩
  · exact ⟨r1.trans r2.symm, Or.inl ⟨o, o'⟩⟩
  obtain ⟨ha, ht, ⟨d1, d2, d3, d4⟩, hw, hb, hm, hs⟩ := id h
  have hD6 := ha.b.1
  have hn := ha.b.2.1
  have hx := tn_lt (and2 (and2 exy).1).1 (by omega)
  have hy := tn_lt (and2 (and2 exy).1).2 (by omega)
  have hu := tn_lt (and2 exy).2 (by decide)
  have e1 : tn (M1 42 (tn x)) = tn (M 7 (tn x)) := by rw [e 42 (by decide) (by decide), d1 _ hx.1]
  have e2 : tn (M1 42 (tn y)) = tn (M 7 (tn y)) := by rw [e 42 (by decide) (by decide), d1 _ hy.1]
  have ef : tryFx M1 (b0 + P) n x y u v = tryF M (b0 + P) n (tn (M 7 (tn x))) (tn (M 7 (tn y))) (tn x) (tn y) (tn u) (tn v) := by
    unfold tryFx
    rw [e1, e2]
    unfold tryF
    rw [modT_cg e, tryR_cg e]
  rw [e1, e2] at h2
  rcases h1.join h2 with ⟨-, ⟨r1, o⟩, r2, o'⟩ | ⟨elv, h1, h2⟩
  · exact ⟨r1.trans r2.symm, Or.inl ⟨o, o'⟩⟩
  rcases h1.join h2 with ⟨-, ⟨r1, o⟩, r2, o'⟩ | ⟨eb, h1, h2⟩
  · exact ⟨r1.trans r2.symm, Or.inl ⟨o, o'⟩⟩
  have hb200 : b0 + P < 200 := of_decide_eq_true eb
  have hlo := of_decide_eq_true (and2 elv).1
  obtain ⟨cc, c1, c60, ec⟩ := wi_160 (and2 elv).2
  have ecc : tn v = cc := tn_of ec (by omega)
  have hhi : tn (M 7 (tn y)) ≤ n := by
    have := (tn_lt (d3 _ hy.1) (by omega)).1
    omega
  have hfl := flow_eq h (cc := tn v) hlo hhi hx.1 hy.1 hu.1
  rw [ef] at h2
  have e4 : (attFx M (b0 + P) n x y u v).1 = (tryF M (b0 + P) n (tn (M 7 (tn x))) (tn (M 7 (tn y))) (tn x) (tn y) (tn u) (tn v)).1 := hfl.1
  rw [← e4] at h2
  rcases h1.join h2 with ⟨-, ⟨r1, o⟩, r2, o'⟩ | ⟨e0, ⟨r1, o⟩, r2, o'⟩
  · exact ⟨r1.trans r2.symm, Or.inr (Or.inl ⟨hb200, o, o'⟩)⟩
  obtain ⟨f1, f2, f3, f4⟩ := hfl.2 (of_decide_eq_true e0)
  obtain ⟨ra, ra1, ra2, ra3⟩ := wi_160 (d4 _ hx.1)
  obtain ⟨rb, rb1, rb2, rb3⟩ := wi_160 (d4 _ hy.1)
  refine ⟨r1.trans r2.symm, Or.inr (Or.inr ⟨hb200, o, o', ?_, ?_, ?_, f2, ?_, f4⟩)⟩
  · unfold attHx tryHx
    rw [e 43 (by decide) (by decide), ← d2 _ hx.1, ← d2 _ hy.1]
  · have : attHx M x y v ≤ tn v := hrS_le (by rw [ra3, tn_nI (by omega)]; exact ra1) (by rw [rb3, tn_nI (by omega)]; exact rb1)
    omega
  · rw [ef]
    exact f1
  · intro t ht2 hn2
    obtain ⟨c, hc, ec2⟩ := f3 t ht2 hn2
    exact ⟨c, by omega, ec2⟩
theorem SL.keep {B B' P P' D n b0 Wn : Nat} {M M2 : Mem} (h : SL B P D n b0 Wn M) (hP : P' ≤ P) (hB : B ≤ B') (hD : D ≤ 6) (hn : n ≤ 120) (hW : Wn ≤ 20) (hb : b0 + P ≤ 200) (e9 : M2 9 = M 9) (es : ∀ p, p < P' → ∀ r, r < 13 → M2 (61 + 13 * p + r) = M (61 + 13 * p + r)) (eb : ∀ q, q < 900 * P' → M2 60 q = M 60 q) : SL B' P' D n b0 Wn M2 := fun p hp => by
  obtain ⟨Q, h1, h2⟩ := h p (by omega)
  refine ⟨Q, h1.to hB hD hW (by omega) e9 (MoA.self (es p hp) h1.1 h1.2.1) PE.rf, fun q hq => ?_⟩
  rw [eb _ (by omega)]
  exact h2 q hq
theorem Rel.back {B K K1 P D n b0 Wn : Nat} {M M2 : Mem} (h : Rel B K P D n b0 Wn M) (hK : K ≤ K1) (e : ∀ k, k < 17 → M2 k = M k) (em : ∀ k, k = 42 ∨ k = 43 ∨ k = 45 ∨ k = 46 ∨ k = 47 ∨ k = 51 ∨ k = 52 ∨ k = 53 ∨ k = 54 ∨ k = 55 ∨ k = 56 ∨ k = 57 ∨ k = 58 → M2 k = M k)
    (e34 : ∀ j, j ≠ 34 → j ≠ 24 → j ≠ 25 → j ≠ 6 → M2 34 j = M 34 j) (e18 : FA (b0 + P) (M2 18) (M 18)) (e19 : FA (b0 + P) (M2 19) (M 19)) (e39 : FA (b0 + P) (M2 39) (M 39)) (e40 : FA (b0 + P) (M2 40) (M 40)) (hS : MoA n (b0 + P) (mom M 20) (mom M2 20)) (hQ : PE n (modR M) (modR M2))
    (es : ∀ p, p < P → ∀ r, r < 13 → M2 (61 + 13 * p + r) = M (61 + 13 * p + r)) (eb : ∀ q, q < 900 * P → M2 60 q = M 60 q) : Rel B K1 P D n b0 Wn M2 := by
  obtain ⟨ha, ht, hd, hw, ⟨b1, b2, b3, b4⟩, hm, hs⟩ := h
  obtain ⟨i1, i2, i3, i4, i5⟩ := id ha.b
  obtain ⟨a1, a2, a3, a4, a5, a6, a7, a8, a9, c1, c2, c3, c4⟩ := ha
  have ee : ∀ k, k < 17 ∨ k = 42 ∨ k = 43 ∨ k = 45 ∨ k = 46 ∨ k = 47 ∨ k = 51 ∨ k = 52 ∨ k = 53 ∨ k = 54 ∨ k = 55 ∨ k = 56 ∨ k = 57 ∨ k = 58 → M2 k = M k := fun k hk => by
    by_cases q : k < 17
    · exact e k q
    · exact em k (by omega)
  refine ⟨⟨by rw [e 0 (by decide)]; exact a1, by omega, by rw [e 6 (by decide)]; exact a3, a4, a5, a6, a7, by rw [e 12 (by decide)]; exact a8, a9, (e34 33 (by decide) (by decide) (by decide) (by decide)).trans c1, (e34 10 (by decide) (by decide) (by decide) (by decide)).trans c2, (e34 1 (by decide) (by decide) (by decide) (by decide)).trans c3, (e34 26 (by decide) (by decide) (by decide) (by decide)).trans c4⟩, ht.of (fun k hk => ee k (by omega)), hd.of (fun k hk => ee k (by omega)), hw.of (Nat.le_refl _) (fun k hk => ee k (by omega)), ⟨?_, ?_, ?_, ?_⟩, hm.to (Nat.le_refl _) i1 i5 i4 (e 9 (by decide)) hS hQ, hs.keep (Nat.le_refl _) (Nat.le_refl _) i1 i2 i5 i4 (e 9 (by decide)) es eb⟩
  · exact fun j hj => (e18 j hj).trans ((b1 j hj).trans (e39 j hj).symm)
  · exact fun j hj => (e19 j hj).trans ((b2 j hj).trans (e40 j hj).symm)
  · exact (e18 0 (by omega)).trans b3
  · exact (e19 0 (by omega)).trans b4
theorem Rel.old {B K K1 P D n b0 Wn : Nat} {M M2 : Mem} (h : Rel B K P D n b0 Wn M) (hK : K ≤ K1) (ho : Old K M M2) : Rel B K1 P D n b0 Wn M2 := by
  have hP : P ≤ K := h.1.2.1
  have ho' : ∀ k, k < 61 → M2 k = M k := fun k hk => ho k (by omega)
  have hm := h.2.2.2.2.2.1
  refine h.back hK (fun k hk => ho' k (by omega)) (fun k hk => ho' k (by omega)) (fun j _ _ _ _ => by rw [ho' 34 (by decide)]) (by rw [ho' 18 (by decide)]; exact FA.rf) (by rw [ho' 19 (by decide)]; exact FA.rf) (by rw [ho' 39 (by decide)]; exact FA.rf) (by rw [ho' 40 (by decide)]; exact FA.rf) (MoA.self (fun r hr => ho' (20 + r) (by omega)) hm.1 hm.2.1) ?_ (fun p hp r hr => ho _ (by omega)) (fun q _ => by rw [ho' 60 (by decide)])
  rw [modR_cg (fun k _ hk => ho' k hk)]
  exact PE.rf
/-- refused on the way, or tried only: all is as it was -/
theorem Rel.no {B K K1 P D n b0 Wn : Nat} {M M1 M2 : Mem} {u x : Int32} (h : Rel B K P D n b0 Wn M) (hK : K ≤ K1) (hf : attFr K (61 + 13 * P) M M1) (hS : MoA n (b0 + P) (mom M 20) (mom M1 20)) (e18 : FA (b0 + P) (M1 18) (M 18)) (e19 : FA (b0 + P) (M1 19) (M 19)) (hc : tryC P n (b0 + P) u x M1 M2) (hQ : PE n (modR M1) (modR M2)) : Rel B K1 P D n b0 Wn M2 := by
  have hP : P ≤ K := h.1.2.1
  obtain ⟨-, k2, k3, k4, k5, k6⟩ := hc
  have e1 : ∀ k, 34 ≤ k → k < 61 → M1 k = M k := fun k h1 h2 => hf k (by omega) (by omega) (by omega) (by omega) (by omega) (by omega)
  have e0 : ∀ k, k < 17 → M1 k = M k := fun k h1 => hf k (by omega) (by omega) (by omega) (by omega) (by omega) (by omega)
  have un : ∀ (f : Nat → Int32) (z : Int32), FA (b0 + P) (upd f (b0 + P) z) f := fun f z j hj => pk_un (by omega)
  refine h.back hK (fun k hk => (k6 k (by omega)).trans (e0 k hk)) (fun k hk => (k6 k (by omega)).trans (e1 k (by omega) (by omega))) (fun j q1 q2 q3 q4 => (k5 j q1 q2 q3 q4).trans (by rw [e1 34 (by decide) (by decide)])) (by rw [k6 18 (by decide)]; exact e18) (by rw [k6 19 (by decide)]; exact e19) (by rw [k3, e1 39 (by decide) (by decide)]; exact un _ _) (by rw [k4, e1 40 (by decide) (by decide)]; exact un _ _) (hS.to (fun r hr => rfl) (fun r hr => k6 (20 + r) (by omega))) ?_ (fun p hp r hr => (k6 _ (by omega)).trans (hf _ (by omega) (by omega) (by omega) (by omega) (by omega) (by omega))) (fun q hq => (k2 q (Or.inl hq)).trans (by rw [e1 60 (by decide) (by decide)]))
  rw [← modR_cg e1]
  exact hQ
theorem wish_same {B D Wn : Nat} {M M3 : Mem} {ca : Nat → Int32} (hw : WL B D Wn M) (hB : B < 2 ^ 29) (hD : D ≤ 6) (e : ∀ k, k = 55 ∨ k = 56 ∨ k = 58 → M3 k = M k) (hca : ∀ t, t < D * 8 → ¬ M 9 t = 0 → ca t = M3 50 t ∧ ∃ c, c < 2 ^ 30 ∧ ca t = nI c) (w : Nat) (hwn : w < Wn) : wantS (M 13) (M 14) (M 16) ca w = 0 ↔ waM M3 w = 0 := by
  obtain ⟨w1, w2, w3, w4, w5⟩ := hw
  obtain ⟨⟨tk, k1, k2, k3⟩, k4, c0, k5, k6⟩ := w5 w hwn
  obtain ⟨g1, c, g2, g3⟩ := hca tk k1 k3
  have k4' : ∃ a, a ≤ 1000 ∧ M 14 w = nI a := by
    rw [wi_nn _ (by decide) (by decide)] at k4
    have h1 := of_decide_eq_true (and2 k4).1
    have h2 := of_decide_eq_true (and2 k4).2
    obtain ⟨j, hj, ej⟩ := inB_of (x := M 14 w) (n := 1001) (by unfold inB; exact and_t (decide_eq_true (by omega)) (decide_eq_true (by omega))) (by decide)
    exact ⟨j, by omega, ej⟩
  obtain ⟨a, ha, ea⟩ := k4'
  rw [want_0]
  unfold waM
  rw [e 55 (by decide), e 56 (by decide), e 58 (by decide), ← w1 w hwn, ← w2 w hwn, ← w4 w hwn, k2, tn_nI (by omega), ← g1, ea, k6, g3, want_iff ha g2 (by omega)]
  by_cases q : nI a ≤ nI c - nI c0
  · rw [if_pos q]
    exact ⟨fun _ => rfl, fun _ z => z q⟩
  · rw [if_neg q]
    exact ⟨fun z => absurd q z, fun z => absurd z (by decide)⟩
