/-! THE STEPS OF A PUSH -/
theorem inB_mono {x : Int32} {a b : Nat} (h : inB x a = true) (hab : a ≤ b) : inB x b = true := by
  simp only [inB, Bool.and_eq_true, decide_eq_true_eq] at h ⊢
  omega
theorem VR.mono {n a b : Nat} {R : Mem} (h : VR n a R) (hab : a ≤ b) : VR n b R := ⟨fun j hj => inB_mono (h.1 j hj) hab, h.2⟩
theorem VR.cg {n D bx by' : Nat} {T R R' : Mem} (h : VR n by' R) (hr : RG n D bx T R R') : VR n by' R' := by
  obtain ⟨v2, v3, v4, v5⟩ := h
  obtain ⟨⟨r2, r3, r4, _⟩, _⟩ := hr
  refine ⟨fun j hj => by rw [← r2 j hj]; exact v2 j hj, fun j hj => by rw [← r3 j hj]; exact v3 j hj, fun j hj hp => ?_, fun i j hi hj pi pj e => ?_⟩
  · rw [← r4 j hj]
    exact v4 j hj ((pure_cg (r4 j hj)).trans hp)
  · rw [← r3 i hi, ← r3 j hj]
    exact v5 i j hi hj ((pure_cg (r4 i hi)).trans pi) ((pure_cg (r4 j hj)).trans pj) (by rw [r2 i hi, r2 j hj]; exact e)
theorem VK.cg {n D bx bn k : Nat} {T R R' : Mem} (h : VK n bn k R) (hr : RG n D bx T R R') : VK n bn k R' := by
  obtain ⟨⟨r2, r3, r4, _⟩, _⟩ := hr
  intro j hj hp e
  rw [← r3 j hj]
  exact h j hj ((pure_cg (r4 j hj)).trans hp) (by rw [r2 j hj]; exact e)
theorem RG.symm {n D bx : Nat} {T R R' : Mem} (h : RG n D bx T R R') : RG n D bx T R' R := by
  obtain ⟨⟨r2, r3, r4, r5⟩, rt, rs, rw⟩ := h
  exact ⟨⟨fun j hj => (r2 j hj).symm, fun j hj => (r3 j hj).symm, fun j hj => (r4 j hj).symm, fun j hj => (r5 j hj).symm⟩, fun t h1 h2 => ⟨(rt t h1 h2).1.symm, (rt t h1 h2).2.1.symm, (rt t h1 h2).2.2.symm⟩, fun j hj => (rs j hj).symm, fun j hj => (rw j hj).symm⟩
theorem RG.rf {n D bx : Nat} {T R : Mem} : RG n D bx T R R := ⟨⟨fun _ _ => rfl, fun _ _ => rfl, fun _ _ => rfl, fun _ _ => rfl⟩, fun _ _ _ => ⟨rfl, rfl, rfl⟩, fun _ _ => rfl, fun _ _ => rfl⟩
theorem RG.trans {n D bx : Nat} {T R R' R2 : Mem} (h : RG n D bx T R R') (g : RG n D bx T R' R2) : RG n D bx T R R2 := by
  obtain ⟨⟨r2, r3, r4, r5⟩, rt, rs, rw⟩ := h
  obtain ⟨⟨s2, s3, s4, s5⟩, st, ss, sw⟩ := g
  exact ⟨⟨fun j hj => (r2 j hj).trans (s2 j hj), fun j hj => (r3 j hj).trans (s3 j hj), fun j hj => (r4 j hj).trans (s4 j hj), fun j hj => (r5 j hj).trans (s5 j hj)⟩, fun t h1 h2 => ⟨(rt t h1 h2).1.trans (st t h1 h2).1, (rt t h1 h2).2.1.trans (st t h1 h2).2.1, (rt t h1 h2).2.2.trans (st t h1 h2).2.2⟩, fun j hj => (rs j hj).trans (ss j hj), fun j hj => (rw j hj).trans (sw j hj)⟩
theorem RG.rows {n D bx : Nat} {T R X R' : Mem} (h : ∀ r, 2 ≤ r → r ≤ 11 → r ≠ 6 → R r = X r) (g : RG n D bx T X R') : RG n D bx T R R' := by
  unfold RG at g ⊢
  rw [h 2 (by omega) (by omega) (by omega), h 3 (by omega) (by omega) (by omega), h 4 (by omega) (by omega) (by omega), h 5 (by omega) (by omega) (by omega), h 7 (by omega) (by omega) (by omega), h 8 (by omega) (by omega) (by omega), h 9 (by omega) (by omega) (by omega), h 10 (by omega) (by omega) (by omega), h 11 (by omega) (by omega) (by omega)]
  exact g
theorem RG.T9 {n D bx : Nat} {T T2 R R' : Mem} (e : T2 9 = T 9) (h : RG n D bx T R R') : RG n D bx T2 R R' := by
  unfold RG at h ⊢
  rw [e]
  exact h
theorem RG.less {n D bx by' : Nat} {T R R' : Mem} (h : RG n D bx T R R') (hb : by' ≤ bx) : RG n D by' T R R' := ⟨h.1, h.2.1, h.2.2.1, fun j hj => h.2.2.2 j (by omega)⟩
theorem TG.rf {D : Nat} {T : Mem} : TG D T T := ⟨fun _ _ => rfl, fun _ _ => rfl, fun _ _ => rfl, fun _ _ => ⟨Iff.rfl, fun _ => ⟨rfl, rfl⟩⟩⟩
theorem TG.of {D : Nat} {T T' : Mem} (h2 : T 2 = T' 2) (h3 : T 3 = T' 3) (h4 : T 4 = T' 4) (h9 : T 9 = T' 9) (h10 : T 10 = T' 10) (h11 : T 11 = T' 11) : TG D T T' := by
  unfold TG
  rw [h2, h3, h4, h9, h10, h11]
  exact ⟨fun _ _ => rfl, fun _ _ => rfl, fun _ _ => rfl, fun _ _ => ⟨Iff.rfl, fun _ => ⟨rfl, rfl⟩⟩⟩
theorem step_le {mf : (Nat → Int32) → (Nat → Int32) → Nat → Nat → Pst → Pst} {T R : Mem} {lo hi src d k bn n : Nat} : (stepS mf T lo hi src d k bn n R).1 ≤ 3 := by
  unfold stepS
  split
  · exact (by decide : 1 ≤ 3)
  · split
    · exact (by decide : 2 ≤ 3)
    · show (if _ then 3 else 0) ≤ 3
      split <;> decide
theorem step_0 {mf : (Nat → Int32) → (Nat → Int32) → Nat → Nat → Pst → Pst} {T R : Mem} {lo hi src d k bn n : Nat} (h : (stepS mf T lo hi src d k bn n R).1 = 0) : (stepS mf T lo hi src d k bn n R).2 = goR mf T lo hi src d k bn R := by
  unfold stepS at h ⊢
  by_cases c : dryB T R src = true
  · rw [if_pos c] at h; cases h
  · rw [if_neg c] at h ⊢
    by_cases c2 : fullB T R (sinkS T R d (hi - 1)) = true
    · rw [if_pos c2] at h; cases h
    · rw [if_neg c2]
theorem step_same {T R : Mem} {n bm lo hi src d bn k : Nat} (h : VR n bm R) (hk : VK n bn k R) (hb : bn < bm) (hbm : bm ≤ 2 ^ 31) (hl : lo < hi) (hh : hi ≤ n) (hk8 : k < 8) : stepS mfC T lo hi src d k bn n R = stepS mfM T lo hi src d k bn n R ∧ ((stepS mfC T lo hi src d k bn n R).1 = 0 → VR n bm (stepS mfC T lo hi src d k bn n R).2 ∧ VK n bn k (stepS mfC T lo hi src d k bn n R).2) := by
  obtain ⟨e, v, vk⟩ := go_same (T := T) (src := src) (d := d) h hk hb hbm hl hh hk8
  refine ⟨?_, fun h0 => ?_⟩
  · unfold stepS
    rw [e]
  · rw [step_0 h0]
    exact ⟨v, vk⟩
theorem flow_same {T : Mem} {n bm lo hi src d bn k : Nat} (hb : bn < bm) (hbm : bm ≤ 2 ^ 31) (hl : lo < hi) (hh : hi ≤ n) (hk8 : k < 8) : ∀ (c : Nat) (R : Mem), VR n bm R → VK n bn k R → flowS mfC T lo hi src d k bn n c R = flowS mfM T lo hi src d k bn n c R ∧ ((flowS mfC T lo hi src d k bn n c R).1 = 0 → VR n bm (flowS mfC T lo hi src d k bn n c R).2 ∧ VK n bn k (flowS mfC T lo hi src d k bn n c R).2)
  | 0, R, h, hk => ⟨rfl, fun _ => ⟨h, hk⟩⟩
  | c + 1, R, h, hk => by
    obtain ⟨e, f⟩ := step_same (T := T) (src := src) (d := d) h hk hb hbm hl hh hk8
    by_cases c0 : (stepS mfC T lo hi src d k bn n R).1 = 0
    · obtain ⟨v, vk⟩ := f c0
      have ih := flow_same (T := T) (src := src) (d := d) hb hbm hl hh hk8 c _ v vk
      have x1 : flowS mfC T lo hi src d k bn n (c + 1) R = flowS mfC T lo hi src d k bn n c (stepS mfC T lo hi src d k bn n R).2 := if_pos c0
      have x2 : flowS mfM T lo hi src d k bn n (c + 1) R = flowS mfM T lo hi src d k bn n c (stepS mfM T lo hi src d k bn n R).2 := if_pos (by rw [← e]; exact c0)
      rw [x1, x2, ← e]
      exact ih
    · have x1 : flowS mfC T lo hi src d k bn n (c + 1) R = stepS mfC T lo hi src d k bn n R := if_neg c0
      have x2 : flowS mfM T lo hi src d k bn n (c + 1) R = stepS mfM T lo hi src d k bn n R := if_neg (by rw [← e]; exact c0)
      rw [x1, x2, ← e]
      exact ⟨rfl, fun h0 => absurd h0 c0⟩
theorem flow_cg {n D bx lo hi a d k bn : Nat} {T T' : Mem} (hT : TG D T T') (hb : bn < bx) (hbx : bx ≤ 2 ^ 31) (hl : lo < hi) (hh : hi ≤ n) (ha : a < D) (hd : d < D) (hk8 : k < 8) : ∀ (c : Nat) (R R' : Mem), RG n D bx T R R' → VR n bx R → VK n bn k R → (flowS mfC T lo hi (a * 8 + k) d k bn n c R).1 = (flowS mfC T' lo hi (a * 8 + k) d k bn n c R').1 ∧ ((flowS mfC T lo hi (a * 8 + k) d k bn n c R).1 = 0 → RG n D bx T (flowS mfC T lo hi (a * 8 + k) d k bn n c R).2 (flowS mfC T' lo hi (a * 8 + k) d k bn n c R').2)
  | 0, R, R', h, _, _ => ⟨rfl, fun _ => h⟩
  | c + 1, R, R', h, v, vk => by
    obtain ⟨e, f⟩ := step_cg (bn := bn) hT h v hbx hl hh ha hd hk8
    by_cases c0 : (stepS mfC T lo hi (a * 8 + k) d k bn n R).1 = 0
    · obtain ⟨v2, vk2⟩ := (step_same (T := T) (src := a * 8 + k) (d := d) v vk hb hbx hl hh hk8).2 c0
      have ih := flow_cg hT hb hbx hl hh ha hd hk8 c _ _ (f c0) v2 vk2
      have x1 : flowS mfC T lo hi (a * 8 + k) d k bn n (c + 1) R = flowS mfC T lo hi (a * 8 + k) d k bn n c (stepS mfC T lo hi (a * 8 + k) d k bn n R).2 := if_pos c0
      have x2 : flowS mfC T' lo hi (a * 8 + k) d k bn n (c + 1) R' = flowS mfC T' lo hi (a * 8 + k) d k bn n c (stepS mfC T' lo hi (a * 8 + k) d k bn n R').2 := if_pos (by rw [← e]; exact c0)
      rw [x1, x2]
      exact ih
    · have x1 : flowS mfC T lo hi (a * 8 + k) d k bn n (c + 1) R = stepS mfC T lo hi (a * 8 + k) d k bn n R := if_neg c0
      have x2 : flowS mfC T' lo hi (a * 8 + k) d k bn n (c + 1) R' = stepS mfC T' lo hi (a * 8 + k) d k bn n R' := if_neg (by rw [← e]; exact c0)
      rw [x1, x2]
      exact ⟨e, fun h0 => absurd h0 c0⟩
theorem flow_le {mf : (Nat → Int32) → (Nat → Int32) → Nat → Nat → Pst → Pst} {T : Mem} {lo hi src d k bn n : Nat} : ∀ (c : Nat) (R : Mem), (flowS mf T lo hi src d k bn n c R).1 ≤ 3
  | 0, _ => Nat.zero_le 3
  | c + 1, R => by
    unfold flowS
    split
    · exact flow_le c _
    · exact step_le
theorem nI_z {a : Nat} (h : a ≤ 3) : nI a = 0 ↔ a = 0 := by
  rw [show (0 : Int32) = nI 0 from rfl]
  exact nI_eq (by omega) (by decide)
