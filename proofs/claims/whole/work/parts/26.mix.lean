/-! THE TWO WAYS OF MIXING ARE ONE; the rows stay as they should be -/
def Qp (n : Nat) (q : Pst) : Prop := Kin q.1 n ∧ ∀ j, j < n → pureB q.2.1 j = false → inB (q.2.1 j) 8 = true
/-- q is q0 with perhaps more mixed ones: what is pure in q was so, and of that kind -/
def Psub (q q0 : Pst) : Prop := ∀ j, pureB q.2.1 j = true → pureB q0.2.1 j = true ∧ q.1 j = q0.1 j
theorem Psub.rf {q : Pst} : Psub q q := fun _ h => ⟨h, rfl⟩
theorem Psub.tr {q q1 q2 : Pst} (h : Psub q q1) (h2 : Psub q1 q2) : Psub q q2 := fun j hj => ⟨(h2 j (h j hj).1).1, (h j hj).2.trans (h2 j (h j hj).1).2⟩
def SB (n : Nat) (b : Nat → Int32) (q : Pst) : Prop := ∀ i j, i < n → j < n → pureB q.2.1 i = true → pureB q.2.1 j = true → b i = b j → q.1 i = q.1 j
theorem SB.sub {n : Nat} {b : Nat → Int32} {q q0 : Pst} (h : SB n b q0) (hs : Psub q q0) : SB n b q := fun i j hi hj pi pj e => by
  rw [(hs i pi).2, (hs j pj).2]
  exact h i j hi hj (hs i pi).1 (hs j pj).1 e
theorem ne_m1 {x : Int32} (h : inB x 8 = true) : ¬ x = -1 := by
  obtain ⟨j, hj, rfl⟩ := inB_of h (by decide)
  exact enc_ne (by omega)
theorem pure_upd {fo : Nat → Int32} {c : Nat} {x : Int32} (hx : inB x 8 = true) (j : Nat) : pureB (upd fo c x) j = (!decide (j = c) && pureB fo j) := by
  by_cases e : j = c
  · subst e
    simp only [pureB, pk_us, eqB_f (ne_m1 hx)]
    simp
  · simp only [pureB, pk_un e]
    simp [e]
theorem mo_facts {b kd fo w : Nat → Int32} {h f g n : Nat} (hq : Qp n (kd, fo, w)) (hh : h < n) (hf : f < n) : Qp n (mixOneS b (kd, fo, w) h f g) ∧ Psub (mixOneS b (kd, fo, w) h f g) (kd, fo, w) := by
  by_cases c : (pureB fo g && eqB (b g) (b (if evB h f then h else f))) = true
  · have e : mixOneS b (kd, fo, w) h f g = (upd kd (if evB h f then h else f) (kd h), upd fo (if evB h f then h else f) (kd f), upd w (if evB h f then f else g) 0) := if_pos c
    refine ⟨⟨kin_mo hq.1 hh, ?_⟩, ?_⟩
    · rw [e]
      intro j hj hp
      have hp : pureB (upd fo (if evB h f then h else f) (kd f)) j = false := hp
      show inB (upd fo (if evB h f then h else f) (kd f) j) 8 = true
      by_cases e : j = (if evB h f then h else f)
      · rw [← e, pk_us]; exact hq.1 f hf
      · rw [pk_un e]
        rw [pure_upd (hq.1 f hf)] at hp
        exact hq.2 j hj (by simpa [e] using hp)
    · rw [e]
      intro j hp
      have hp : pureB (upd fo (if evB h f then h else f) (kd f)) j = true := hp
      rw [pure_upd (hq.1 f hf)] at hp
      simp only [Bool.and_eq_true, Bool.not_eq_true', decide_eq_false_iff_not] at hp
      exact ⟨hp.2, pk_un hp.1⟩
  · have e : mixOneS b (kd, fo, w) h f g = (kd, fo, w) := if_neg c
    rw [e]
    exact ⟨hq, Psub.rf⟩
theorem core_facts {mx b : Nat → Int32} {lo hi h f n : Nat} {q : Pst} (hq : Qp n q) (hh : h < n) (hf : f < n) : Qp n (coreS mx b lo hi q h f) ∧ Psub (coreS mx b lo hi q h f) q := by
  obtain ⟨kd, fo, w⟩ := q
  have hq' : Qp n (kd, fo, (farS mx kd w h f).2) := hq
  rcases opt_cases (farS mx kd w h f).1 with e | ⟨g, e⟩
  · rw [co_n' e]; exact ⟨hq', fun j hj => ⟨hj, rfl⟩⟩
  · by_cases c : lo ≤ g ∧ g < hi
    · rw [co_i e c]
      have := mo_facts (b := b) (g := g) hq' hh hf
      exact ⟨this.1, fun j hj => this.2 j hj⟩
    · rw [co_o e c]; exact ⟨hq', fun j hj => ⟨hj, rfl⟩⟩
/-- the hind one became mixed: in front of it lies a pure one of its batch -/
theorem core_hind {mx b : Nat → Int32} {lo hi h f n : Nat} {q : Pst} (hq : Qp n q) (hf : f < n) (hhf : h < f) (hp : pureB q.2.1 h = true) (hp2 : pureB (coreS mx b lo hi q h f).2.1 h = false) : lo + 1 ≤ h ∧ pureB q.2.1 (h - 1) = true ∧ b (h - 1) = b h ∧ pureB (coreS mx b lo hi q h f).2.1 (h - 1) = true ∧ (coreS mx b lo hi q h f).1 (h - 1) = q.1 (h - 1) ∧ (coreS mx b lo hi q h f).1 h = q.1 h := by
  obtain ⟨kd, fo, w⟩ := q
  have nn : ∀ w', ¬ coreS mx b lo hi (kd, fo, w) h f = (kd, fo, w') := by
    intro w' e
    rw [e] at hp2
    have : pureB fo h = true := hp
    have h2 : pureB fo h = false := hp2
    rw [this] at h2
    cases h2
  rcases opt_cases (farS mx kd w h f).1 with e | ⟨g, e⟩
  · exact absurd (co_n' e) (nn _)
  · by_cases c : lo ≤ g ∧ g < hi
    · by_cases hpg : pureB fo g = true
      · by_cases hev : evB h f = true
        · by_cases hb : b g = b h
          · have hF := co_i (b := b) (fo := fo) e c
            rw [mo_y1 hev hpg hb] at hF
            have hg : g = h - 1 ∧ 0 < h := by
              unfold farS at e
              by_cases c1 : mx (kx kd h f) = 0
              · rw [if_pos c1] at e; cases e
              · rw [if_neg c1] at e
                by_cases c2 : (if w f < mx (kx kd h f) then upd w f (w f + 1) else w) f < mx (kx kd h f)
                · rw [if_pos c2] at e; cases e
                · rw [if_neg c2] at e
                  simp only [hev, if_true] at e
                  by_cases c4 : h = 0
                  · rw [if_pos c4] at e; cases e
                  · rw [if_neg c4] at e
                    have := Option.some.inj e
                    exact ⟨this.symm, by omega⟩
            obtain ⟨rfl, h0⟩ := hg
            have hne : h - 1 ≠ h := by omega
            rw [hF]
            refine ⟨by omega, hpg, hb, ?_, pk_un hne, pk_us⟩
            show pureB (upd fo h (kd f)) (h - 1) = true
            rw [pure_upd (hq.1 f hf)]
            simp [hne, hpg]
          · exact absurd ((co_i (b := b) e c).trans (mo_n2 hev hb)) (nn _)
        · have hev' : evB h f = false := by simpa using hev
          by_cases hb : b g = b f
          · have hF := co_i (b := b) (fo := fo) e c
            rw [mo_y2 hev' hpg hb] at hF
            rw [hF] at hp2
            have h2 : pureB (upd fo f (kd f)) h = false := hp2
            rw [pure_upd (hq.1 f hf)] at h2
            have h3 : pureB fo h = true := hp
            simp [h3] at h2
            omega
          · exact absurd ((co_i (b := b) e c).trans (mo_n3 hev' hb)) (nn _)
      · exact absurd ((co_i (b := b) e c).trans (mo_n1 (by simpa using hpg))) (nn _)
    · exact absurd (co_o e c) (nn _)
theorem nbB_skip {fo : Nat → Int32} {h : Nat} : ∀ (k : Nat), (∀ j, h < j → j < h + 1 + k → pureB fo j = false) → nbB fo (h + 1 + k) = nbB fo (h + 1)
  | 0, _ => rfl
  | k + 1, hs => by
    rw [show h + 1 + (k + 1) = (h + 1 + k) + 1 by omega, nbB_f (hs _ (by omega) (by omega))]
    exact nbB_skip k (fun j h1 h2 => hs j h1 (by omega))
theorem nbB_near {fo : Nat → Int32} {h f : Nat} (hf : h < f) (hp : pureB fo h = true) (hs : ∀ j, h < j → j < f → pureB fo j = false) : nbB fo f = some h := by
  have := nbB_skip (fo := fo) (h := h) (f - (h + 1)) (fun j h1 h2 => hs j h1 (by omega))
  rw [show h + 1 + (f - (h + 1)) = f by omega] at this
  rw [this, nbB_t hp]
theorem nbB_below {fo : Nat → Int32} {lo : Nat} : ∀ (f x : Nat), (∀ j, lo ≤ j → j < f → pureB fo j = false) → nbB fo f = some x → x < lo
  | 0, x, _, h => by simp [nbB] at h
  | f + 1, x, hs, h => by
    by_cases hp : pureB fo f = true
    · rw [nbB_t hp] at h
      cases h
      apply Classical.byContradiction
      intro hc
      rw [hs f (by omega) (by omega)] at hp
      cases hp
    · rw [nbB_f (by simpa using hp)] at h
      exact nbB_below f x (fun j h1 h2 => hs j h1 (by omega)) h
theorem mm_np {mx b : Nat → Int32} {lo hi y : Nat} {q : Pst} (h : pureB q.2.1 y = false) : mixMStep mx b lo hi y q = q := by
  unfold mixMStep
  rw [bord_n1 h]
theorem mm_eq {mx b : Nat → Int32} {lo hi y x : Nat} {q : Pst} (h : nbB q.2.1 y = some x) (he : q.1 x = q.1 y) : mixMStep mx b lo hi y q = q := by
  unfold mixMStep
  rw [bord_n3 h he]
theorem mm_lo {mx b : Nat → Int32} {lo hi y : Nat} {q : Pst} (h : ∀ x, nbB q.2.1 y = some x → x < lo) : mixMStep mx b lo hi y q = q := by
  unfold mixMStep
  rcases opt_cases (bord q.2.1 q.1 y) with e | ⟨x, e⟩
  · rw [e]
  · rw [e]
    exact if_pos (h x (bord_lt e).2.2.2.1)
theorem mm_core {mx b : Nat → Int32} {lo hi y x : Nat} {q : Pst} (hp : pureB q.2.1 y = true) (h : nbB q.2.1 y = some x) (he : ¬ q.1 x = q.1 y) (hx : lo ≤ x) : mixMStep mx b lo hi y q = coreS mx b lo hi q x y := by
  unfold mixMStep
  rw [bord_s hp h he]
  exact if_neg (by omega)
theorem mm_facts {mx b : Nat → Int32} {lo hi y n : Nat} {q : Pst} (hq : Qp n q) (hy : y < n) : Qp n (mixMStep mx b lo hi y q) ∧ Psub (mixMStep mx b lo hi y q) q := by
  unfold mixMStep
  rcases opt_cases (bord q.2.1 q.1 y) with e | ⟨x, e⟩
  · rw [e]; exact ⟨hq, Psub.rf⟩
  · rw [e]
    have hx := (bord_lt e).1
    show Qp n (if x < lo then q else coreS mx b lo hi q x y) ∧ Psub (if x < lo then q else coreS mx b lo hi q x y) q
    split
    · exact ⟨hq, Psub.rf⟩
    · exact core_facts hq (by omega) hy
theorem mix_same {mx b : Nat → Int32} {lo hi n : Nat} : ∀ (c : Nat),
    (∀ q, Qp n q → SB n b q → lo + c ≤ n → (mixC mx b lo hi c (none, q)).2 = mixM mx b lo hi c q) ∧
    (∀ f q, Qp n q → SB n b q → lo + c ≤ f → f < n → pureB q.2.1 f = true → (∀ j, lo + c ≤ j → j < f → pureB q.2.1 j = false) → (mixC mx b lo hi c (some f, q)).2 = mixM mx b lo hi c (mixMStep mx b lo hi f q)) ∧
    (∀ q, Qp n q → SB n b q → lo + c < n → 1 ≤ c → pureB q.2.1 (lo + c - 1) = true → q.1 (lo + c - 1) = q.1 (lo + c) → (mixC mx b lo hi c (some (lo + c), q)).2 = mixM mx b lo hi c q)
  | 0 => by
    refine ⟨fun q _ _ _ => rfl, fun f q hq hs h1 h2 hp hm => ?_, fun q _ _ _ h => absurd h (by omega)⟩
    show q = mixMStep mx b lo hi f q
    exact (mm_lo (fun x hx => nbB_below f x (fun j h3 h4 => hm j (by omega) h4) hx)).symm
  | c + 1 => by
    obtain ⟨ia, ib, ic⟩ := mix_same (mx := mx) (b := b) (lo := lo) (hi := hi) (n := n) c
    refine ⟨fun q hq hs hl => ?_, fun f q hq hs h1 h2 hp hm => ?_, fun q hq hs hl _ hp he => ?_⟩
    · show (mixC mx b lo hi c (mixStep mx b lo hi (lo + c) (none, q))).2 = mixM mx b lo hi c (mixMStep mx b lo hi (lo + c) q)
      by_cases hh : pureB q.2.1 (lo + c) = true
      · rw [ms_n hh]
        exact ib (lo + c) q hq hs (by omega) (by omega) hh (fun j h3 h4 => absurd h3 (by omega))
      · have hh' : pureB q.2.1 (lo + c) = false := by simpa using hh
        rw [ms_f hh', mm_np hh']
        exact ia q hq hs (by omega)
    · show (mixC mx b lo hi c (mixStep mx b lo hi (lo + c) (some f, q))).2 = mixM mx b lo hi c (mixMStep mx b lo hi (lo + c) (mixMStep mx b lo hi f q))
      have hmf := mm_facts (mx := mx) (b := b) (lo := lo) (hi := hi) hq h2
      by_cases hh : pureB q.2.1 (lo + c) = true
      · have hnb : nbB q.2.1 f = some (lo + c) := nbB_near (by omega) hh (fun j h3 h4 => hm j (by omega) h4)
        by_cases he : q.1 (lo + c) = q.1 f
        · rw [ms_e hh he, mm_eq hnb he]
          exact ib (lo + c) q hq hs (by omega) (by omega) hh (fun j h3 h4 => absurd h3 (by omega))
        · rw [ms_c hh he, mm_core hp hnb he (by omega)]
          have hcf := core_facts (mx := mx) (b := b) (lo := lo) (hi := hi) (h := lo + c) hq (by omega) h2
          have hs' := hs.sub hcf.2
          by_cases hq2 : pureB (coreS mx b lo hi q (lo + c) f).2.1 (lo + c) = true
          · exact ib (lo + c) _ hcf.1 hs' (by omega) (by omega) hq2 (fun j h3 h4 => absurd h3 (by omega))
          · have hq3 : pureB (coreS mx b lo hi q (lo + c) f).2.1 (lo + c) = false := by simpa using hq2
            obtain ⟨k1, k2, k3, k4, k5, k6⟩ := core_hind hq h2 (by omega) hh hq3
            rw [mm_np hq3]
            refine ic _ hcf.1 hs' (by omega) (by omega) k4 ?_
            rw [k5, k6]
            exact hs _ _ (by omega) (by omega) k2 hh k3
      · have hh' : pureB q.2.1 (lo + c) = false := by simpa using hh
        have hh2 : pureB (mixMStep mx b lo hi f q).2.1 (lo + c) = false := by
          cases hx : pureB (mixMStep mx b lo hi f q).2.1 (lo + c) with
          | false => rfl
          | true => rw [(hmf.2 _ hx).1] at hh'; cases hh'
        rw [ms_f hh', mm_np hh2]
        refine ib f q hq hs (by omega) h2 hp (fun j h3 h4 => ?_)
        by_cases e : j = lo + c
        · rw [e]; exact hh'
        · exact hm j (by omega) h4
    · show (mixC mx b lo hi c (mixStep mx b lo hi (lo + c) (some (lo + (c + 1)), q))).2 = mixM mx b lo hi c (mixMStep mx b lo hi (lo + c) q)
      have hp' : pureB q.2.1 (lo + c) = true := hp
      have he' : q.1 (lo + c) = q.1 (lo + (c + 1)) := he
      rw [ms_e hp' he']
      exact ib (lo + c) q hq hs (by omega) (by omega) hp' (fun j h3 h4 => absurd h3 (by omega))
theorem mf_same {mx b : Nat → Int32} {lo hi n : Nat} {q : Pst} (hq : Qp n q) (hs : SB n b q) (h1 : lo ≤ hi) (h2 : hi ≤ n) : mfC mx b lo hi q = mfM mx b lo hi q := (mix_same (hi - lo)).1 q hq hs (by omega)
theorem mixC_facts {mx b : Nat → Int32} {lo hi n : Nat} : ∀ (c : Nat) (q : Pst), Qp n q → lo + c ≤ n → Qp n (mixM mx b lo hi c q) ∧ Psub (mixM mx b lo hi c q) q
  | 0, q, hq, _ => ⟨hq, Psub.rf⟩
  | c + 1, q, hq, hc => by
    have h1 := mm_facts (mx := mx) (b := b) (lo := lo) (hi := hi) (y := lo + c) hq (by omega)
    have h2 := mixC_facts (mx := mx) (b := b) (lo := lo) (hi := hi) c _ h1.1 (by omega)
    exact ⟨h2.1, h2.2.tr h1.2⟩
/-- the rows behind the moving on -/
theorem mov_vr {n bm lo hi bn k : Nat} {R : Mem} (h : VR n bm R) (hk : VK n bn k R) (hb : bn < bm) (hbm : bm ≤ 2 ^ 31) (hl : lo < hi) (hh : hi ≤ n) (hk8 : k < 8) : VR n bm (movR lo hi bn k R) ∧ VK n bn k (movR lo hi bn k R) := by
  obtain ⟨v2, v3, v4, v5⟩ := h
  have r2 : ∀ j, movR lo hi bn k R 2 j = if j = lo then nI bn else if lo < j ∧ j < hi then R 2 (j - 1) else R 2 j := fun j => mov_at hl j
  have r3 : ∀ j, movR lo hi bn k R 3 j = if j = lo then nI k else if lo < j ∧ j < hi then R 3 (j - 1) else R 3 j := fun j => mov_at hl j
  have r4 : ∀ j, movR lo hi bn k R 4 j = if j = lo then -1 else if lo < j ∧ j < hi then R 4 (j - 1) else R 4 j := fun j => mov_at hl j
  -- where a place's contents came from
  have key : ∀ j, j < n → (j = lo ∧ movR lo hi bn k R 2 j = nI bn ∧ movR lo hi bn k R 3 j = nI k ∧ movR lo hi bn k R 4 j = -1) ∨ ∃ i, i < n ∧ movR lo hi bn k R 2 j = R 2 i ∧ movR lo hi bn k R 3 j = R 3 i ∧ movR lo hi bn k R 4 j = R 4 i := by
    intro j hj
    by_cases e : j = lo
    · left; refine ⟨e, ?_, ?_, ?_⟩
      · rw [r2, if_pos e]
      · rw [r3, if_pos e]
      · rw [r4, if_pos e]
    · right
      by_cases c : lo < j ∧ j < hi
      · refine ⟨j - 1, by omega, ?_, ?_, ?_⟩
        · rw [r2, if_neg e, if_pos c]
        · rw [r3, if_neg e, if_pos c]
        · rw [r4, if_neg e, if_pos c]
      · refine ⟨j, hj, ?_, ?_, ?_⟩
        · rw [r2, if_neg e, if_neg c]
        · rw [r3, if_neg e, if_neg c]
        · rw [r4, if_neg e, if_neg c]
  have hvk : VK n bn k (movR lo hi bn k R) := by
    intro j hj hp he
    rcases key j hj with ⟨_, _, h3, _⟩ | ⟨i, hi2, e2, e3, e4⟩
    · exact h3
    · rw [e3]
      refine hk i hi2 ?_ (e2.symm.trans he)
      simp only [pureB] at hp ⊢
      rw [e4] at hp
      exact hp
  refine ⟨⟨fun j hj => ?_, fun j hj => ?_, fun j hj hp => ?_, fun i j hi2 hj hpi hpj he => ?_⟩, hvk⟩
  · rcases key j hj with ⟨_, h2, _, _⟩ | ⟨i, hi2, e2, _, _⟩
    · rw [h2]; exact inB_k hb hbm
    · rw [e2]; exact v2 i hi2
  · rcases key j hj with ⟨_, _, h3, _⟩ | ⟨i, hi2, _, e3, _⟩
    · rw [h3]; exact inB_k hk8 (by decide)
    · rw [e3]; exact v3 i hi2
  · simp only [pureB] at hp
    rcases key j hj with ⟨_, _, _, h4⟩ | ⟨i, hi2, _, _, e4⟩
    · rw [h4] at hp; cases hp
    · rw [e4] at hp ⊢
      exact v4 i hi2 hp
  · rcases key i hi2 with ⟨_, h2, h3, _⟩ | ⟨i', hi3, e2, e3, e4⟩
    · rw [h3]
      exact (hvk j hj hpj (he.symm.trans h2)).symm
    · rcases key j hj with ⟨_, h2, h3, _⟩ | ⟨j', hj3, f2, f3, f4⟩
      · rw [h3]
        exact hvk i hi2 hpi (he.trans h2)
      · rw [e3, f3]
        simp only [pureB] at hpi hpj
        rw [e4] at hpi
        rw [f4] at hpj
        exact v5 i' j' hi3 hj3 hpi hpj (by rw [← e2, ← f2]; exact he)
/-- a step leaves the rows as they should be, and both ways of mixing give the same -/
theorem go_same {T R : Mem} {n bm lo hi src d bn k : Nat} (h : VR n bm R) (hk : VK n bn k R) (hb : bn < bm) (hbm : bm ≤ 2 ^ 31) (hl : lo < hi) (hh : hi ≤ n) (hk8 : k < 8) : goR mfC T lo hi src d k bn R = goR mfM T lo hi src d k bn R ∧ VR n bm (goR mfC T lo hi src d k bn R) ∧ VK n bn k (goR mfC T lo hi src d k bn R) := by
  obtain ⟨⟨v2, v3, v4, v5⟩, vk⟩ := mov_vr (R := R) h hk hb hbm hl hh hk8
  have hq : Qp n (movR lo hi bn k R 3, movR lo hi bn k R 4, movR lo hi bn k R 5) := ⟨v3, v4⟩
  have hs : SB n (movR lo hi bn k R 2) (movR lo hi bn k R 3, movR lo hi bn k R 4, movR lo hi bn k R 5) := v5
  have hm := mf_same (mx := T 3) (lo := lo) (hi := hi) hq hs (by omega) hh
  have e : goR mfC T lo hi src d k bn R = goR mfM T lo hi src d k bn R := by
    funext r
    show (if r = 3 then (mfC (T 3) (movR lo hi bn k R 2) lo hi (movR lo hi bn k R 3, movR lo hi bn k R 4, movR lo hi bn k R 5)).1 else if r = 4 then (mfC (T 3) (movR lo hi bn k R 2) lo hi (movR lo hi bn k R 3, movR lo hi bn k R 4, movR lo hi bn k R 5)).2.1 else if r = 5 then (mfC (T 3) (movR lo hi bn k R 2) lo hi (movR lo hi bn k R 3, movR lo hi bn k R 4, movR lo hi bn k R 5)).2.2 else _) = _
    rw [hm]
    rfl
  have hf := mixC_facts (mx := T 3) (b := movR lo hi bn k R 2) (lo := lo) (hi := hi) (hi - lo) _ hq (by omega)
  have g2 : goR mfC T lo hi src d k bn R 2 = movR lo hi bn k R 2 := rfl
  have g3 : goR mfC T lo hi src d k bn R 3 = (mixM (T 3) (movR lo hi bn k R 2) lo hi (hi - lo) (movR lo hi bn k R 3, movR lo hi bn k R 4, movR lo hi bn k R 5)).1 := by rw [e]; rfl
  have g4 : goR mfC T lo hi src d k bn R 4 = (mixM (T 3) (movR lo hi bn k R 2) lo hi (hi - lo) (movR lo hi bn k R 3, movR lo hi bn k R 4, movR lo hi bn k R 5)).2.1 := by rw [e]; rfl
  refine ⟨e, ⟨by rw [g2]; exact v2, by rw [g3]; exact hf.1.1, by rw [g4]; exact hf.1.2, ?_⟩, ?_⟩
  · rw [g2, g3, g4]
    exact hs.sub hf.2
  · intro j hj hp he
    rw [g4] at hp
    rw [g2] at he
    rw [g3, (hf.2 j hp).2]
    exact vk j hj (hf.2 j hp).1 he
