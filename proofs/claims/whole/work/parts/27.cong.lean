/-! A STEP LOOKS AT NO PLACE BEYOND THE LINE, NO TANK THAT IS NOT THERE -/
def FA (n : Nat) (f g : Nat → Int32) : Prop := ∀ j, j < n → f j = g j
theorem pure_cg {fo fo' : Nat → Int32} {j : Nat} (h : fo j = fo' j) : pureB fo j = pureB fo' j := by simp only [pureB, h]
theorem nbB_cg {fo fo' : Nat → Int32} : ∀ {m : Nat}, FA m fo fo' → nbB fo m = nbB fo' m
  | 0, _ => rfl
  | m + 1, h => by rw [nbB, nbB, pure_cg (h m (by omega)), nbB_cg (fun j hj => h j (by omega))]
theorem nbEc_cg {fo fo' : Nat → Int32} : ∀ {c j : Nat}, FA (j + c) fo fo' → nbEc fo c j = nbEc fo' c j
  | 0, _, _ => rfl
  | c + 1, j, h => by rw [nbEc, nbEc, pure_cg (h j (by omega)), nbEc_cg (c := c) (j := j + 1) (fun i hi => h i (by omega))]
theorem nbE_cg {fo fo' : Nat → Int32} {n m : Nat} (h : FA n fo fo') (hm : m < n) : nbE fo n m = nbE fo' n m := nbEc_cg (fun j hj => h j (by omega))
theorem bord_cg {fo fo' kd kd' : Nat → Int32} {n m : Nat} (h : FA n fo fo') (hk : FA n kd kd') (hm : m < n) : bord fo kd m = bord fo' kd' m := by
  unfold bord
  rw [pure_cg (h m hm), nbB_cg (fun j hj => h j (by omega))]
  by_cases c : pureB fo' m = true
  · rw [if_pos c, if_pos c]
    rcases opt_cases (nbB fo' m) with e | ⟨x, e⟩
    · rw [e]
    · rw [e]
      have := (nbB_lt e).1
      simp only [hk x (by omega), hk m hm]
  · rw [if_neg c, if_neg c]
theorem kx_lt {kd : Nat → Int32} {n h f : Nat} (hk : Kin kd n) (hh : h < n) (hf : f < n) : kx kd h f < 64 := by
  obtain ⟨a, ha, ea⟩ := inB_of (hk h hh) (by decide)
  obtain ⟨b, hb, eb⟩ := inB_of (hk f hf) (by decide)
  rw [kx_of ea eb ha hb]
  omega
theorem kx_cg {kd kd' : Nat → Int32} {n h f : Nat} (hk : FA n kd kd') (hh : h < n) (hf : f < n) : kx kd h f = kx kd' h f := by simp only [kx, hk h hh, hk f hf]
theorem clB_cg {may may' kd kd' : Nat → Int32} {n : Nat} {a b : Option Nat} (hm : FA 64 may may') (hk : FA n kd kd') (hki : Kin kd n) (ha : ∀ x, a = some x → x < n) (hb : ∀ x, b = some x → x < n) : clB may kd a b = clB may' kd' a b := by
  rcases opt_cases a with rfl | ⟨x, rfl⟩
  · rw [clB_n1, clB_n1]
  · rcases opt_cases b with rfl | ⟨y, rfl⟩
    · rw [clB_n2, clB_n2]
    · have hx := ha x rfl
      have hy := hb y rfl
      rw [clB_s, clB_s, ← kx_cg hk hx hy, hm _ (kx_lt hki hx hy)]
theorem clash_cg {may may' kd kd' fo fo' : Nat → Int32} {n m : Nat} (hm : FA 64 may may') (hk : FA n kd kd') (hf : FA n fo fo') (hki : Kin kd n) (hmn : m < n) : clashB may kd fo n m = clashB may' kd' fo' n m := by
  have e1 := nbB_cg (fo := fo) (fo' := fo') (m := m) (fun j hj => hf j (by omega))
  have e2 := nbE_cg hf hmn
  have b1 : ∀ x, nbB fo m = some x → x < n := fun x hx => by have := (nbB_lt hx).1; omega
  have b2 : ∀ x, nbE fo n m = some x → x < n := fun x hx => (nbE_lt hx).2.1
  have b3 : ∀ x, some m = some x → x < n := fun x hx => by cases hx; exact hmn
  unfold clashB
  rw [pure_cg (hf m hmn), clB_cg hm hk hki b1 b3, clB_cg hm hk hki b3 b2, clB_cg hm hk hki b1 b2, e1, e2]
def PA (n : Nat) (q q' : Pst) : Prop := FA n q.1 q'.1 ∧ FA n q.2.1 q'.2.1 ∧ FA n q.2.2 q'.2.2
theorem FA.upd {n j : Nat} {f g : Nat → Int32} {x y : Int32} (h : FA n f g) (hx : x = y) : FA n (upd f j x) (upd g j y) := by
  intro i hi
  by_cases e : i = j
  · subst e; rw [pk_us, pk_us, hx]
  · rw [pk_un e, pk_un e, h i hi]
theorem far_cg {mx mx' kd kd' w w' : Nat → Int32} {n h f : Nat} (hm : FA 64 mx mx') (hk : FA n kd kd') (hw : FA n w w') (hki : Kin kd n) (hh : h < n) (hf : f < n) : (farS mx kd w h f).1 = (farS mx' kd' w' h f).1 ∧ FA n (farS mx kd w h f).2 (farS mx' kd' w' h f).2 := by
  have e1 : mx (kx kd h f) = mx' (kx kd' h f) := by rw [← kx_cg hk hh hf]; exact hm _ (kx_lt hki hh hf)
  have e2 := hw f hf
  have e3 : FA n (if w f < mx (kx kd h f) then upd w f (w f + 1) else w) (if w' f < mx' (kx kd' h f) then upd w' f (w' f + 1) else w') := by
    rw [e1, e2]
    by_cases c : w' f < mx' (kx kd' h f)
    · rw [if_pos c, if_pos c]; exact hw.upd rfl
    · rw [if_neg c, if_neg c]; exact hw
  have e4 := e3 f hf
  unfold farS
  by_cases c1 : mx' (kx kd' h f) = 0
  · rw [if_pos c1, if_pos (e1.trans c1)]
    exact ⟨rfl, hw⟩
  · rw [if_neg c1, if_neg (fun z => c1 (e1.symm.trans z))]
    by_cases c2 : (if w' f < mx' (kx kd' h f) then upd w' f (w' f + 1) else w') f < mx' (kx kd' h f)
    · rw [if_pos c2, if_pos (by rw [e4, e1]; exact c2)]
      exact ⟨rfl, e3⟩
    · rw [if_neg c2, if_neg (by rw [e4, e1]; exact c2)]
      exact ⟨rfl, e3⟩
theorem mo_cg {b b' : Nat → Int32} {q q' : Pst} {n h f g : Nat} (hb : FA n b b') (hq : PA n q q') (hh : h < n) (hf : f < n) (hg : g < n) : PA n (mixOneS b q h f g) (mixOneS b' q' h f g) := by
  have e1 : pureB q.2.1 g = pureB q'.2.1 g := pure_cg (hq.2.1 g hg)
  have hc : (if evB h f then h else f) < n := by split <;> assumption
  by_cases c : (pureB q'.2.1 g && eqB (b' g) (b' (if evB h f then h else f))) = true
  · have x1 : mixOneS b' q' h f g = (upd q'.1 (if evB h f then h else f) (q'.1 h), upd q'.2.1 (if evB h f then h else f) (q'.1 f), upd q'.2.2 (if evB h f then f else g) 0) := if_pos c
    have x2 : mixOneS b q h f g = (upd q.1 (if evB h f then h else f) (q.1 h), upd q.2.1 (if evB h f then h else f) (q.1 f), upd q.2.2 (if evB h f then f else g) 0) := if_pos (by rw [e1, hb g hg, hb _ hc]; exact c)
    rw [x1, x2]
    exact ⟨FA.upd hq.1 (hq.1 h hh), FA.upd hq.2.1 (hq.1 f hf), FA.upd hq.2.2 rfl⟩
  · have x1 : mixOneS b' q' h f g = q' := if_neg c
    have x2 : mixOneS b q h f g = q := if_neg (by rw [e1, hb g hg, hb _ hc]; exact c)
    rw [x1, x2]
    exact hq
theorem core_cg {mx mx' b b' : Nat → Int32} {q q' : Pst} {n lo hi h f : Nat} (hm : FA 64 mx mx') (hb : FA n b b') (hq : PA n q q') (hki : Kin q.1 n) (hh : h < n) (hf : f < n) (hhi : hi ≤ n) : PA n (coreS mx b lo hi q h f) (coreS mx' b' lo hi q' h f) := by
  obtain ⟨kd, fo, w⟩ := q
  obtain ⟨kd', fo', w'⟩ := q'
  obtain ⟨e1, e2⟩ := far_cg hm hq.1 hq.2.2 hki hh hf
  have e1 : (farS mx kd w h f).1 = (farS mx' kd' w' h f).1 := e1
  have hq2 : PA n (kd, fo, (farS mx kd w h f).2) (kd', fo', (farS mx' kd' w' h f).2) := ⟨hq.1, hq.2.1, e2⟩
  rcases opt_cases (farS mx' kd' w' h f).1 with e | ⟨g, e⟩
  · rw [co_n' e, co_n' (e1.trans e)]; exact hq2
  · by_cases c : lo ≤ g ∧ g < hi
    · rw [co_i e c, co_i (e1.trans e) c]
      exact mo_cg hb hq2 hh hf (by omega)
    · rw [co_o e c, co_o (e1.trans e) c]; exact hq2
theorem ms_cg {mx mx' b b' : Nat → Int32} {og : Option Nat} {q q' : Pst} {n lo hi h : Nat} (hm : FA 64 mx mx') (hb : FA n b b') (hq : PA n q q') (hki : Kin q.1 n) (hh : h < n) (hf : ∀ f, og = some f → f < n) (hhi : hi ≤ n) : (mixStep mx b lo hi h (og, q)).1 = (mixStep mx' b' lo hi h (og, q')).1 ∧ PA n (mixStep mx b lo hi h (og, q)).2 (mixStep mx' b' lo hi h (og, q')).2 ∧ ∀ f, (mixStep mx b lo hi h (og, q)).1 = some f → f < n := by
  have e := pure_cg (hq.2.1 h hh)
  by_cases hp : pureB q'.2.1 h = true
  · rcases opt_cases og with rfl | ⟨f, rfl⟩
    · rw [ms_n hp, ms_n (e.trans hp)]
      exact ⟨rfl, hq, fun f hf => by cases hf; exact hh⟩
    · have hfn := hf f rfl
      by_cases he : q'.1 h = q'.1 f
      · rw [ms_e hp he, ms_e (e.trans hp) (by rw [hq.1 h hh, hq.1 f hfn]; exact he)]
        exact ⟨rfl, hq, fun f hf => by cases hf; exact hh⟩
      · rw [ms_c hp he, ms_c (e.trans hp) (by rw [hq.1 h hh, hq.1 f hfn]; exact he)]
        exact ⟨rfl, core_cg hm hb hq hki hh hfn hhi, fun f hf => by cases hf; exact hh⟩
  · have hp' : pureB q'.2.1 h = false := by simpa using hp
    rw [ms_f (u := (og, q')) hp', ms_f (u := (og, q)) (e.trans hp')]
    exact ⟨rfl, hq, hf⟩
theorem mixC_cg {mx mx' b b' : Nat → Int32} {n lo hi : Nat} (hm : FA 64 mx mx') (hb : FA n b b') (hhi : hi ≤ n) : ∀ (c : Nat) (og : Option Nat) (q q' : Pst), PA n q q' → Kin q.1 n → lo + c ≤ n → (∀ f, og = some f → f < n) → PA n (mixC mx b lo hi c (og, q)).2 (mixC mx' b' lo hi c (og, q')).2
  | 0, og, q, q', h, _, _, _ => h
  | c + 1, og, q, q', h, hk, hc, hf => by
    obtain ⟨e1, e2, e3⟩ := ms_cg (lo := lo) (h := lo + c) hm hb h hk (by omega) hf hhi
    have hk2 := kin_ms (mx := mx) (b := b) (lo := lo) (hi := hi) (h := lo + c) (u := (og, q)) hk (by omega)
    have := mixC_cg (lo := lo) hm hb hhi c (mixStep mx b lo hi (lo + c) (og, q)).1 (mixStep mx b lo hi (lo + c) (og, q)).2 (mixStep mx' b' lo hi (lo + c) (og, q')).2 e2 hk2 (by omega) e3
    have e4 : ((mixStep mx b lo hi (lo + c) (og, q)).1, (mixStep mx' b' lo hi (lo + c) (og, q')).2) = mixStep mx' b' lo hi (lo + c) (og, q') := by rw [e1]
    rw [e4] at this
    exact this
theorem mov_cg {n lo hi : Nat} {x : Int32} {f g : Nat → Int32} (h : FA n f g) (hl : lo < hi) : FA n (movF lo hi x f) (movF lo hi x g) := by
  intro j hj
  rw [mov_at hl, mov_at hl]
  split
  · rfl
  · split
    · exact h _ (by omega)
    · exact h j hj
/-- tables, rows: the same as far as one looks. D doors -/
def TG (D : Nat) (T T' : Mem) : Prop := FA 64 (T 2) (T' 2) ∧ FA 64 (T 3) (T' 3) ∧ FA 8 (T 4) (T' 4) ∧ ∀ t, t < D * 8 → (T 9 t = 0 ↔ T' 9 t = 0) ∧ (¬ T 9 t = 0 → T 10 t = T' 10 t ∧ T 11 t = T' 11 t)
def RG (n D bx : Nat) (T R R' : Mem) : Prop := (FA n (R 2) (R' 2) ∧ FA n (R 3) (R' 3) ∧ FA n (R 4) (R' 4) ∧ FA n (R 5) (R' 5)) ∧ (∀ t, t < D * 8 → ¬ T 9 t = 0 → R 7 t = R' 7 t ∧ R 8 t = R' 8 t ∧ R 9 t = R' 9 t) ∧ FA D (R 10) (R' 10) ∧ FA bx (R 11) (R' 11)
theorem sink_cg {n D bx d m : Nat} {T T' R R' : Mem} (hT : TG D T T') (hR : RG n D bx T R R') (hki : Kin (R 3) n) (hfo : ∀ j, j < n → pureB (R 4) j = false → inB (R 4 j) 8 = true) (hm : m < n) (hd : d < D) : sinkS T R d m = sinkS T' R' d m := by
  obtain ⟨⟨r2, r3, r4, r5⟩, rt, rs, rw⟩ := hR
  obtain ⟨t2, t3, t4, tt⟩ := hT
  have e3 := r3 m hm
  have e4 := r4 m hm
  have ep := pure_cg (fo := R 4) (fo' := R' 4) e4
  obtain ⟨a, ha8, ha⟩ := inB_of (hki m hm) (by decide)
  have ea : tn (R 3 m) = a := by rw [ha]; exact tn_nI (by omega)
  have ea' : tn (R' 3 m) = a := by rw [← e3]; exact ea
  have one : ∀ k, k < 8 → (T 9 (d * 8 + k) = 0 ↔ T' 9 (d * 8 + k) = 0) ∧ (¬ T 9 (d * 8 + k) = 0 → bearB (R 8) (R 7) (T 4 k) (d * 8 + k) = bearB (R' 8) (R' 7) (T' 4 k) (d * 8 + k)) := by
    intro k hk
    refine ⟨(tt _ (by omega)).1, fun h => ?_⟩
    obtain ⟨q7, q8, _⟩ := rt (d * 8 + k) (by omega) h
    simp only [bearB, q7, q8, t4 k hk]
  obtain ⟨o1, o2⟩ := one a ha8
  by_cases hp : pureB (R 4) m = true
  · have hp' := ep.symm.trans hp
    by_cases c : T 9 (d * 8 + a) = 0
    · rw [sk1 ea hp c, sk1 ea' hp' (o1.mp c)]
    · rw [sk2 ea hp c, sk2 ea' hp' (fun z => c (o1.mpr z))]
  · have hp1 : pureB (R 4) m = false := by simpa using hp
    have hp' := ep.symm.trans hp1
    obtain ⟨b, hb8, hb⟩ := inB_of (hfo m hm hp1) (by decide)
    have eb : tn (R 4 m) = b := by rw [hb]; exact tn_nI (by omega)
    have eb' : tn (R' 4 m) = b := by rw [← e4]; exact eb
    obtain ⟨u1, u2⟩ := one b hb8
    have first : ∀ (k : Nat) (o1 : T 9 (d * 8 + k) = 0 ↔ T' 9 (d * 8 + k) = 0) (o2 : ¬ T 9 (d * 8 + k) = 0 → bearB (R 8) (R 7) (T 4 k) (d * 8 + k) = bearB (R' 8) (R' 7) (T' 4 k) (d * 8 + k)), (T 9 (d * 8 + k) = 0 ∨ bearB (R 8) (R 7) (T 4 k) (d * 8 + k) = false) ∨ (¬ T 9 (d * 8 + k) = 0 ∧ bearB (R 8) (R 7) (T 4 k) (d * 8 + k) = true) := by
      intro k o1 o2
      by_cases c : T 9 (d * 8 + k) = 0
      · exact Or.inl (Or.inl c)
      · cases hx : bearB (R 8) (R 7) (T 4 k) (d * 8 + k) with
        | false => exact Or.inl (Or.inr rfl)
        | true => exact Or.inr ⟨c, rfl⟩
    have move : ∀ (k : Nat) (o1 : T 9 (d * 8 + k) = 0 ↔ T' 9 (d * 8 + k) = 0) (o2 : ¬ T 9 (d * 8 + k) = 0 → bearB (R 8) (R 7) (T 4 k) (d * 8 + k) = bearB (R' 8) (R' 7) (T' 4 k) (d * 8 + k)), (T 9 (d * 8 + k) = 0 ∨ bearB (R 8) (R 7) (T 4 k) (d * 8 + k) = false) → (T' 9 (d * 8 + k) = 0 ∨ bearB (R' 8) (R' 7) (T' 4 k) (d * 8 + k) = false) := by
      intro k o1 o2 h
      by_cases c : T 9 (d * 8 + k) = 0
      · exact Or.inl (o1.mp c)
      · rcases h with h | h
        · exact absurd h c
        · exact Or.inr ((o2 c).symm.trans h)
    rcases first a o1 o2 with h | ⟨h, hb1⟩
    · rcases first b u1 u2 with g | ⟨g, hg⟩
      · rw [sk5 ea eb hp1 h g, sk5 ea' eb' hp' (move a o1 o2 h) (move b u1 u2 g)]
      · rw [sk4 ea eb hp1 h g hg, sk4 ea' eb' hp' (move a o1 o2 h) (fun z => g (u1.mpr z)) ((u2 g).symm.trans hg)]
    · rw [sk3 ea hp1 h hb1, sk3 ea' hp' (fun z => h (o1.mpr z)) ((o2 h).symm.trans hb1)]
theorem step_cg {n D bx lo hi a d k bn : Nat} {T T' R R' : Mem} (hT : TG D T T') (hR : RG n D bx T R R') (hv : VR n bx R) (hbx : bx ≤ 2 ^ 31) (hl : lo < hi) (hh : hi ≤ n) (ha : a < D) (hd : d < D) (hk8 : k < 8) :
    (stepS mfC T lo hi (a * 8 + k) d k bn n R).1 = (stepS mfC T' lo hi (a * 8 + k) d k bn n R').1 ∧ ((stepS mfC T lo hi (a * 8 + k) d k bn n R).1 = 0 → RG n D bx T (stepS mfC T lo hi (a * 8 + k) d k bn n R).2 (stepS mfC T' lo hi (a * 8 + k) d k bn n R').2) := by
  have hsk := sink_cg hT hR hv.2.1 hv.2.2.1 (show hi - 1 < n by omega) hd
  obtain ⟨⟨r2, r3, r4, r5⟩, rt, rs, rwo⟩ := id hR
  obtain ⟨t2, t3, t4, tt⟩ := id hT
  have hsrc := tt (a * 8 + k) (by omega)
  have edry : dryB T R (a * 8 + k) = dryB T' R' (a * 8 + k) := by
    by_cases c : T 9 (a * 8 + k) = 0
    · rw [dry_1 c, dry_1 (hsrc.1.mp c)]
    · obtain ⟨q7, _, _⟩ := rt _ (by omega) c
      simp only [dryB, eqB_f c, eqB_f (fun z => c (hsrc.1.mpr z)), q7, (hsrc.2 c).1]
  by_cases hdry : dryB T R (a * 8 + k) = true
  · rw [st_dry hdry, st_dry (edry.symm.trans hdry)]
    exact ⟨rfl, fun h => by cases h⟩
  · have hdry : dryB T R (a * 8 + k) = false := by simpa using hdry
    have hst : ¬ T 9 (a * 8 + k) = 0 := by
      intro z
      rw [dry_1 z] at hdry
      cases hdry
    -- the sink's tank is one that is there
    have hsb : ∀ t, sinkS T R d (hi - 1) = some t → t < D * 8 ∧ ¬ T 9 t = 0 := by
      intro t h
      obtain ⟨h1, h2⟩ := sk_lt h
      refine ⟨?_, h2⟩
      rcases h1 with h1 | ⟨hp, h1⟩
      · obtain ⟨x, hx, ex⟩ := inB_of (hv.2.1 (hi - 1) (by omega)) (by decide)
        rw [ex, tn_nI (by omega)] at h1
        omega
      · obtain ⟨x, hx, ex⟩ := inB_of (hv.2.2.1 (hi - 1) (by omega) hp) (by decide)
        rw [ex, tn_nI (by omega)] at h1
        omega
    have efull : fullB T R (sinkS T R d (hi - 1)) = fullB T' R' (sinkS T' R' d (hi - 1)) := by
      rw [← hsk]
      rcases opt_cases (sinkS T R d (hi - 1)) with e | ⟨t, e⟩
      · rw [e]; rfl
      · obtain ⟨h1, h2⟩ := hsb t e
        obtain ⟨q7, _, _⟩ := rt t h1 h2
        rw [e]
        simp only [fullB, q7, ((tt t h1).2 h2).2]
    by_cases hfull : fullB T R (sinkS T R d (hi - 1)) = true
    · rw [st_full hdry hfull, st_full (edry.symm.trans hdry) (efull.symm.trans hfull)]
      exact ⟨rfl, fun h => by cases h⟩
    · have hfull : fullB T R (sinkS T R d (hi - 1)) = false := by simpa using hfull
      have m2 : FA n (movF lo hi (nI bn) (R 2)) (movF lo hi (nI bn) (R' 2)) := mov_cg r2 hl
      have hkm : Kin (movF lo hi (nI k) (R 3)) n := kin_mov hv.2.1 hk8 hl
      have hmix : PA n (mfC (T 3) (movF lo hi (nI bn) (R 2)) lo hi (movF lo hi (nI k) (R 3), movF lo hi (-1) (R 4), movF lo hi (nI 0) (R 5))) (mfC (T' 3) (movF lo hi (nI bn) (R' 2)) lo hi (movF lo hi (nI k) (R' 3), movF lo hi (-1) (R' 4), movF lo hi (nI 0) (R' 5))) :=
        mixC_cg t3 m2 hh (hi - lo) none _ _ ⟨mov_cg r3 hl, mov_cg r4 hl, mov_cg r5 hl⟩ hkm (by omega) (fun f hf => by cases hf)
      have hkg : Kin (goR mfC T lo hi (a * 8 + k) d k bn R 3) n := kin_go hv.2.1 hk8 hl hh
      have g3 : FA n (goR mfC T lo hi (a * 8 + k) d k bn R 3) (goR mfC T' lo hi (a * 8 + k) d k bn R' 3) := hmix.1
      have g4 : FA n (goR mfC T lo hi (a * 8 + k) d k bn R 4) (goR mfC T' lo hi (a * 8 + k) d k bn R' 4) := hmix.2.1
      have ewr : wrongB T (goR mfC T lo hi (a * 8 + k) d k bn R) n lo hi = wrongB T' (goR mfC T' lo hi (a * 8 + k) d k bn R') n lo hi := by
        unfold wrongB
        rw [clash_cg t2 g3 g4 hkg (by omega), clash_cg t2 g3 g4 hkg (by omega)]
      rw [st_go hdry hfull, st_go (edry.symm.trans hdry) (efull.symm.trans hfull), ← ewr]
      refine ⟨rfl, fun _ => ⟨⟨m2, hmix.1, hmix.2.1, hmix.2.2⟩, ?_, ?_, ?_⟩⟩
      · intro t ht h9
        have o7 : ∀ t, t < D * 8 → ¬ T 9 t = 0 → outAm (sinkS T R d (hi - 1)) (R 7) t = outAm (sinkS T' R' d (hi - 1)) (R' 7) t := by
          intro t ht h9
          rw [← hsk]
          rcases opt_cases (sinkS T R d (hi - 1)) with e | ⟨u, e⟩
          · rw [e]; exact (rt t ht h9).1
          · rw [e]
            show upd _ _ _ _ = upd _ _ _ _
            by_cases c : t = u
            · subst c; rw [pk_us, pk_us, (rt t ht h9).1]
            · rw [pk_un c, pk_un c, (rt t ht h9).1]
        have o9 : outAm (sinkS T R d (hi - 1)) (R 9) t = outAm (sinkS T' R' d (hi - 1)) (R' 9) t := by
          rw [← hsk]
          rcases opt_cases (sinkS T R d (hi - 1)) with e | ⟨u, e⟩
          · rw [e]; exact (rt t ht h9).2.2
          · rw [e]
            show upd _ _ _ _ = upd _ _ _ _
            by_cases c : t = u
            · subst c; rw [pk_us, pk_us, (rt t ht h9).2.2]
            · rw [pk_un c, pk_un c, (rt t ht h9).2.2]
        have o8 : ∀ t, t < D * 8 → ¬ T 9 t = 0 → outFr (sinkS T R d (hi - 1)) (pureB (R 4) (hi - 1)) (R 8) t = outFr (sinkS T' R' d (hi - 1)) (pureB (R' 4) (hi - 1)) (R' 8) t := by
          intro t ht h9
          rw [← hsk, pure_cg (r4 (hi - 1) (by omega))]
          rcases opt_cases (sinkS T R d (hi - 1)) with e | ⟨u, e⟩
          · rw [e]; exact (rt t ht h9).2.1
          · rw [e]
            simp only [outFr]
            split
            · exact (rt t ht h9).2.1
            · by_cases c : t = u
              · subst c; rw [pk_us, pk_us, (rt t ht h9).2.1]
              · rw [pk_un c, pk_un c, (rt t ht h9).2.1]
        refine ⟨?_, ?_, o9⟩
        · show upd (outAm (sinkS T R d (hi - 1)) (R 7)) (a * 8 + k) _ t = upd (outAm (sinkS T' R' d (hi - 1)) (R' 7)) (a * 8 + k) _ t
          by_cases c : t = a * 8 + k
          · subst c
            rw [pk_us, pk_us]
            show outAm (sinkS T R d (hi - 1)) (R 7) (a * 8 + k) - nI 1 = outAm (sinkS T' R' d (hi - 1)) (R' 7) (a * 8 + k) - nI 1
            rw [o7 _ ht h9]
          · rw [pk_un c, pk_un c]; exact o7 t ht h9
        · show upd (outFr (sinkS T R d (hi - 1)) (pureB (R 4) (hi - 1)) (R 8)) (a * 8 + k) (if outAm (sinkS T R d (hi - 1)) (R 7) (a * 8 + k) - nI 1 < outFr (sinkS T R d (hi - 1)) (pureB (R 4) (hi - 1)) (R 8) (a * 8 + k) then outAm (sinkS T R d (hi - 1)) (R 7) (a * 8 + k) - nI 1 else outFr (sinkS T R d (hi - 1)) (pureB (R 4) (hi - 1)) (R 8) (a * 8 + k)) t = upd (outFr (sinkS T' R' d (hi - 1)) (pureB (R' 4) (hi - 1)) (R' 8)) (a * 8 + k) (if outAm (sinkS T' R' d (hi - 1)) (R' 7) (a * 8 + k) - nI 1 < outFr (sinkS T' R' d (hi - 1)) (pureB (R' 4) (hi - 1)) (R' 8) (a * 8 + k) then outAm (sinkS T' R' d (hi - 1)) (R' 7) (a * 8 + k) - nI 1 else outFr (sinkS T' R' d (hi - 1)) (pureB (R' 4) (hi - 1)) (R' 8) (a * 8 + k)) t
          by_cases c : t = a * 8 + k
          · subst c
            rw [pk_us, pk_us, o7 _ ht h9, o8 _ ht h9]
          · rw [pk_un c, pk_un c]; exact o8 t ht h9
      · intro e he
        show outSl (sinkS T R d (hi - 1)) d (R 10) e = outSl (sinkS T' R' d (hi - 1)) d (R' 10) e
        rw [← hsk]
        rcases opt_cases (sinkS T R d (hi - 1)) with h | ⟨u, h⟩
        · rw [h]
          exact FA.upd rs (by rw [rs d hd]) e he
        · rw [h]; exact rs e he
      · intro b hb
        show outWo (R 11) (tn (R 2 (hi - 1))) b = outWo (R' 11) (tn (R' 2 (hi - 1))) b
        obtain ⟨x, hx, ex⟩ := inB_of (hv.1 (hi - 1) (by omega)) hbx
        have e1 : tn (R 2 (hi - 1)) = x := by rw [ex]; exact tn_nI (by omega)
        have e2 : tn (R' 2 (hi - 1)) = x := by rw [← r2 (hi - 1) (by omega)]; exact e1
        rw [e1, e2]
        exact FA.upd rwo (by rw [rwo x hx]) b hb
