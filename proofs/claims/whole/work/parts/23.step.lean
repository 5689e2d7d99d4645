/-! A STEP OF A PUSH, as a plain function. R: the rows of a moment by their places in it (2 batches, 3 kinds, 4 fore kinds, 5 gone, 7 amounts, 8 foreign, 9 came, 10 slop, 11 went out); T: 2 may, 3 mix, 4 grace, 9 tanks, 10 least, 11 most -/
def sinkS (T R : Mem) (d m : Nat) : Option Nat :=
  if pureB (R 4) m then (if eqB (T 9 (d * 8 + tn (R 3 m))) 0 then none else some (d * 8 + tn (R 3 m)))
  else if !eqB (T 9 (d * 8 + tn (R 3 m))) 0 && bearB (R 8) (R 7) (T 4 (tn (R 3 m))) (d * 8 + tn (R 3 m)) then some (d * 8 + tn (R 3 m))
  else if !eqB (T 9 (d * 8 + tn (R 4 m))) 0 && bearB (R 8) (R 7) (T 4 (tn (R 4 m))) (d * 8 + tn (R 4 m)) then some (d * 8 + tn (R 4 m))
  else none
def outAm (s : Option Nat) (am : Nat → Int32) : Nat → Int32 := match s with
  | none => am
  | some t => upd am t (am t + nI 1)
def outFr (s : Option Nat) (p : Bool) (fr : Nat → Int32) : Nat → Int32 := match s with
  | none => fr
  | some t => if p then fr else upd fr t (fr t + nI 1)
def outSl (s : Option Nat) (d : Nat) (sp : Nat → Int32) : Nat → Int32 := match s with
  | none => upd sp d (sp d + nI 1)
  | some _ => sp
def outWo (wo : Nat → Int32) (b : Nat) : Nat → Int32 := upd wo b (wo b + nI 1)
def outR (T R : Mem) (d m : Nat) : Mem := fun r => if r = 7 then outAm (sinkS T R d m) (R 7) else if r = 8 then outFr (sinkS T R d m) (pureB (R 4) m) (R 8) else if r = 9 then outAm (sinkS T R d m) (R 9) else if r = 10 then outSl (sinkS T R d m) d (R 10) else if r = 11 then outWo (R 11) (tn (R 2 m)) else R r
def movF (lo hi : Nat) (x : Int32) (f : Nat → Int32) : Nat → Int32 := upd (va_cpy f f lo (lo + 1) (hi - 1 - lo)) lo x
def movR (lo hi bn k : Nat) (R : Mem) : Mem := fun r => if r = 2 then movF lo hi (nI bn) (R 2) else if r = 3 then movF lo hi (nI k) (R 3) else if r = 4 then movF lo hi (-1) (R 4) else if r = 5 then movF lo hi (nI 0) (R 5) else R r
def takR (src : Nat) (R : Mem) : Mem := fun r => if r = 7 then upd (R 7) src (R 7 src - nI 1) else if r = 8 then upd (R 8) src (if R 7 src - nI 1 < R 8 src then R 7 src - nI 1 else R 8 src) else R r
def mixR (mf : (Nat → Int32) → (Nat → Int32) → Nat → Nat → Pst → Pst) (T : Mem) (lo hi : Nat) (R : Mem) : Mem := fun r => if r = 3 then (mf (T 3) (R 2) lo hi (R 3, R 4, R 5)).1 else if r = 4 then (mf (T 3) (R 2) lo hi (R 3, R 4, R 5)).2.1 else if r = 5 then (mf (T 3) (R 2) lo hi (R 3, R 4, R 5)).2.2 else R r
def mfC (mx b : Nat → Int32) (lo hi : Nat) (q : Pst) : Pst := (mixC mx b lo hi (hi - lo) (none, q)).2
def mfM (mx b : Nat → Int32) (lo hi : Nat) (q : Pst) : Pst := mixM mx b lo hi (hi - lo) q
def goR (mf : (Nat → Int32) → (Nat → Int32) → Nat → Nat → Pst → Pst) (T : Mem) (lo hi src d k bn : Nat) (R : Mem) : Mem := mixR mf T lo hi (takR src (movR lo hi bn k (outR T R d (hi - 1))))
def dryB (T R : Mem) (src : Nat) : Bool := eqB (T 9 src) 0 || decide (R 7 src - nI 1 < T 10 src)
def fullB (T R : Mem) (s : Option Nat) : Bool := match s with
  | none => false
  | some t => decide (T 11 t < R 7 t + nI 1)
def wrongB (T R : Mem) (n lo hi : Nat) : Bool := clashB (T 2) (R 3) (R 4) n lo || clashB (T 2) (R 3) (R 4) n (hi - 1)
def stepS (mf : (Nat → Int32) → (Nat → Int32) → Nat → Nat → Pst → Pst) (T : Mem) (lo hi src d k bn n : Nat) (R : Mem) : Nat × Mem :=
  if dryB T R src then (1, R) else if fullB T R (sinkS T R d (hi - 1)) then (2, R)
  else (if wrongB T (goR mf T lo hi src d k bn R) n lo hi then 3 else 0, goR mf T lo hi src d k bn R)
def flowS (mf : (Nat → Int32) → (Nat → Int32) → Nat → Nat → Pst → Pst) (T : Mem) (lo hi src d k bn n : Nat) : Nat → Mem → Nat × Mem
  | 0, R => (0, R)
  | c + 1, R => if (stepS mf T lo hi src d k bn n R).1 = 0 then flowS mf T lo hi src d k bn n c (stepS mf T lo hi src d k bn n R).2 else stepS mf T lo hi src d k bn n R
/-- the rows are as they should be: batches in front of bm, kinds, fore kinds of the mixed ones; pure ones of one batch are of one kind, those of batch bn of kind k -/
def VR (n bm : Nat) (R : Mem) : Prop := (∀ j, j < n → inB (R 2 j) bm = true) ∧ Kin (R 3) n ∧ (∀ j, j < n → pureB (R 4) j = false → inB (R 4 j) 8 = true) ∧ (∀ i j, i < n → j < n → pureB (R 4) i = true → pureB (R 4) j = true → R 2 i = R 2 j → R 3 i = R 3 j)
def VK (n bn k : Nat) (R : Mem) : Prop := ∀ j, j < n → pureB (R 4) j = true → R 2 j = nI bn → R 3 j = nI k
theorem kin_upd {kd : Nat → Int32} {n j : Nat} {x : Int32} (h : Kin kd n) (hx : inB x 8 = true) : Kin (upd kd j x) n := by
  intro i hi
  by_cases e : i = j
  · subst e; rw [pk_us]; exact hx
  · rw [pk_un e]; exact h i hi
theorem inB_k {k n : Nat} (h : k < n) (hn : n ≤ 2 ^ 31) : inB (nI k) n = true := by rw [inB_nI (by omega)]; exact decide_eq_true h
/-- what moves on: a place's row from the place in front of it -/
theorem mov_at {lo hi : Nat} {x : Int32} {f : Nat → Int32} (h : lo < hi) (j : Nat) : movF lo hi x f j = if j = lo then x else if lo < j ∧ j < hi then f (j - 1) else f j := by
  unfold movF
  by_cases e : j = lo
  · subst e; rw [pk_us, if_pos rfl]
  · rw [pk_un e, if_neg e]
    by_cases c : lo < j ∧ j < hi
    · rw [if_pos c, pk_cpy_in (by omega) (by omega)]
      congr 1
      omega
    · rw [if_neg c, pk_cpy_out (by omega)]
theorem kin_mov {kd : Nat → Int32} {n lo hi k : Nat} (h : Kin kd n) (hk : k < 8) (hl : lo < hi) : Kin (movF lo hi (nI k) kd) n := by
  intro j hj
  rw [mov_at hl]
  split
  · exact inB_k hk (by decide)
  · split
    · exact h _ (by omega)
    · exact h j hj
theorem kin_core {mx b : Nat → Int32} {lo hi h f n : Nat} {q : Pst} (hk : Kin q.1 n) (hh : h < n) : Kin (coreS mx b lo hi q h f).1 n := by
  obtain ⟨kd, fo, w⟩ := q
  rcases opt_cases (farS mx kd w h f).1 with e | ⟨g, e⟩
  · rw [co_n' e]; exact hk
  · by_cases c : lo ≤ g ∧ g < hi
    · rw [co_i e c]; exact kin_mo hk hh
    · rw [co_o e c]; exact hk
theorem kin_ms {mx b : Nat → Int32} {lo hi h n : Nat} {u : Option Nat × Pst} (hk : Kin u.2.1 n) (hh : h < n) : Kin (mixStep mx b lo hi h u).2.1 n := by
  obtain ⟨og, q⟩ := u
  by_cases hp : pureB q.2.1 h = true
  · rcases opt_cases og with rfl | ⟨f, rfl⟩
    · rw [ms_n hp]; exact hk
    · by_cases he : q.1 h = q.1 f
      · rw [ms_e hp he]; exact hk
      · rw [ms_c hp he]; exact kin_core hk hh
  · rw [ms_f (by simpa using hp)]; exact hk
theorem kin_mixC {mx b : Nat → Int32} {lo hi n : Nat} : ∀ (c : Nat) (u : Option Nat × Pst), Kin u.2.1 n → lo + c ≤ n → Kin (mixC mx b lo hi c u).2.1 n
  | 0, u, h, _ => h
  | c + 1, u, h, hc => kin_mixC c _ (kin_ms h (by omega)) (by omega)
theorem kin_go {T R : Mem} {lo hi src d k bn n : Nat} (hk : Kin (R 3) n) (hk8 : k < 8) (hl : lo < hi) (hh : hi ≤ n) : Kin (goR mfC T lo hi src d k bn R 3) n := by
  show Kin (mixC _ _ lo hi (hi - lo) (none, _)).2.1 n
  refine kin_mixC _ _ ?_ (by omega)
  show Kin (movF lo hi (nI k) (R 3)) n
  exact kin_mov hk hk8 hl
/-- the hours of a push: what they cost -/
def passC (pr : Nat → Int32) : Nat → Int32 → Nat → Int32
  | _, c, 0 => c
  | t, c, h + 1 => passC pr (t + 1) (c + pr (t % 24)) h
