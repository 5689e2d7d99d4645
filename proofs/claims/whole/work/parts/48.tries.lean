/-- the reference's moment as a push begins; its tables do not change -/
def tryR (M : Mem) (bn : Nat) : Mem := fun r => if r = 11 then upd (M 41) bn (nI 0) else if r = 0 then (fun j => if j = 0 then M 34 24 else if j = 1 then M 34 25 else nI (bn + 1)) else modR M r
theorem tryR_of {M M1 : Mem} {bn : Nat} (h41 : M1 41 = upd (M 41) bn (nI 0)) (h24 : M1 34 24 = M 34 24) (h25 : M1 34 25 = M 34 25) (h6 : M1 34 6 = nI (bn + 1)) (hf : ∀ k, k = 35 ∨ k = 36 ∨ k = 37 ∨ k = 38 ∨ k = 48 ∨ k = 49 ∨ k = 50 ∨ k = 44 ∨ k = 59 → M1 k = M k) : modR M1 = tryR M bn := by
  funext r
  unfold tryR
  by_cases h11 : r = 11
  · subst h11; exact h41
  · rw [if_neg h11]
    by_cases h0 : r = 0
    · subst h0
      funext j
      show M1 34 (if j = 0 then 24 else if j = 1 then 25 else 6) = _
      rw [if_pos rfl]
      by_cases j0 : j = 0
      · rw [if_pos j0, if_pos j0]; exact h24
      · rw [if_neg j0, if_neg j0]
        by_cases j1 : j = 1
        · rw [if_pos j1, if_pos j1]; exact h25
        · rw [if_neg j1, if_neg j1]; exact h6
    · rw [if_neg h0]
      unfold modR
      rw [hf 35 (by omega), hf 36 (by omega), hf 37 (by omega), hf 38 (by omega), hf 48 (by omega), hf 49 (by omega), hf 50 (by omega), hf 44 (by omega), hf 59 (by omega), if_neg h11, if_neg h11, if_neg h0, if_neg h0]
theorem modT_of {M M1 : Mem} (h : ∀ k, k = 45 ∨ k = 46 ∨ k = 47 ∨ k = 51 ∨ k = 52 ∨ k = 53 → M1 k = M k) : modT M1 = modT M := by
  funext r
  unfold modT
  rw [h 45 (by omega), h 46 (by omega), h 47 (by omega), h 51 (by omega), h 52 (by omega), h 53 (by omega)]
theorem go_other {mf : (Nat → Int32) → (Nat → Int32) → Nat → Nat → Pst → Pst} {T R : Mem} {lo hi src d k bn r : Nat} (h : ¬ (2 ≤ r ∧ r ≤ 11 ∧ r ≠ 6)) : goR mf T lo hi src d k bn R r = R r := by
  unfold goR mixR
  rw [if_neg (by omega), if_neg (by omega), if_neg (by omega)]
  unfold takR
  rw [if_neg (by omega), if_neg (by omega)]
  unfold movR
  rw [if_neg (by omega), if_neg (by omega), if_neg (by omega), if_neg (by omega)]
  unfold outR
  rw [if_neg (by omega), if_neg (by omega), if_neg (by omega), if_neg (by omega), if_neg (by omega)]
theorem modR_other {M M1 : Mem} {r : Nat} (h : ¬ (2 ≤ r ∧ r ≤ 11 ∧ r ≠ 6)) (h34 : M1 34 = M 34) (h59 : M1 59 = M 59) : modR M1 r = modR M r := by
  unfold modR
  rw [h34, h59, if_neg (show ¬ r = 2 by omega), if_neg (show ¬ r = 2 by omega), if_neg (show ¬ r = 3 by omega), if_neg (show ¬ r = 3 by omega), if_neg (show ¬ r = 4 by omega), if_neg (show ¬ r = 4 by omega), if_neg (show ¬ r = 5 by omega), if_neg (show ¬ r = 5 by omega), if_neg (show ¬ r = 7 by omega), if_neg (show ¬ r = 7 by omega), if_neg (show ¬ r = 8 by omega), if_neg (show ¬ r = 8 by omega), if_neg (show ¬ r = 9 by omega), if_neg (show ¬ r = 9 by omega), if_neg (show ¬ r = 10 by omega), if_neg (show ¬ r = 10 by omega), if_neg (show ¬ r = 11 by omega), if_neg (show ¬ r = 11 by omega)]
def tryF (M : Mem) (bn n lo hi a b k cc : Nat) : Nat × Mem := flowS mfM (modT M) lo hi (a * 8 + k) b k bn n cc (tryR M bn)
/-- what a try leaves behind in either case -/
def tryC (P n bn : Nat) (u x : Int32) (M M1 : Mem) : Prop := (∀ q, q < 4 * n + 373 → M1 60 (900 * P + q) = pgF n (modR M) q) ∧ (∀ q, (q < 900 * P ∨ 900 * P + (4 * n + 373) ≤ q) → M1 60 q = M 60 q) ∧ M1 39 = upd (M 39) bn u ∧ M1 40 = upd (M 40) bn x ∧ (∀ j, j ≠ 34 → j ≠ 24 → j ≠ 25 → j ≠ 6 → M1 34 j = M 34 j) ∧ (∀ k, k ≠ 34 ∧ k ≠ 35 ∧ k ≠ 36 ∧ k ≠ 37 ∧ k ≠ 38 ∧ k ≠ 39 ∧ k ≠ 40 ∧ k ≠ 41 ∧ k ≠ 44 ∧ k ≠ 48 ∧ k ≠ 49 ∧ k ≠ 50 ∧ k ≠ 59 ∧ k ≠ 60 → M1 k = M k)
def tryNo (n : Nat) (M M1 : Mem) : Prop := ∀ q, q < 4 * n + 373 → pgF n (modR M1) q = pgF n (modR M) q
def tryOk (bn t Wn h : Nat) (F : Mem) (M M1 : Mem) : Prop := (∀ r, 2 ≤ r → r ≤ 11 → r ≠ 6 → modR M1 r = F r) ∧ M1 34 24 = nI (t + h) ∧ M1 34 25 = passC (M 54) t (M 34 25) h ∧ M1 34 6 = nI (bn + 1) ∧ M1 59 = keepF (M 59) (waM M1) (nI (t + h)) Wn

theorem step_z {a : Nat} (h : a ≤ 3) (c : nI a ≤ 0) : a = 0 := by
  rcases (show a = 0 ∨ a = 1 ∨ a = 2 ∨ a = 3 by omega) with rfl | rfl | rfl | rfl
  · rfl
  · exact absurd c (by decide)
  · exact absurd c (by decide)
  · exact absurd c (by decide)

set_option maxHeartbeats 4000000 in
set_option maxRecDepth 100000 in
theorem try2 {p : Program} {l : Launch} {e : Env} {s : State} {m : MethodId} {A : Array Value} {below : List Frame} {meth : Method} {c : Code} {H : Heap} {locs : List Loc} {ls : Array Slot} {G : GT} {N K : Nat} {ad : Nat → Nat} {M : Mem} (S : CallFix p m c cX8_tries 7 s A TB yX8_tries.cls) (hr : meth.sig.returnType = some .int) (hlocks : meth.locks = false) (hw : Wd G N K ad M s H locs) (h61 : 61 ≤ N) (n : Nat) (hn : M 34 1 = nI n) (hn1 : n ≤ 120) (bn : Nat) (hbn : M 34 6 = nI bn) (hbn1 : bn < 200) (P : Nat) (hP : M 34 33 = nI P) (hP1 : P < 200) (lo hi a b k cc : Nat) (hlo : lo < hi) (hhi : hi ≤ n) (ha6 : a < 6) (hb6 : b < 6) (hk8 : k < 8) (hcc : cc ≤ 60) (e42a : M 42 a = nI lo) (e42b : M 42 b = nI hi) (r1 r2 : Nat) (h1 : M 43 a = nI r1) (h1a : 1 ≤ r1) (h1b : r1 ≤ 60) (h2 : M 43 b = nI r2) (h2a : 1 ≤ r2) (h2b : r2 ≤ 60) (hvr : VR n bn (modR M)) (t : Nat) (ht : M 34 24 = nI t) (ht30 : t < 2 ^ 30) (Wn : Nat) (hWn : M 34 26 = nI Wn) (hW20 : Wn ≤ 20) (hwt : ∀ w, w < Wn → inB (M 55 w) 48 = true) (hl : lv_has ls 7 [(0, .ref (ad 34)), (1, .int (nI a)), (2, .int (nI b)), (3, .int (nI k)), (4, .int (nI cc))]) {post : Int32 → Mem → Prop} (hpost : ∀ r M1, tryC P n bn (nI k) (nI a) M M1 ∧ ((¬ (tryF M bn n lo hi a b k cc).1 = 0 ∧ r = -10 - nI (tryF M bn n lo hi a b k cc).1 ∧ tryNo n M M1) ∨ ((tryF M bn n lo hi a b k cc).1 = 0 ∧ r = nI bn ∧ tryOk bn t Wn (hrS r1 r2 cc) (tryF M bn n lo hi a b k cc).2 M M1)) → post r M1) :
    W p l e { frames := 5, cells := 0, slots := 0, locals := 123 } s m A below meth c H locs 0 0 (QmI G N K ad post below A s) (F0 m 67 ls []) := by
  have loop : ∀ (n' : Nat) (i : Nat), i + n' = cc → ∀ (M2 : Mem) (H : Heap) (locs : List Loc) (ls : Array Slot), (tryC P n bn (nI k) (nI a) M M2 ∧ M2 34 6 = nI (bn + 1) ∧ M2 34 24 = nI t ∧ M2 34 25 = M 34 25 ∧ M2 59 = M 59 ∧ (tryF M bn n lo hi a b k cc) = flowS mfM (modT M) lo hi (a * 8 + k) b k bn n n' (modR M2) ∧ VR n (bn + 1) (modR M2) ∧ VK n bn k (modR M2)) → Wd G N K ad M2 s H locs → lv_has ls 7 [(0, .ref (ad 34)), (1, .int (nI a)), (2, .int (nI b)), (3, .int (nI k)), (4, .int (nI cc)), (5, .int (nI i))] → W p l e { frames := 5, cells := 0, slots := 0, locals := 123 } s m A below meth c H locs 0 0 (QmI G N K ad post below A s) (F0 m 114 ls []) := by
    intro n'
    induction n' with
    | zero =>
      intro i hix M2 H locs ls hv hw hl
      obtain ⟨⟨c60, c60o, c39, c40, cfl, cfr⟩, i6, i24, i25, i59, ifl, ivr, ivk⟩ := hv
      have hT : modT M2 = modT M := modT_of (fun k hk => cfr k (by omega))
      refine lv_iload S.1 S.2.1 dX8_tries_114 (lv_at hl 5 rfl) ?_
      refine lv_iload S.1 S.2.1 dX8_tries_116 (lv_at hl 4 rfl) ?_
      refine n_ge (tgt := 151) S (by omega) (by omega) dX8_tries_118 (by decide) (fun c21 => ?_) (fun c21 => absurd c21 (by omega))
      refine lv_aload_n S.1 S.2.1 dX8_tries_151 rfl (lv_at hl 0 rfl) ?_
      refine lv_iload_n S.1 S.2.1 dX8_tries_152 rfl (lv_at hl 1 rfl) ?_
      refine lv_iload_n S.1 S.2.1 dX8_tries_153 rfl (lv_at hl 2 rfl) ?_
      refine lv_iload S.1 S.2.1 dX8_tries_154 (lv_at hl 4 rfl) ?_
      refine m_VV (As := [.int (nI a), .int (nI b), .int (nI cc)]) (rest := []) 34 S hw (by omega) rfl rfl (c_X8_ends l G N K ad M2 h61 a b cc r1 r2 (by omega) (by omega) hcc ((congrFun (cfr 43 (by omega)) a).trans h1) h1a h1b ((congrFun (cfr 43 (by omega)) b).trans h2) h2a h2b t i24 ht30 Wn ((cfl 26 (by decide) (by decide) (by decide) (by decide)).trans hWn) hW20 (by rw [cfr 55 (by omega)]; exact hwt)) mf_X8_ends wm_X8_182 ⟨by decide, by decide⟩ ⟨Nat.le_refl _, Nat.le_refl _⟩ hl.1 rfl (Nat.le_of_ble_eq_true rfl) dX8_tries_156 (fun M22 H locs hp22 hw => ?_)
      obtain ⟨z24, z25, zfl, z59, zfr⟩ := hp22
      have z6 : M22 34 6 = nI (bn + 1) := (zfl 6 (by decide) (by decide)).trans i6
      refine lv_aload_n S.1 S.2.1 dX8_tries_159 rfl (lv_at hl 0 rfl) ?_
      refine m_getI 34 6 S hw (by omega) rfl rfl rfl in_X8 (by decide) wf_X8_29 dX8_tries_160 ?_
      refine m_top (show M22 34 6 = nI (bn + 1) from z6) ?_
      refine lv_iconst (v := nI 1) S.1 S.2.1 dX8_tries_163 (by decide) ?_
      refine lv_isub S.1 S.2.1 dX8_tries_164 ?_
      refine m_top (show (nI (bn + 1)) - (nI 1) = nI bn from nI_pred _) ?_
      have hz : (tryF M bn n lo hi a b k cc).1 = 0 := by rw [ifl]; rfl
      have hwa : waM M22 = waM M2 := by funext w; unfold waM; rw [zfr 56 (by omega), zfr 50 (by omega), zfr 55 (by omega), zfr 58 (by omega)]
      have hrw : ∀ r, 2 ≤ r → r ≤ 11 → r ≠ 6 → modR M22 r = (tryF M bn n lo hi a b k cc).2 r := by
        intro r q1 q2 q3
        rw [ifl]
        show modR M22 r = modR M2 r
        unfold modR
        rw [zfr 35 (by omega), zfr 36 (by omega), zfr 37 (by omega), zfr 38 (by omega), zfr 48 (by omega), zfr 49 (by omega), zfr 50 (by omega), zfr 44 (by omega), zfr 41 (by omega)]
        rcases (show r = 2 ∨ r = 3 ∨ r = 4 ∨ r = 5 ∨ r = 7 ∨ r = 8 ∨ r = 9 ∨ r = 10 ∨ r = 11 by omega) with rfl | rfl | rfl | rfl | rfl | rfl | rfl | rfl | rfl <;> rfl
      have hC : tryC P n bn (nI k) (nI a) M M22 := ⟨fun q hq => (congrFun (zfr 60 (by omega)) _).trans (c60 q hq), fun q hq => (congrFun (zfr 60 (by omega)) _).trans (c60o q hq), (zfr 39 (by omega)).trans c39, (zfr 40 (by omega)).trans c40, fun j q1 q2 q3 q4 => (zfl j q2 q3).trans (cfl j q1 q2 q3 q4), fun k hk => (zfr k (by omega)).trans (cfr k hk)⟩
      exact m_reti S hr hlocks hw dX8_tries_165 (hpost _ _ ⟨hC, Or.inr ⟨hz, rfl, hrw, z24, z25.trans (by rw [i25, cfr 54 (by omega)]), z6, z59.trans (by rw [i59, hwa])⟩⟩)
    | succ n' ih =>
      intro i hix M2 H locs ls hv hw hl
      obtain ⟨⟨c60, c60o, c39, c40, cfl, cfr⟩, i6, i24, i25, i59, ifl, ivr, ivk⟩ := hv
      have hT : modT M2 = modT M := modT_of (fun k hk => cfr k (by omega))
      have hss := step_same (T := modT M) (src := a * 8 + k) (d := b) ivr ivk (Nat.lt_succ_self bn) (by omega) hlo hhi hk8
      have hn2 : M2 34 1 = nI n := (cfl 1 (by decide) (by decide) (by decide) (by decide)).trans hn
      refine lv_iload S.1 S.2.1 dX8_tries_114 (lv_at hl 5 rfl) ?_
      refine lv_iload S.1 S.2.1 dX8_tries_116 (lv_at hl 4 rfl) ?_
      refine n_ge (tgt := 151) S (by omega) (by omega) dX8_tries_118 (by decide) (fun c21 => absurd c21 (by omega)) (fun c21 => ?_)
      refine lv_aload_n S.1 S.2.1 dX8_tries_121 rfl (lv_at hl 0 rfl) ?_
      refine lv_iload_n S.1 S.2.1 dX8_tries_122 rfl (lv_at hl 1 rfl) ?_
      refine lv_iload_n S.1 S.2.1 dX8_tries_123 rfl (lv_at hl 2 rfl) ?_
      refine lv_iload_n S.1 S.2.1 dX8_tries_124 rfl (lv_at hl 3 rfl) ?_
      refine m_VI (As := [.int (nI a), .int (nI b), .int (nI k)]) (rest := []) 34 S hw (by omega) rfl rfl (c_X8_steps l G N K ad M2 h61 n hn2 hn1 bn i6 hbn1 lo hi a b k hlo hhi (by omega) (by omega) hk8 ((congrFun (cfr 42 (by omega)) a).trans e42a) ((congrFun (cfr 42 (by omega)) b).trans e42b) (VR.mono ivr (by omega))) mf_X8_steps wm_X8_175 ⟨by decide, by decide⟩ ⟨Nat.le_refl _, Nat.le_refl _⟩ hl.1 rfl (Nat.le_of_ble_eq_true rfl) dX8_tries_125 (fun r22 M22 H locs hp22 hw => ?_)
      rw [hT] at hp22
      obtain ⟨er22, srw, sfr⟩ := hp22
      refine m_top (show r22 = nI (stepS mfM (modT M) lo hi (a * 8 + k) b k bn n (modR M2)).1 from er22) ?_
      refine lv_istore (lv' := [(6, .int (nI (stepS mfM (modT M) lo hi (a * 8 + k) b k bn n (modR M2)).1)), (0, .ref (ad 34)), (1, .int (nI a)), (2, .int (nI b)), (3, .int (nI k)), (4, .int (nI cc)), (5, .int (nI i))]) S.1 S.2.1 dX8_tries_128 hl (by decide) rfl (fun ls hl => ?_)
      refine lv_iload S.1 S.2.1 dX8_tries_130 (lv_at hl 0 rfl) ?_
      refine lv_if_le (tgt := 145) S.1 S.2.1 dX8_tries_132 (by decide) (fun c23 => ?_) (fun c23 => ?_)
      · refine lv_iinc (v := nI (i + 1)) (lv' := [(5, .int (nI (i + 1))), (6, .int (nI (stepS mfM (modT M) lo hi (a * 8 + k) b k bn n (modR M2)).1)), (0, .ref (ad 34)), (1, .int (nI a)), (2, .int (nI b)), (3, .int (nI k)), (4, .int (nI cc))]) S.1 S.2.1 dX8_tries_145 hl (k := 6) rfl (iinc1 _) (by decide) rfl (fun ls hl => ?_)
        refine lv_goto (tgt := 114) S.1 S.2.1 dX8_tries_148 (by decide) ?_
        have hz : (stepS mfM (modT M) lo hi (a * 8 + k) b k bn n (modR M2)).1 = 0 := step_z step_le c23
        have s34 : M22 34 = M2 34 := sfr 34 (by omega)
        have hall : modR M22 = (stepS mfM (modT M) lo hi (a * 8 + k) b k bn n (modR M2)).2 := by
          funext r
          by_cases hr2 : 2 ≤ r ∧ r ≤ 11 ∧ r ≠ 6
          · exact srw hz r hr2.1 hr2.2.1 hr2.2.2
          · rw [step_0 hz, go_other hr2]; exact modR_other hr2 s34 (sfr 59 (by omega))
        have hv3 := hss.2 (by rw [hss.1]; exact hz)
        rw [hss.1, ← hall] at hv3
        exact ih (i + 1) (by omega) _ _ _ ls ⟨⟨fun q hq => (congrFun (sfr 60 (by omega)) _).trans (c60 q hq), fun q hq => (congrFun (sfr 60 (by omega)) _).trans (c60o q hq), (sfr 39 (by omega)).trans c39, (sfr 40 (by omega)).trans c40, fun j q1 q2 q3 q4 => (congrFun s34 j).trans (cfl j q1 q2 q3 q4), fun k hk => (sfr k (by omega)).trans (cfr k hk)⟩, (congrFun s34 6).trans i6, (congrFun s34 24).trans i24, (congrFun s34 25).trans i25, (sfr 59 (by omega)).trans i59, by rw [ifl, hall]; exact if_pos hz, hv3.1, hv3.2⟩ hw (lv_sub hl [2, 3, 4, 5, 6, 0] rfl)
      · refine lv_aload_n S.1 S.2.1 dX8_tries_135 rfl (lv_at hl 1 rfl) ?_
        have s34 : M22 34 = M2 34 := sfr 34 (by omega)
        have hn3 : M22 34 1 = nI n := by rw [s34]; exact hn2
        have hP3 : M22 34 33 = nI P := by rw [s34]; exact (cfl 33 (by decide) (by decide) (by decide) (by decide)).trans hP
        refine m_VV (As := []) (rest := []) 34 S hw (by omega) rfl rfl (c_X8_bringBack l G N K ad M22 h61 n hn3 hn1 P hP3 hP1) mf_X8_bringBack wm_X8_179 ⟨by decide, by decide⟩ ⟨Nat.le_refl _, Nat.le_refl _⟩ hl.1 rfl (Nat.le_of_ble_eq_true rfl) dX8_tries_136 (fun M24 H locs hp24 hw => ?_)
        have bbk := hp24
        refine lv_bipush (v := (-10)) S.1 S.2.1 dX8_tries_139 (by decide) ?_
        refine lv_iload S.1 S.2.1 dX8_tries_141 (lv_at hl 0 rfl) ?_
        refine lv_isub S.1 S.2.1 dX8_tries_143 ?_
        have hnz : ¬ (stepS mfM (modT M) lo hi (a * 8 + k) b k bn n (modR M2)).1 = 0 := fun z => c23 (by rw [z]; decide)
        have hF : (tryF M bn n lo hi a b k cc) = stepS mfM (modT M) lo hi (a * 8 + k) b k bn n (modR M2) := ifl.trans (if_neg hnz)
        obtain ⟨b1, b2, b3, b4⟩ := bbk
        have hC : tryC P n bn (nI k) (nI a) M M24 := ⟨fun q hq => (congrFun ((b4 60 (by omega)).trans (sfr 60 (by omega))) _).trans (c60 q hq), fun q hq => (congrFun ((b4 60 (by omega)).trans (sfr 60 (by omega))) _).trans (c60o q hq), (b4 39 (by omega)).trans ((sfr 39 (by omega)).trans c39), (b4 40 (by omega)).trans ((sfr 40 (by omega)).trans c40), fun j q1 q2 q3 q4 => (b2 j q1 q2 q3 q4).trans ((congrFun s34 j).trans (cfl j q1 q2 q3 q4)), fun k hk => (b4 k (by omega)).trans ((sfr k (by omega)).trans (cfr k hk))⟩
        have hN : tryNo n M M24 := fun q hq => (b3 q hq).trans ((congrFun (sfr 60 (by omega)) _).trans (c60 q hq))
        exact m_reti S hr hlocks hw dX8_tries_144 (hpost _ _ ⟨hC, Or.inl ⟨by rw [hF]; exact hnz, by rw [hF], hN⟩⟩)
  refine lv_aload_n S.1 S.2.1 dX8_tries_67 rfl (lv_at hl 0 rfl) ?_
  refine m_VV (As := []) (rest := []) 34 S hw (by omega) rfl rfl (c_X8_writeDown l G N K ad M h61 n hn hn1 P hP hP1) mf_X8_writeDown wm_X8_172 ⟨by decide, by decide⟩ ⟨Nat.le_refl _, Nat.le_refl _⟩ hl.1 rfl (Nat.le_of_ble_eq_true rfl) dX8_tries_68 (fun M1 H locs hp1 hw => ?_)
  obtain ⟨d34, dfl, d60, d60o, dfr⟩ := hp1
  have d6 : M1 34 6 = nI bn := (dfl 6 (by decide)).trans hbn
  refine lv_aload_n S.1 S.2.1 dX8_tries_71 rfl (lv_at hl 0 rfl) ?_
  refine m_getR 34 7 39 S hw (by omega) rfl rfl rfl in_X8 (by decide) wf_X8_32 dX8_tries_72 ?_
  refine lv_aload_n S.1 S.2.1 dX8_tries_75 rfl (lv_at hl 0 rfl) ?_
  refine m_getI 34 6 S hw (by omega) rfl rfl rfl in_X8 (by decide) wf_X8_29 dX8_tries_76 ?_
  refine m_top (show M1 34 6 = nI bn from d6) ?_
  refine lv_iload_n S.1 S.2.1 dX8_tries_79 rfl (lv_at hl 3 rfl) ?_
  refine n_ast 39 bn S hw (by omega) rfl (by decide) (by omega) rfl dX8_tries_80 (fun M2 H locs eM2 hw => ?_)
  refine lv_aload_n S.1 S.2.1 dX8_tries_81 rfl (lv_at hl 0 rfl) ?_
  refine m_getR 34 8 40 S hw (by omega) rfl rfl rfl in_X8 (by decide) wf_X8_35 dX8_tries_82 ?_
  refine lv_aload_n S.1 S.2.1 dX8_tries_85 rfl (lv_at hl 0 rfl) ?_
  refine m_getI 34 6 S hw (by omega) rfl rfl rfl in_X8 (by decide) wf_X8_29 dX8_tries_86 ?_
  have hq3 : M2 34 = M1 34 := by rw [eM2, va_up_ne _ _ (by omega)]
  refine m_top (show M2 34 6 = M1 34 6 from congrFun hq3 6) ?_
  refine m_top (show M1 34 6 = nI bn from d6) ?_
  refine lv_iload_n S.1 S.2.1 dX8_tries_89 rfl (lv_at hl 1 rfl) ?_
  refine n_ast 40 bn S hw (by omega) rfl (by decide) (by omega) rfl dX8_tries_90 (fun M4 H locs eM4 hw => ?_)
  refine lv_aload_n S.1 S.2.1 dX8_tries_91 rfl (lv_at hl 0 rfl) ?_
  refine m_getR 34 9 41 S hw (by omega) rfl rfl rfl in_X8 (by decide) wf_X8_38 dX8_tries_92 ?_
  refine lv_aload_n S.1 S.2.1 dX8_tries_95 rfl (lv_at hl 0 rfl) ?_
  refine m_getI 34 6 S hw (by omega) rfl rfl rfl in_X8 (by decide) wf_X8_29 dX8_tries_96 ?_
  have hq5 : M4 34 = M1 34 := by rw [eM4, va_up_ne _ _ (by omega), hq3]
  refine m_top (show M4 34 6 = M1 34 6 from congrFun hq5 6) ?_
  refine m_top (show M1 34 6 = nI bn from d6) ?_
  refine lv_iconst (v := nI 0) S.1 S.2.1 dX8_tries_99 (by decide) ?_
  refine n_ast 41 bn S hw (by omega) rfl (by decide) (by omega) rfl dX8_tries_100 (fun M6 H locs eM6 hw => ?_)
  refine lv_aload_n S.1 S.2.1 dX8_tries_101 rfl (lv_at hl 0 rfl) ?_
  refine lv_dup S.1 S.2.1 dX8_tries_102 rfl ?_
  refine m_getI 34 6 S hw (by omega) rfl rfl rfl in_X8 (by decide) wf_X8_29 dX8_tries_103 ?_
  have hq7 : M6 34 = M1 34 := by rw [eM6, va_up_ne _ _ (by omega), hq5]
  refine m_top (show M6 34 6 = M1 34 6 from congrFun hq7 6) ?_
  refine m_top (show M1 34 6 = nI bn from d6) ?_
  refine lv_iconst (v := nI 1) S.1 S.2.1 dX8_tries_106 (by decide) ?_
  refine lv_iadd S.1 S.2.1 dX8_tries_107 ?_
  refine m_top (show (nI bn) + (nI 1) = nI (bn + 1) from nI_add _ _) ?_
  refine n_putI 34 6 S hw (by omega) rfl rfl rfl in_X8 tyX8_ok nmX8 (by decide) rfl rfl wf_X8_29 dX8_tries_108 (fun M8 H locs eM8 hw => ?_)
  refine lv_iconst (v := nI 0) S.1 S.2.1 dX8_tries_111 (by decide) ?_
  refine lv_istore (lv' := [(5, .int (nI 0)), (0, .ref (ad 34)), (1, .int (nI a)), (2, .int (nI b)), (3, .int (nI k)), (4, .int (nI cc))]) S.1 S.2.1 dX8_tries_112 hl (by decide) rfl (fun ls hl => ?_)
  have hq9 : M8 34 = upd (M1 34) 6 (nI (bn + 1)) := by rw [eM8, va_up_self, hq7]
  have hq10 : M2 39 = upd (M1 39) bn (nI k) := by rw [eM2, va_up_self]
  have hq11 : M4 39 = upd (M1 39) bn (nI k) := by rw [eM4, va_up_ne _ _ (by omega), hq10]
  have hq12 : M6 39 = upd (M1 39) bn (nI k) := by rw [eM6, va_up_ne _ _ (by omega), hq11]
  have hq13 : M8 39 = upd (M1 39) bn (nI k) := by rw [eM8, va_up_ne _ _ (by omega), hq12]
  have hq14 : M2 40 = M1 40 := by rw [eM2, va_up_ne _ _ (by omega)]
  have hq15 : M4 40 = upd (M1 40) bn (nI a) := by rw [eM4, va_up_self, hq14]
  have hq16 : M6 40 = upd (M1 40) bn (nI a) := by rw [eM6, va_up_ne _ _ (by omega), hq15]
  have hq17 : M8 40 = upd (M1 40) bn (nI a) := by rw [eM8, va_up_ne _ _ (by omega), hq16]
  have hq18 : M2 41 = M1 41 := by rw [eM2, va_up_ne _ _ (by omega)]
  have hq19 : M4 41 = M1 41 := by rw [eM4, va_up_ne _ _ (by omega), hq18]
  have hq20 : M6 41 = upd (M1 41) bn (nI 0) := by rw [eM6, va_up_self, hq19]
  have hq21 : M8 41 = upd (M1 41) bn (nI 0) := by rw [eM8, va_up_ne _ _ (by omega), hq20]
  have hq22 : M2 60 = M1 60 := by rw [eM2, va_up_ne _ _ (by omega)]
  have hq23 : M4 60 = M1 60 := by rw [eM4, va_up_ne _ _ (by omega), hq22]
  have hq24 : M6 60 = M1 60 := by rw [eM6, va_up_ne _ _ (by omega), hq23]
  have hq25 : M8 60 = M1 60 := by rw [eM8, va_up_ne _ _ (by omega), hq24]
  have hq26 : M2 59 = M1 59 := by rw [eM2, va_up_ne _ _ (by omega)]
  have hq27 : M4 59 = M1 59 := by rw [eM4, va_up_ne _ _ (by omega), hq26]
  have hq28 : M6 59 = M1 59 := by rw [eM6, va_up_ne _ _ (by omega), hq27]
  have hq29 : M8 59 = M1 59 := by rw [eM8, va_up_ne _ _ (by omega), hq28]
  have q34 : ∀ j, j ≠ 34 → j ≠ 6 → M8 34 j = M 34 j := fun j q1 q2 => by rw [hq9, pk_un q2]; exact dfl j q1
  have q6 : M8 34 6 = nI (bn + 1) := by rw [hq9, pk_us]
  have qfr : ∀ k, k ≠ 34 ∧ k ≠ 39 ∧ k ≠ 40 ∧ k ≠ 41 ∧ k ≠ 60 → M8 k = M k := fun k hk => ((show M8 k = M6 k by rw [eM8]; exact va_up_ne _ _ (by omega)).trans ((show M6 k = M4 k by rw [eM6]; exact va_up_ne _ _ (by omega)).trans ((show M4 k = M2 k by rw [eM4]; exact va_up_ne _ _ (by omega)).trans (show M2 k = M1 k by rw [eM2]; exact va_up_ne _ _ (by omega))))).trans (dfr k (by omega))
  have q41 : M8 41 = upd (M 41) bn (nI 0) := by rw [hq21, dfr 41 (by omega)]
  have hRe : modR M8 = tryR M bn := tryR_of q41 (q34 24 (by decide) (by decide)) (q34 25 (by decide) (by decide)) q6 (fun k hk => qfr k (by omega))
  have hvr0 : VR n bn (modR M8) := by rw [hRe]; exact hvr
  exact loop cc 0 (by omega) _ _ _ ls ⟨⟨fun q hq => (congrFun (hq25) _).trans (d60 q hq), fun q hq => (congrFun (hq25) _).trans (d60o q hq), by rw [hq13, dfr 39 (by omega)], by rw [hq17, dfr 40 (by omega)], fun j q1 q2 q3 q4 => q34 j q1 q4, fun k hk => qfr k (by omega)⟩, q6, (q34 24 (by decide) (by decide)).trans ht, q34 25 (by decide) (by decide), qfr 59 (by omega), by rw [hRe]; rfl, VR.mono hvr0 (Nat.le_succ _), VK.none hvr0 (by omega)⟩ hw (lv_sub hl [1, 2, 3, 4, 5, 0] rfl)
