def shF (m hi : Nat) (f : Nat → Int32) : Nat → Int32 := fun j => if m < j ∧ j < hi then f (j - 1) else f j
theorem sh_0 {m hi : Nat} {f : Nat → Int32} (h : hi ≤ m + 1) : f = shF m hi f := by
  funext j
  exact (if_neg (by omega)).symm
theorem sh_s {m hi : Nat} {f : Nat → Int32} (h : m + 1 < hi) : upd (shF (m + 1) hi f) (m + 1) (shF (m + 1) hi f m) = shF m hi f := by
  funext j
  by_cases e : j = m + 1
  · subst e
    rw [pk_us]
    unfold shF
    rw [if_neg (by omega), if_pos (by omega)]
    rfl
  · rw [pk_un e]
    unfold shF
    by_cases c : m + 1 < j ∧ j < hi
    · rw [if_pos c, if_pos (by omega)]
    · rw [if_neg c, if_neg (by omega)]
theorem sh_mov {lo hi : Nat} {x : Int32} {f : Nat → Int32} (h : lo < hi) : upd (shF lo hi f) lo x = movF lo hi x f := by
  funext j
  rw [mov_at h]
  by_cases e : j = lo
  · subst e; rw [pk_us, if_pos rfl]
  · rw [pk_un e, if_neg e]; rfl
theorem upd_id {f : Nat → Int32} {t : Nat} : upd f t (f t) = f := by
  funext j
  by_cases h : j = t
  · subst h; rw [pk_us]
  · rw [pk_un h]
theorem tak8_le {F A : Nat → Int32} {t : Nat} (h : F t ≤ A t - nI 1) : F = upd F t (if A t - nI 1 < F t then A t - nI 1 else F t) := by
  rw [if_neg (fun z => Int32.not_lt.mpr h z)]
  exact upd_id.symm
theorem tak8_gt {F A : Nat → Int32} {t : Nat} (h : ¬ F t ≤ A t - nI 1) : upd F t (A t - nI 1) = upd F t (if A t - nI 1 < F t then A t - nI 1 else F t) := by
  rw [if_pos (Int32.not_le.mp h)]
theorem pred_ltI {a : Nat} (h : a < 2 ^ 31) : nI a - nI 1 < nI a := by
  cases a with
  | zero => decide
  | succ a => rw [predN]; exact (nI_ltI (by omega) h).mpr (by omega)

set_option maxHeartbeats 4000000 in
set_option maxRecDepth 100000 in
/-- reference: steps -/
theorem c_X8_steps (l : Launch) (G : GT) (N K : Nat) (ad : Nat → Nat) (M : Mem) (h61 : 61 ≤ N) (n : Nat) (hn : M 34 1 = nI n) (hn1 : n ≤ 120) (bn : Nat) (hbn : M 34 6 = nI (bn + 1)) (hbn1 : bn < 200) (lo hi a b k : Nat) (hlo : lo < hi) (hhi : hi ≤ n) (ha6 : a < 6) (hb6 : b < 6) (hk8 : k < 8) (e42a : M 42 a = nI lo) (e42b : M 42 b = nI hi) (hvr : VR n 200 (modR M)) : CmI l G N K ad yX8_steps cX8_steps 8 .int 4 96 [.ref (ad 34), .int (nI a), .int (nI b), .int (nI k)] M (fun r M1 => r = nI (stepS mfM (modT M) lo hi (a * 8 + k) b k bn n (modR M)).1 ∧ ((stepS mfM (modT M) lo hi (a * 8 + k) b k bn n (modR M)).1 = 0 → ∀ r, 2 ≤ r → r ≤ 11 → r ≠ 6 → modR M1 r = (stepS mfM (modT M) lo hi (a * 8 + k) b k bn n (modR M)).2 r) ∧ (∀ k, k ≠ 35 ∧ k ≠ 36 ∧ k ≠ 37 ∧ k ≠ 38 ∧ k ≠ 41 ∧ k ≠ 44 ∧ k ≠ 48 ∧ k ≠ 49 ∧ k ≠ 50 → M1 k = M k)) := by
  refine cm_startI (by decide +kernel) (Nat.le_of_ble_eq_true rfl) ?_
  intro p e s m below meth c ls S hr hlocks hw hl
  have hl : lv_has ls 8 [(0, .ref (ad 34)), (1, .int (nI a)), (2, .int (nI b)), (3, .int (nI k))] := hl
  generalize hAv : List.toArray ([.ref (ad 34), .int (nI a), .int (nI b), .int (nI k)] : List Value) = A at S ⊢
  have loop2 : ∀ (n' : Nat), n' ≤ hi - lo → dryB (modT M) (modR M) (a * 8 + k) = false → fullB (modT M) (modR M) (sinkS (modT M) (modR M) b (hi - 1)) = false → ∀ (M2 : Mem) (H : Heap) (locs : List Loc) (ls : Array Slot), (M2 35 = (movF lo hi (nI bn) (M 35)) ∧ mixM (M 52) (movF lo hi (nI bn) (M 35)) lo hi (hi - lo) (movF lo hi (nI k) (M 36), movF lo hi (-1) (M 37), movF lo hi (nI 0) (M 38)) = mixM (M 52) (movF lo hi (nI bn) (M 35)) lo hi n' (M2 36, M2 37, M2 38) ∧ Qp n (M2 36, M2 37, M2 38) ∧ M2 48 = goR mfM (modT M) lo hi (a * 8 + k) b k bn (modR M) 7 ∧ M2 49 = goR mfM (modT M) lo hi (a * 8 + k) b k bn (modR M) 8 ∧ M2 50 = goR mfM (modT M) lo hi (a * 8 + k) b k bn (modR M) 9 ∧ M2 44 = goR mfM (modT M) lo hi (a * 8 + k) b k bn (modR M) 10 ∧ M2 41 = goR mfM (modT M) lo hi (a * 8 + k) b k bn (modR M) 11 ∧ (∀ k, k ≠ 35 ∧ k ≠ 36 ∧ k ≠ 37 ∧ k ≠ 38 ∧ k ≠ 41 ∧ k ≠ 44 ∧ k ≠ 48 ∧ k ≠ 49 ∧ k ≠ 50 → M2 k = M k)) → Wd G N K ad M2 s H locs → lv_has ls 8 [(0, .ref (ad 34)), (1, .int (nI a)), (2, .int (nI b)), (3, .int (nI k)), (4, .int (nI lo)), (5, .int (nI hi)), (6, .int (nI (a * 8 + k))), (7, .int (nI (lo + n') - nI 1))] → W p l e { frames := 4, cells := 0, slots := 0, locals := 96 } s m A below meth c H locs 0 0 (QmI G N K ad (fun r M1 => r = nI (stepS mfM (modT M) lo hi (a * 8 + k) b k bn n (modR M)).1 ∧ ((stepS mfM (modT M) lo hi (a * 8 + k) b k bn n (modR M)).1 = 0 → ∀ r, 2 ≤ r → r ≤ 11 → r ≠ 6 → modR M1 r = (stepS mfM (modT M) lo hi (a * 8 + k) b k bn n (modR M)).2 r) ∧ (∀ k, k ≠ 35 ∧ k ≠ 36 ∧ k ≠ 37 ∧ k ≠ 38 ∧ k ≠ 41 ∧ k ≠ 44 ∧ k ≠ 48 ∧ k ≠ 49 ∧ k ≠ 50 → M1 k = M k)) below A s) (F0 m 237 ls []) := by
    intro n'
    induction n' with
    | zero =>
      intro hn0 hdry hful M2 H locs ls hv hw hl
      obtain ⟨i35, imx, iqp, i48, i49, i50, i44, i41, ifr⟩ := hv
      have hl : lv_has ls 8 [(0, .ref (ad 34)), (1, .int (nI a)), (2, .int (nI b)), (3, .int (nI k)), (4, .int (nI lo)), (5, .int (nI hi)), (6, .int (nI (a * 8 + k))), (7, .int (nI lo - nI 1))] := hl
      have hn2 : M2 34 1 = nI n := (congrFun (ifr 34 (by omega)) 1).trans hn
      refine lv_iload S.1 S.2.1 dX8_steps_237 (lv_at hl 7 rfl) ?_
      refine lv_iload S.1 S.2.1 dX8_steps_239 (lv_at hl 4 rfl) ?_
      refine lv_icmp_lt (tgt := 260) S.1 S.2.1 dX8_steps_241 (by decide) (fun c21 => ?_) (fun c21 => absurd c21 (fun z => z (pred_ltI (by omega))))
      refine lv_aload_n S.1 S.2.1 dX8_steps_260 rfl (lv_at hl 0 rfl) ?_
      refine lv_iload S.1 S.2.1 dX8_steps_261 (lv_at hl 4 rfl) ?_
      refine r_VI (As := [.int (nI lo)]) (rest := []) 34 S hw (by omega) rfl rfl (c_X8_isWrong l G N K ad M2 h61 n hn2 hn1 iqp.1 lo (by omega)) mf_X8_isWrong wm_X8_169 ⟨by decide, by decide⟩ ⟨Nat.le_refl _, Nat.le_refl _⟩ hl.1 rfl (Nat.le_of_ble_eq_true rfl) dX8_steps_263 (fun H locs hw => ?_)
      refine b_ne (tgt := 280) S dX8_steps_266 (by decide) (fun c22 => ?_) (fun c22 => ?_)
      · refine lv_iconst (v := nI 3) S.1 S.2.1 dX8_steps_280 (by decide) ?_
        refine lv_goto (tgt := 285) S.1 S.2.1 dX8_steps_281 (by decide) ?_
        have e51 : M2 51 = M 51 := ifr 51 (by omega)
        have hg3 : M2 36 = goR mfM (modT M) lo hi (a * 8 + k) b k bn (modR M) 3 := (congrArg Prod.fst imx).symm
        have hg4 : M2 37 = goR mfM (modT M) lo hi (a * 8 + k) b k bn (modR M) 4 := (congrArg (fun q => q.2.1) imx).symm
        have hg5 : M2 38 = goR mfM (modT M) lo hi (a * 8 + k) b k bn (modR M) 5 := (congrArg (fun q => q.2.2) imx).symm
        have hrows : ∀ r, 2 ≤ r → r ≤ 11 → r ≠ 6 → modR M2 r = goR mfM (modT M) lo hi (a * 8 + k) b k bn (modR M) r := by
          intro r h1 h2 h3
          rcases (show r = 2 ∨ r = 3 ∨ r = 4 ∨ r = 5 ∨ r = 7 ∨ r = 8 ∨ r = 9 ∨ r = 10 ∨ r = 11 by omega) with rfl | rfl | rfl | rfl | rfl | rfl | rfl | rfl | rfl
          · exact i35
          · exact hg3
          · exact hg4
          · exact hg5
          · exact i48
          · exact i49
          · exact i50
          · exact i44
          · exact i41
        have hst := st_go (mf := mfM) (lo := lo) (k := k) (bn := bn) (n := n) hdry hful
        have hwr : wrongB (modT M) (goR mfM (modT M) lo hi (a * 8 + k) b k bn (modR M)) n lo hi = true := or_t1 (show clashB (modT M 2) (goR mfM (modT M) lo hi (a * 8 + k) b k bn (modR M) 3) (goR mfM (modT M) lo hi (a * 8 + k) b k bn (modR M) 4) n lo = true by rw [← hg3, ← hg4]; show clashB (fun i => b01 (eqB (M 51 i) 0)) _ _ _ _ = _; rw [← e51]; exact c22)
        have hss : stepS mfM (modT M) lo hi (a * 8 + k) b k bn n (modR M) = (3, goR mfM (modT M) lo hi (a * 8 + k) b k bn (modR M)) := by rw [hst, hwr]; rfl
        exact m_reti S hr hlocks hw dX8_steps_285 ⟨by rw [hss], (fun _ => by rw [hss]; exact hrows), ifr⟩
      · refine lv_aload_n S.1 S.2.1 dX8_steps_269 rfl (lv_at hl 0 rfl) ?_
        refine lv_iload S.1 S.2.1 dX8_steps_270 (lv_at hl 5 rfl) ?_
        refine lv_iconst (v := nI 1) S.1 S.2.1 dX8_steps_272 (by decide) ?_
        refine lv_isub S.1 S.2.1 dX8_steps_273 ?_
        refine m_top (show (nI hi) - (nI 1) = nI (hi - 1) from pk_sub (by omega)) ?_
        refine r_VI (As := [.int (nI (hi - 1))]) (rest := []) 34 S hw (by omega) rfl rfl (c_X8_isWrong l G N K ad M2 h61 n hn2 hn1 iqp.1 (hi - 1) (by omega)) mf_X8_isWrong wm_X8_169 ⟨by decide, by decide⟩ ⟨Nat.le_refl _, Nat.le_refl _⟩ hl.1 rfl (Nat.le_of_ble_eq_true rfl) dX8_steps_274 (fun H locs hw => ?_)
        refine b_eq (tgt := 284) S dX8_steps_277 (by decide) (fun c23 => ?_) (fun c23 => ?_)
        · refine lv_iconst (v := nI 0) S.1 S.2.1 dX8_steps_284 (by decide) ?_
          have e51 : M2 51 = M 51 := ifr 51 (by omega)
          have hg3 : M2 36 = goR mfM (modT M) lo hi (a * 8 + k) b k bn (modR M) 3 := (congrArg Prod.fst imx).symm
          have hg4 : M2 37 = goR mfM (modT M) lo hi (a * 8 + k) b k bn (modR M) 4 := (congrArg (fun q => q.2.1) imx).symm
          have hg5 : M2 38 = goR mfM (modT M) lo hi (a * 8 + k) b k bn (modR M) 5 := (congrArg (fun q => q.2.2) imx).symm
          have hrows : ∀ r, 2 ≤ r → r ≤ 11 → r ≠ 6 → modR M2 r = goR mfM (modT M) lo hi (a * 8 + k) b k bn (modR M) r := by
            intro r h1 h2 h3
            rcases (show r = 2 ∨ r = 3 ∨ r = 4 ∨ r = 5 ∨ r = 7 ∨ r = 8 ∨ r = 9 ∨ r = 10 ∨ r = 11 by omega) with rfl | rfl | rfl | rfl | rfl | rfl | rfl | rfl | rfl
            · exact i35
            · exact hg3
            · exact hg4
            · exact hg5
            · exact i48
            · exact i49
            · exact i50
            · exact i44
            · exact i41
          have hst := st_go (mf := mfM) (lo := lo) (k := k) (bn := bn) (n := n) hdry hful
          have hwr : wrongB (modT M) (goR mfM (modT M) lo hi (a * 8 + k) b k bn (modR M)) n lo hi = false := or_f (show clashB (modT M 2) (goR mfM (modT M) lo hi (a * 8 + k) b k bn (modR M) 3) (goR mfM (modT M) lo hi (a * 8 + k) b k bn (modR M) 4) n lo = false by rw [← hg3, ← hg4]; show clashB (fun i => b01 (eqB (M 51 i) 0)) _ _ _ _ = _; rw [← e51]; exact c22) (show clashB (modT M 2) (goR mfM (modT M) lo hi (a * 8 + k) b k bn (modR M) 3) (goR mfM (modT M) lo hi (a * 8 + k) b k bn (modR M) 4) n (hi - 1) = false by rw [← hg3, ← hg4]; show clashB (fun i => b01 (eqB (M 51 i) 0)) _ _ _ _ = _; rw [← e51]; exact c23)
          have hss : stepS mfM (modT M) lo hi (a * 8 + k) b k bn n (modR M) = (0, goR mfM (modT M) lo hi (a * 8 + k) b k bn (modR M)) := by rw [hst, hwr]; rfl
          exact m_reti S hr hlocks hw dX8_steps_285 ⟨by rw [hss], (fun _ => by rw [hss]; exact hrows), ifr⟩
        · refine lv_iconst (v := nI 3) S.1 S.2.1 dX8_steps_280 (by decide) ?_
          refine lv_goto (tgt := 285) S.1 S.2.1 dX8_steps_281 (by decide) ?_
          have e51 : M2 51 = M 51 := ifr 51 (by omega)
          have hg3 : M2 36 = goR mfM (modT M) lo hi (a * 8 + k) b k bn (modR M) 3 := (congrArg Prod.fst imx).symm
          have hg4 : M2 37 = goR mfM (modT M) lo hi (a * 8 + k) b k bn (modR M) 4 := (congrArg (fun q => q.2.1) imx).symm
          have hg5 : M2 38 = goR mfM (modT M) lo hi (a * 8 + k) b k bn (modR M) 5 := (congrArg (fun q => q.2.2) imx).symm
          have hrows : ∀ r, 2 ≤ r → r ≤ 11 → r ≠ 6 → modR M2 r = goR mfM (modT M) lo hi (a * 8 + k) b k bn (modR M) r := by
            intro r h1 h2 h3
            rcases (show r = 2 ∨ r = 3 ∨ r = 4 ∨ r = 5 ∨ r = 7 ∨ r = 8 ∨ r = 9 ∨ r = 10 ∨ r = 11 by omega) with rfl | rfl | rfl | rfl | rfl | rfl | rfl | rfl | rfl
            · exact i35
            · exact hg3
            · exact hg4
            · exact hg5
            · exact i48
            · exact i49
            · exact i50
            · exact i44
            · exact i41
          have hst := st_go (mf := mfM) (lo := lo) (k := k) (bn := bn) (n := n) hdry hful
          have hwr : wrongB (modT M) (goR mfM (modT M) lo hi (a * 8 + k) b k bn (modR M)) n lo hi = true := or_t2 (show clashB (modT M 2) (goR mfM (modT M) lo hi (a * 8 + k) b k bn (modR M) 3) (goR mfM (modT M) lo hi (a * 8 + k) b k bn (modR M) 4) n (hi - 1) = true by rw [← hg3, ← hg4]; show clashB (fun i => b01 (eqB (M 51 i) 0)) _ _ _ _ = _; rw [← e51]; exact c23)
          have hss : stepS mfM (modT M) lo hi (a * 8 + k) b k bn n (modR M) = (3, goR mfM (modT M) lo hi (a * 8 + k) b k bn (modR M)) := by rw [hst, hwr]; rfl
          exact m_reti S hr hlocks hw dX8_steps_285 ⟨by rw [hss], (fun _ => by rw [hss]; exact hrows), ifr⟩
    | succ c' ih =>
      intro hn0 hdry hful M2 H locs ls hv hw hl
      obtain ⟨i35, imx, iqp, i48, i49, i50, i44, i41, ifr⟩ := hv
      have hl : lv_has ls 8 [(0, .ref (ad 34)), (1, .int (nI a)), (2, .int (nI b)), (3, .int (nI k)), (4, .int (nI lo)), (5, .int (nI hi)), (6, .int (nI (a * 8 + k))), (7, .int (nI (lo + c')))] := by have e : nI (lo + (c' + 1)) - nI 1 = nI (lo + c') := nI_pred _; rw [e] at hl; exact hl
      have hn2 : M2 34 1 = nI n := (congrFun (ifr 34 (by omega)) 1).trans hn
      have e52 : M2 52 = M 52 := ifr 52 (by omega)
      refine lv_iload S.1 S.2.1 dX8_steps_237 (lv_at hl 7 rfl) ?_
      refine lv_iload S.1 S.2.1 dX8_steps_239 (lv_at hl 4 rfl) ?_
      refine n_lt (tgt := 260) S (by omega) (by omega) dX8_steps_241 (by decide) (fun c21 => absurd c21 (by omega)) (fun c21 => ?_)
      refine lv_aload_n S.1 S.2.1 dX8_steps_244 rfl (lv_at hl 0 rfl) ?_
      refine lv_iload S.1 S.2.1 dX8_steps_245 (lv_at hl 7 rfl) ?_
      refine lv_iload S.1 S.2.1 dX8_steps_247 (lv_at hl 4 rfl) ?_
      refine lv_iload S.1 S.2.1 dX8_steps_249 (lv_at hl 5 rfl) ?_
      refine m_VV (As := [.int (nI (lo + c')), .int (nI lo), .int (nI hi)]) (rest := []) 34 S hw (by omega) rfl rfl (c_X8_mixes l G N K ad M2 h61 n hn2 hn1 iqp.1 lo hi (lo + c') (by omega) (by omega) hhi) mf_X8_mixes wm_X8_165 ⟨by decide, by decide⟩ ⟨Nat.le_refl _, Nat.le_refl _⟩ hl.1 rfl (Nat.le_of_ble_eq_true rfl) dX8_steps_251 (fun M22 H locs hp22 hw => ?_)
      obtain ⟨x36, x37, x38, xfr⟩ := hp22
      refine lv_iinc (v := nI (lo + c') - nI 1) (lv' := [(7, .int (nI (lo + c') - nI 1)), (0, .ref (ad 34)), (1, .int (nI a)), (2, .int (nI b)), (3, .int (nI k)), (4, .int (nI lo)), (5, .int (nI hi)), (6, .int (nI (a * 8 + k)))]) S.1 S.2.1 dX8_steps_254 hl (k := 7) rfl (iincM1 _) (by decide) rfl (fun ls hl => ?_)
      refine lv_goto (tgt := 237) S.1 S.2.1 dX8_steps_257 (by decide) ?_
      have hq := mm_facts (mx := M2 52) (b := M2 35) (lo := lo) (hi := hi) (y := lo + c') iqp (by omega)
      have hq3 : (M22 36, M22 37, M22 38) = mixMStep (M2 52) (M2 35) lo hi (lo + c') (M2 36, M2 37, M2 38) := by rw [x36, x37, x38]
      refine ih (by omega) hdry hful M22 _ _ ls ⟨(xfr 35 (by omega)).trans i35, ?_, ?_, (xfr 48 (by omega)).trans i48, (xfr 49 (by omega)).trans i49, (xfr 50 (by omega)).trans i50, (xfr 44 (by omega)).trans i44, (xfr 41 (by omega)).trans i41, fun k hk => (xfr k (by omega)).trans (ifr k hk)⟩ hw (lv_sub hl [1, 2, 3, 4, 5, 6, 7, 0] rfl)
      · rw [imx, hq3, e52, i35]; rfl
      · rw [hq3]; exact hq.1
  have loop1 : ∀ (n' : Nat), lo + n' < hi → dryB (modT M) (modR M) (a * 8 + k) = false → fullB (modT M) (modR M) (sinkS (modT M) (modR M) b (hi - 1)) = false → ∀ (M2 : Mem) (H : Heap) (locs : List Loc) (ls : Array Slot), (M2 35 = shF (lo + n') hi (M 35) ∧ M2 36 = shF (lo + n') hi (M 36) ∧ M2 37 = shF (lo + n') hi (M 37) ∧ M2 38 = shF (lo + n') hi (M 38) ∧ M2 48 = outAm (sinkS (modT M) (modR M) b (hi - 1)) (M 48) ∧ M2 49 = outFr (sinkS (modT M) (modR M) b (hi - 1)) (pureB (M 37) (hi - 1)) (M 49) ∧ M2 50 = outAm (sinkS (modT M) (modR M) b (hi - 1)) (M 50) ∧ M2 44 = outSl (sinkS (modT M) (modR M) b (hi - 1)) b (M 44) ∧ M2 41 = outWo (M 41) (tn (M 35 (hi - 1))) ∧ (∀ k, k ≠ 35 ∧ k ≠ 36 ∧ k ≠ 37 ∧ k ≠ 38 ∧ k ≠ 41 ∧ k ≠ 44 ∧ k ≠ 48 ∧ k ≠ 49 ∧ k ≠ 50 → M2 k = M k)) → Wd G N K ad M2 s H locs → lv_has ls 8 [(0, .ref (ad 34)), (1, .int (nI a)), (2, .int (nI b)), (3, .int (nI k)), (4, .int (nI lo)), (5, .int (nI hi)), (6, .int (nI (a * 8 + k))), (7, .int (nI (lo + n')))] → W p l e { frames := 4, cells := 0, slots := 0, locals := 96 } s m A below meth c H locs 0 0 (QmI G N K ad (fun r M1 => r = nI (stepS mfM (modT M) lo hi (a * 8 + k) b k bn n (modR M)).1 ∧ ((stepS mfM (modT M) lo hi (a * 8 + k) b k bn n (modR M)).1 = 0 → ∀ r, 2 ≤ r → r ≤ 11 → r ≠ 6 → modR M1 r = (stepS mfM (modT M) lo hi (a * 8 + k) b k bn n (modR M)).2 r) ∧ (∀ k, k ≠ 35 ∧ k ≠ 36 ∧ k ≠ 37 ∧ k ≠ 38 ∧ k ≠ 41 ∧ k ≠ 44 ∧ k ≠ 48 ∧ k ≠ 49 ∧ k ≠ 50 → M1 k = M k)) below A s) (F0 m 75 ls []) := by
    intro n'
    induction n' with
    | zero =>
      intro hn0 hdry hful M2 H locs ls hv hw hl
      obtain ⟨i35, i36, i37, i38, i48, i49, i50, i44, i41, ifr⟩ := hv
      have hl : lv_has ls 8 [(0, .ref (ad 34)), (1, .int (nI a)), (2, .int (nI b)), (3, .int (nI k)), (4, .int (nI lo)), (5, .int (nI hi)), (6, .int (nI (a * 8 + k))), (7, .int (nI lo))] := hl
      have hb2 : M2 34 6 = nI (bn + 1) := (congrFun (ifr 34 (by omega)) 6).trans hbn
      refine lv_iload S.1 S.2.1 dX8_steps_75 (lv_at hl 7 rfl) ?_
      refine lv_iload S.1 S.2.1 dX8_steps_77 (lv_at hl 4 rfl) ?_
      refine n_le (tgt := 152) S (by omega) (by omega) dX8_steps_79 (by decide) (fun c21 => ?_) (fun c21 => absurd c21 (by omega))
      refine lv_aload_n S.1 S.2.1 dX8_steps_152 rfl (lv_at hl 0 rfl) ?_
      refine m_getR 34 2 35 S hw (by omega) rfl rfl rfl in_X8 (by decide) wf_X8_16 dX8_steps_153 ?_
      refine lv_iload S.1 S.2.1 dX8_steps_156 (lv_at hl 4 rfl) ?_
      refine lv_aload_n S.1 S.2.1 dX8_steps_158 rfl (lv_at hl 0 rfl) ?_
      refine m_getI 34 6 S hw (by omega) rfl rfl rfl in_X8 (by decide) wf_X8_29 dX8_steps_159 ?_
      refine m_top (show M2 34 6 = nI (bn + 1) from hb2) ?_
      refine lv_iconst (v := nI 1) S.1 S.2.1 dX8_steps_162 (by decide) ?_
      refine lv_isub S.1 S.2.1 dX8_steps_163 ?_
      refine m_top (show (nI (bn + 1)) - (nI 1) = nI bn from nI_pred _) ?_
      refine n_ast 35 lo S hw (by omega) rfl (by decide) (by omega) rfl dX8_steps_164 (fun M22 H locs eM22 hw => ?_)
      refine lv_aload_n S.1 S.2.1 dX8_steps_165 rfl (lv_at hl 0 rfl) ?_
      refine m_getR 34 3 36 S hw (by omega) rfl rfl rfl in_X8 (by decide) wf_X8_20 dX8_steps_166 ?_
      refine lv_iload S.1 S.2.1 dX8_steps_169 (lv_at hl 4 rfl) ?_
      refine lv_iload_n S.1 S.2.1 dX8_steps_171 rfl (lv_at hl 3 rfl) ?_
      refine n_ast 36 lo S hw (by omega) rfl (by decide) (by omega) rfl dX8_steps_172 (fun M23 H locs eM23 hw => ?_)
      refine lv_aload_n S.1 S.2.1 dX8_steps_173 rfl (lv_at hl 0 rfl) ?_
      refine m_getR 34 4 37 S hw (by omega) rfl rfl rfl in_X8 (by decide) wf_X8_23 dX8_steps_174 ?_
      refine lv_iload S.1 S.2.1 dX8_steps_177 (lv_at hl 4 rfl) ?_
      refine lv_iconst (v := (-1)) S.1 S.2.1 dX8_steps_179 (by decide) ?_
      refine n_ast 37 lo S hw (by omega) rfl (by decide) (by omega) rfl dX8_steps_180 (fun M24 H locs eM24 hw => ?_)
      refine lv_aload_n S.1 S.2.1 dX8_steps_181 rfl (lv_at hl 0 rfl) ?_
      refine m_getR 34 5 38 S hw (by omega) rfl rfl rfl in_X8 (by decide) wf_X8_26 dX8_steps_182 ?_
      refine lv_iload S.1 S.2.1 dX8_steps_185 (lv_at hl 4 rfl) ?_
      refine lv_iconst (v := nI 0) S.1 S.2.1 dX8_steps_187 (by decide) ?_
      refine n_ast 38 lo S hw (by omega) rfl (by decide) (by omega) rfl dX8_steps_188 (fun M25 H locs eM25 hw => ?_)
      refine lv_aload_n S.1 S.2.1 dX8_steps_189 rfl (lv_at hl 0 rfl) ?_
      refine m_getR 34 17 48 S hw (by omega) rfl rfl rfl in_X8 (by decide) wf_X8_60 dX8_steps_190 ?_
      refine lv_iload S.1 S.2.1 dX8_steps_193 (lv_at hl 6 rfl) ?_
      refine lv_dup2_11 S.1 S.2.1 dX8_steps_195 rfl rfl ?_
      refine m_ald 48 (a * 8 + k) S hw (by omega) rfl (by decide) (by omega) rfl dX8_steps_196 ?_
      have hq26 : M22 48 = M2 48 := by rw [eM22, va_up_ne _ _ (by omega)]
      have hq27 : M23 48 = M2 48 := by rw [eM23, va_up_ne _ _ (by omega), hq26]
      have hq28 : M24 48 = M2 48 := by rw [eM24, va_up_ne _ _ (by omega), hq27]
      have hq29 : M25 48 = M2 48 := by rw [eM25, va_up_ne _ _ (by omega), hq28]
      refine m_top (show M25 48 (a * 8 + k) = M2 48 (a * 8 + k) from congrFun hq29 (a * 8 + k)) ?_
      refine lv_iconst (v := nI 1) S.1 S.2.1 dX8_steps_197 (by decide) ?_
      refine lv_isub S.1 S.2.1 dX8_steps_198 ?_
      refine n_ast 48 (a * 8 + k) S hw (by omega) rfl (by decide) (by omega) rfl dX8_steps_199 (fun M30 H locs eM30 hw => ?_)
      refine lv_aload_n S.1 S.2.1 dX8_steps_200 rfl (lv_at hl 0 rfl) ?_
      refine m_getR 34 18 49 S hw (by omega) rfl rfl rfl in_X8 (by decide) wf_X8_63 dX8_steps_201 ?_
      refine lv_iload S.1 S.2.1 dX8_steps_204 (lv_at hl 6 rfl) ?_
      refine m_ald 49 (a * 8 + k) S hw (by omega) rfl (by decide) (by omega) rfl dX8_steps_206 ?_
      have hq31 : M22 49 = M2 49 := by rw [eM22, va_up_ne _ _ (by omega)]
      have hq32 : M23 49 = M2 49 := by rw [eM23, va_up_ne _ _ (by omega), hq31]
      have hq33 : M24 49 = M2 49 := by rw [eM24, va_up_ne _ _ (by omega), hq32]
      have hq34 : M25 49 = M2 49 := by rw [eM25, va_up_ne _ _ (by omega), hq33]
      have hq35 : M30 49 = M2 49 := by rw [eM30, va_up_ne _ _ (by omega), hq34]
      refine m_top (show M30 49 (a * 8 + k) = M2 49 (a * 8 + k) from congrFun hq35 (a * 8 + k)) ?_
      refine lv_aload_n S.1 S.2.1 dX8_steps_207 rfl (lv_at hl 0 rfl) ?_
      refine m_getR 34 17 48 S hw (by omega) rfl rfl rfl in_X8 (by decide) wf_X8_60 dX8_steps_208 ?_
      refine lv_iload S.1 S.2.1 dX8_steps_211 (lv_at hl 6 rfl) ?_
      refine m_ald 48 (a * 8 + k) S hw (by omega) rfl (by decide) (by omega) rfl dX8_steps_213 ?_
      have hq36 : M30 48 = upd (M2 48) (a * 8 + k) ((M2 48 (a * 8 + k)) - (nI 1)) := by rw [eM30, va_up_self, hq29]
      refine m_top (show M30 48 (a * 8 + k) = (upd (M2 48) (a * 8 + k) ((M2 48 (a * 8 + k)) - (nI 1))) (a * 8 + k) from congrFun hq36 (a * 8 + k)) ?_
      refine m_top (show (upd (M2 48) (a * 8 + k) ((M2 48 (a * 8 + k)) - (nI 1))) (a * 8 + k) = (M2 48 (a * 8 + k)) - (nI 1) from pk_us) ?_
      refine lv_icmp_le (tgt := 231) S.1 S.2.1 dX8_steps_214 (by decide) (fun c37 => ?_) (fun c37 => ?_)
      · refine lv_iload S.1 S.2.1 dX8_steps_231 (lv_at hl 5 rfl) ?_
        refine lv_iconst (v := nI 1) S.1 S.2.1 dX8_steps_233 (by decide) ?_
        refine lv_isub S.1 S.2.1 dX8_steps_234 ?_
        refine lv_istore (lv' := [(7, .int ((nI hi) - (nI 1))), (0, .ref (ad 34)), (1, .int (nI a)), (2, .int (nI b)), (3, .int (nI k)), (4, .int (nI lo)), (5, .int (nI hi)), (6, .int (nI (a * 8 + k)))]) S.1 S.2.1 dX8_steps_235 hl (by decide) rfl (fun ls hl => ?_)
        have hq38 : M22 35 = upd (M2 35) lo (nI bn) := by rw [eM22, va_up_self]
        have hq39 : M23 35 = upd (M2 35) lo (nI bn) := by rw [eM23, va_up_ne _ _ (by omega), hq38]
        have hq40 : M24 35 = upd (M2 35) lo (nI bn) := by rw [eM24, va_up_ne _ _ (by omega), hq39]
        have hq41 : M25 35 = upd (M2 35) lo (nI bn) := by rw [eM25, va_up_ne _ _ (by omega), hq40]
        have hq42 : M30 35 = upd (M2 35) lo (nI bn) := by rw [eM30, va_up_ne _ _ (by omega), hq41]
        have hq43 : M22 36 = M2 36 := by rw [eM22, va_up_ne _ _ (by omega)]
        have hq44 : M23 36 = upd (M2 36) lo (nI k) := by rw [eM23, va_up_self, hq43]
        have hq45 : M24 36 = upd (M2 36) lo (nI k) := by rw [eM24, va_up_ne _ _ (by omega), hq44]
        have hq46 : M25 36 = upd (M2 36) lo (nI k) := by rw [eM25, va_up_ne _ _ (by omega), hq45]
        have hq47 : M30 36 = upd (M2 36) lo (nI k) := by rw [eM30, va_up_ne _ _ (by omega), hq46]
        have hq48 : M22 37 = M2 37 := by rw [eM22, va_up_ne _ _ (by omega)]
        have hq49 : M23 37 = M2 37 := by rw [eM23, va_up_ne _ _ (by omega), hq48]
        have hq50 : M24 37 = upd (M2 37) lo (-1) := by rw [eM24, va_up_self, hq49]
        have hq51 : M25 37 = upd (M2 37) lo (-1) := by rw [eM25, va_up_ne _ _ (by omega), hq50]
        have hq52 : M30 37 = upd (M2 37) lo (-1) := by rw [eM30, va_up_ne _ _ (by omega), hq51]
        have hq53 : M22 38 = M2 38 := by rw [eM22, va_up_ne _ _ (by omega)]
        have hq54 : M23 38 = M2 38 := by rw [eM23, va_up_ne _ _ (by omega), hq53]
        have hq55 : M24 38 = M2 38 := by rw [eM24, va_up_ne _ _ (by omega), hq54]
        have hq56 : M25 38 = upd (M2 38) lo (nI 0) := by rw [eM25, va_up_self, hq55]
        have hq57 : M30 38 = upd (M2 38) lo (nI 0) := by rw [eM30, va_up_ne _ _ (by omega), hq56]
        have hq58 : M22 41 = M2 41 := by rw [eM22, va_up_ne _ _ (by omega)]
        have hq59 : M23 41 = M2 41 := by rw [eM23, va_up_ne _ _ (by omega), hq58]
        have hq60 : M24 41 = M2 41 := by rw [eM24, va_up_ne _ _ (by omega), hq59]
        have hq61 : M25 41 = M2 41 := by rw [eM25, va_up_ne _ _ (by omega), hq60]
        have hq62 : M30 41 = M2 41 := by rw [eM30, va_up_ne _ _ (by omega), hq61]
        have hq63 : M22 44 = M2 44 := by rw [eM22, va_up_ne _ _ (by omega)]
        have hq64 : M23 44 = M2 44 := by rw [eM23, va_up_ne _ _ (by omega), hq63]
        have hq65 : M24 44 = M2 44 := by rw [eM24, va_up_ne _ _ (by omega), hq64]
        have hq66 : M25 44 = M2 44 := by rw [eM25, va_up_ne _ _ (by omega), hq65]
        have hq67 : M30 44 = M2 44 := by rw [eM30, va_up_ne _ _ (by omega), hq66]
        have hq68 : M22 50 = M2 50 := by rw [eM22, va_up_ne _ _ (by omega)]
        have hq69 : M23 50 = M2 50 := by rw [eM23, va_up_ne _ _ (by omega), hq68]
        have hq70 : M24 50 = M2 50 := by rw [eM24, va_up_ne _ _ (by omega), hq69]
        have hq71 : M25 50 = M2 50 := by rw [eM25, va_up_ne _ _ (by omega), hq70]
        have hq72 : M30 50 = M2 50 := by rw [eM30, va_up_ne _ _ (by omega), hq71]
        have e35 : M30 35 = (movF lo hi (nI bn) (M 35)) := (hq42).trans (by rw [i35]; exact sh_mov hlo)
        have e36 : M30 36 = movF lo hi (nI k) (M 36) := (hq47).trans (by rw [i36]; exact sh_mov hlo)
        have e37 : M30 37 = movF lo hi (-1) (M 37) := (hq52).trans (by rw [i37]; exact sh_mov hlo)
        have e38 : M30 38 = movF lo hi (nI 0) (M 38) := (hq57).trans (by rw [i38]; exact sh_mov hlo)
        have e48 : M30 48 = goR mfM (modT M) lo hi (a * 8 + k) b k bn (modR M) 7 := (hq36).trans (by rw [i48]; rfl)
        have e49 : M30 49 = goR mfM (modT M) lo hi (a * 8 + k) b k bn (modR M) 8 := (hq35).trans (by rw [i49]; exact tak8_le (show outFr (sinkS (modT M) (modR M) b (hi - 1)) (pureB (M 37) (hi - 1)) (M 49) (a * 8 + k) ≤ outAm (sinkS (modT M) (modR M) b (hi - 1)) (M 48) (a * 8 + k) - nI 1 by rw [← i48, ← i49]; exact c37))
        have e50 : M30 50 = goR mfM (modT M) lo hi (a * 8 + k) b k bn (modR M) 9 := (hq72).trans i50
        have e44 : M30 44 = goR mfM (modT M) lo hi (a * 8 + k) b k bn (modR M) 10 := (hq67).trans i44
        have e41 : M30 41 = goR mfM (modT M) lo hi (a * 8 + k) b k bn (modR M) 11 := (hq62).trans i41
        have hqp : Qp n (M30 36, M30 37, M30 38) := by
          rw [e36, e37, e38]
          refine ⟨kin_mov hvr.2.1 hk8 hlo, fun j hj hp => ?_⟩
          have hp : pureB (movF lo hi (-1) (M 37)) j = false := hp
          show inB (movF lo hi (-1) (M 37) j) 8 = true
          rw [mov_at hlo] at ⊢
          unfold pureB at hp
          rw [mov_at hlo] at hp
          by_cases q1 : j = lo
          · rw [if_pos q1] at hp; exact absurd hp (by decide)
          · rw [if_neg q1] at hp ⊢
            by_cases q2 : lo < j ∧ j < hi
            · rw [if_pos q2] at hp ⊢; exact hvr.2.2.1 (j - 1) (by omega) hp
            · rw [if_neg q2] at hp ⊢; exact hvr.2.2.1 j hj hp
        refine loop2 (hi - lo) (Nat.le_refl _) hdry hful _ _ _ ls ⟨e35, by rw [e36, e37, e38], hqp, e48, e49, e50, e44, e41, fun k hk => ((show M30 k = M25 k by rw [eM30]; exact va_up_ne _ _ (by omega)).trans ((show M25 k = M24 k by rw [eM25]; exact va_up_ne _ _ (by omega)).trans ((show M24 k = M23 k by rw [eM24]; exact va_up_ne _ _ (by omega)).trans ((show M23 k = M22 k by rw [eM23]; exact va_up_ne _ _ (by omega)).trans (show M22 k = M2 k by rw [eM22]; exact va_up_ne _ _ (by omega)))))).trans (ifr k hk)⟩ hw ?_
        rw [show lo + (hi - lo) = hi by omega]
        exact lv_sub hl [1, 2, 3, 4, 5, 6, 7, 0] rfl
      · refine lv_aload_n S.1 S.2.1 dX8_steps_217 rfl (lv_at hl 0 rfl) ?_
        refine m_getR 34 18 49 S hw (by omega) rfl rfl rfl in_X8 (by decide) wf_X8_63 dX8_steps_218 ?_
        refine lv_iload S.1 S.2.1 dX8_steps_221 (lv_at hl 6 rfl) ?_
        refine lv_aload_n S.1 S.2.1 dX8_steps_223 rfl (lv_at hl 0 rfl) ?_
        refine m_getR 34 17 48 S hw (by omega) rfl rfl rfl in_X8 (by decide) wf_X8_60 dX8_steps_224 ?_
        refine lv_iload S.1 S.2.1 dX8_steps_227 (lv_at hl 6 rfl) ?_
        refine m_ald 48 (a * 8 + k) S hw (by omega) rfl (by decide) (by omega) rfl dX8_steps_229 ?_
        refine m_top (show M30 48 (a * 8 + k) = (upd (M2 48) (a * 8 + k) ((M2 48 (a * 8 + k)) - (nI 1))) (a * 8 + k) from congrFun hq36 (a * 8 + k)) ?_
        refine m_top (show (upd (M2 48) (a * 8 + k) ((M2 48 (a * 8 + k)) - (nI 1))) (a * 8 + k) = (M2 48 (a * 8 + k)) - (nI 1) from pk_us) ?_
        refine n_ast 49 (a * 8 + k) S hw (by omega) rfl (by decide) (by omega) rfl dX8_steps_230 (fun M73 H locs eM73 hw => ?_)
        refine lv_iload S.1 S.2.1 dX8_steps_231 (lv_at hl 5 rfl) ?_
        refine lv_iconst (v := nI 1) S.1 S.2.1 dX8_steps_233 (by decide) ?_
        refine lv_isub S.1 S.2.1 dX8_steps_234 ?_
        refine lv_istore (lv' := [(7, .int ((nI hi) - (nI 1))), (0, .ref (ad 34)), (1, .int (nI a)), (2, .int (nI b)), (3, .int (nI k)), (4, .int (nI lo)), (5, .int (nI hi)), (6, .int (nI (a * 8 + k)))]) S.1 S.2.1 dX8_steps_235 hl (by decide) rfl (fun ls hl => ?_)
        have hq74 : M22 35 = upd (M2 35) lo (nI bn) := by rw [eM22, va_up_self]
        have hq75 : M23 35 = upd (M2 35) lo (nI bn) := by rw [eM23, va_up_ne _ _ (by omega), hq74]
        have hq76 : M24 35 = upd (M2 35) lo (nI bn) := by rw [eM24, va_up_ne _ _ (by omega), hq75]
        have hq77 : M25 35 = upd (M2 35) lo (nI bn) := by rw [eM25, va_up_ne _ _ (by omega), hq76]
        have hq78 : M30 35 = upd (M2 35) lo (nI bn) := by rw [eM30, va_up_ne _ _ (by omega), hq77]
        have hq79 : M73 35 = upd (M2 35) lo (nI bn) := by rw [eM73, va_up_ne _ _ (by omega), hq78]
        have hq80 : M22 36 = M2 36 := by rw [eM22, va_up_ne _ _ (by omega)]
        have hq81 : M23 36 = upd (M2 36) lo (nI k) := by rw [eM23, va_up_self, hq80]
        have hq82 : M24 36 = upd (M2 36) lo (nI k) := by rw [eM24, va_up_ne _ _ (by omega), hq81]
        have hq83 : M25 36 = upd (M2 36) lo (nI k) := by rw [eM25, va_up_ne _ _ (by omega), hq82]
        have hq84 : M30 36 = upd (M2 36) lo (nI k) := by rw [eM30, va_up_ne _ _ (by omega), hq83]
        have hq85 : M73 36 = upd (M2 36) lo (nI k) := by rw [eM73, va_up_ne _ _ (by omega), hq84]
        have hq86 : M22 37 = M2 37 := by rw [eM22, va_up_ne _ _ (by omega)]
        have hq87 : M23 37 = M2 37 := by rw [eM23, va_up_ne _ _ (by omega), hq86]
        have hq88 : M24 37 = upd (M2 37) lo (-1) := by rw [eM24, va_up_self, hq87]
        have hq89 : M25 37 = upd (M2 37) lo (-1) := by rw [eM25, va_up_ne _ _ (by omega), hq88]
        have hq90 : M30 37 = upd (M2 37) lo (-1) := by rw [eM30, va_up_ne _ _ (by omega), hq89]
        have hq91 : M73 37 = upd (M2 37) lo (-1) := by rw [eM73, va_up_ne _ _ (by omega), hq90]
        have hq92 : M22 38 = M2 38 := by rw [eM22, va_up_ne _ _ (by omega)]
        have hq93 : M23 38 = M2 38 := by rw [eM23, va_up_ne _ _ (by omega), hq92]
        have hq94 : M24 38 = M2 38 := by rw [eM24, va_up_ne _ _ (by omega), hq93]
        have hq95 : M25 38 = upd (M2 38) lo (nI 0) := by rw [eM25, va_up_self, hq94]
        have hq96 : M30 38 = upd (M2 38) lo (nI 0) := by rw [eM30, va_up_ne _ _ (by omega), hq95]
        have hq97 : M73 38 = upd (M2 38) lo (nI 0) := by rw [eM73, va_up_ne _ _ (by omega), hq96]
        have hq98 : M22 41 = M2 41 := by rw [eM22, va_up_ne _ _ (by omega)]
        have hq99 : M23 41 = M2 41 := by rw [eM23, va_up_ne _ _ (by omega), hq98]
        have hq100 : M24 41 = M2 41 := by rw [eM24, va_up_ne _ _ (by omega), hq99]
        have hq101 : M25 41 = M2 41 := by rw [eM25, va_up_ne _ _ (by omega), hq100]
        have hq102 : M30 41 = M2 41 := by rw [eM30, va_up_ne _ _ (by omega), hq101]
        have hq103 : M73 41 = M2 41 := by rw [eM73, va_up_ne _ _ (by omega), hq102]
        have hq104 : M22 44 = M2 44 := by rw [eM22, va_up_ne _ _ (by omega)]
        have hq105 : M23 44 = M2 44 := by rw [eM23, va_up_ne _ _ (by omega), hq104]
        have hq106 : M24 44 = M2 44 := by rw [eM24, va_up_ne _ _ (by omega), hq105]
        have hq107 : M25 44 = M2 44 := by rw [eM25, va_up_ne _ _ (by omega), hq106]
        have hq108 : M30 44 = M2 44 := by rw [eM30, va_up_ne _ _ (by omega), hq107]
        have hq109 : M73 44 = M2 44 := by rw [eM73, va_up_ne _ _ (by omega), hq108]
        have hq110 : M73 48 = upd (M2 48) (a * 8 + k) ((M2 48 (a * 8 + k)) - (nI 1)) := by rw [eM73, va_up_ne _ _ (by omega), hq36]
        have hq111 : M73 49 = upd (M2 49) (a * 8 + k) ((M2 48 (a * 8 + k)) - (nI 1)) := by rw [eM73, va_up_self, hq35]
        have hq112 : M22 50 = M2 50 := by rw [eM22, va_up_ne _ _ (by omega)]
        have hq113 : M23 50 = M2 50 := by rw [eM23, va_up_ne _ _ (by omega), hq112]
        have hq114 : M24 50 = M2 50 := by rw [eM24, va_up_ne _ _ (by omega), hq113]
        have hq115 : M25 50 = M2 50 := by rw [eM25, va_up_ne _ _ (by omega), hq114]
        have hq116 : M30 50 = M2 50 := by rw [eM30, va_up_ne _ _ (by omega), hq115]
        have hq117 : M73 50 = M2 50 := by rw [eM73, va_up_ne _ _ (by omega), hq116]
        have e35 : M73 35 = (movF lo hi (nI bn) (M 35)) := (hq79).trans (by rw [i35]; exact sh_mov hlo)
        have e36 : M73 36 = movF lo hi (nI k) (M 36) := (hq85).trans (by rw [i36]; exact sh_mov hlo)
        have e37 : M73 37 = movF lo hi (-1) (M 37) := (hq91).trans (by rw [i37]; exact sh_mov hlo)
        have e38 : M73 38 = movF lo hi (nI 0) (M 38) := (hq97).trans (by rw [i38]; exact sh_mov hlo)
        have e48 : M73 48 = goR mfM (modT M) lo hi (a * 8 + k) b k bn (modR M) 7 := (hq110).trans (by rw [i48]; rfl)
        have e49 : M73 49 = goR mfM (modT M) lo hi (a * 8 + k) b k bn (modR M) 8 := (hq111).trans (by rw [i49, i48]; exact tak8_gt (show ¬ outFr (sinkS (modT M) (modR M) b (hi - 1)) (pureB (M 37) (hi - 1)) (M 49) (a * 8 + k) ≤ outAm (sinkS (modT M) (modR M) b (hi - 1)) (M 48) (a * 8 + k) - nI 1 by rw [← i48, ← i49]; exact c37))
        have e50 : M73 50 = goR mfM (modT M) lo hi (a * 8 + k) b k bn (modR M) 9 := (hq117).trans i50
        have e44 : M73 44 = goR mfM (modT M) lo hi (a * 8 + k) b k bn (modR M) 10 := (hq109).trans i44
        have e41 : M73 41 = goR mfM (modT M) lo hi (a * 8 + k) b k bn (modR M) 11 := (hq103).trans i41
        have hqp : Qp n (M73 36, M73 37, M73 38) := by
          rw [e36, e37, e38]
          refine ⟨kin_mov hvr.2.1 hk8 hlo, fun j hj hp => ?_⟩
          have hp : pureB (movF lo hi (-1) (M 37)) j = false := hp
          show inB (movF lo hi (-1) (M 37) j) 8 = true
          rw [mov_at hlo] at ⊢
          unfold pureB at hp
          rw [mov_at hlo] at hp
          by_cases q1 : j = lo
          · rw [if_pos q1] at hp; exact absurd hp (by decide)
          · rw [if_neg q1] at hp ⊢
            by_cases q2 : lo < j ∧ j < hi
            · rw [if_pos q2] at hp ⊢; exact hvr.2.2.1 (j - 1) (by omega) hp
            · rw [if_neg q2] at hp ⊢; exact hvr.2.2.1 j hj hp
        refine loop2 (hi - lo) (Nat.le_refl _) hdry hful _ _ _ ls ⟨e35, by rw [e36, e37, e38], hqp, e48, e49, e50, e44, e41, fun k hk => ((show M73 k = M30 k by rw [eM73]; exact va_up_ne _ _ (by omega)).trans ((show M30 k = M25 k by rw [eM30]; exact va_up_ne _ _ (by omega)).trans ((show M25 k = M24 k by rw [eM25]; exact va_up_ne _ _ (by omega)).trans ((show M24 k = M23 k by rw [eM24]; exact va_up_ne _ _ (by omega)).trans ((show M23 k = M22 k by rw [eM23]; exact va_up_ne _ _ (by omega)).trans (show M22 k = M2 k by rw [eM22]; exact va_up_ne _ _ (by omega))))))).trans (ifr k hk)⟩ hw ?_
        rw [show lo + (hi - lo) = hi by omega]
        exact lv_sub hl [1, 2, 3, 4, 5, 6, 7, 0] rfl
    | succ c' ih =>
      intro hn0 hdry hful M2 H locs ls hv hw hl
      obtain ⟨i35, i36, i37, i38, i48, i49, i50, i44, i41, ifr⟩ := hv
      refine lv_iload S.1 S.2.1 dX8_steps_75 (lv_at hl 7 rfl) ?_
      refine lv_iload S.1 S.2.1 dX8_steps_77 (lv_at hl 4 rfl) ?_
      refine n_le (tgt := 152) S (by omega) (by omega) dX8_steps_79 (by decide) (fun c21 => absurd c21 (by omega)) (fun c21 => ?_)
      refine lv_aload_n S.1 S.2.1 dX8_steps_82 rfl (lv_at hl 0 rfl) ?_
      refine m_getR 34 2 35 S hw (by omega) rfl rfl rfl in_X8 (by decide) wf_X8_16 dX8_steps_83 ?_
      refine lv_iload S.1 S.2.1 dX8_steps_86 (lv_at hl 7 rfl) ?_
      refine lv_aload_n S.1 S.2.1 dX8_steps_88 rfl (lv_at hl 0 rfl) ?_
      refine m_getR 34 2 35 S hw (by omega) rfl rfl rfl in_X8 (by decide) wf_X8_16 dX8_steps_89 ?_
      refine lv_iload S.1 S.2.1 dX8_steps_92 (lv_at hl 7 rfl) ?_
      refine lv_iconst (v := nI 1) S.1 S.2.1 dX8_steps_94 (by decide) ?_
      refine lv_isub S.1 S.2.1 dX8_steps_95 ?_
      refine m_top (show (nI (lo + (c' + 1))) - (nI 1) = nI (lo + c') from nI_pred _) ?_
      refine m_ald 35 (lo + c') S hw (by omega) rfl (by decide) (by omega) rfl dX8_steps_96 ?_
      refine n_ast 35 (lo + (c' + 1)) S hw (by omega) rfl (by decide) (by omega) rfl dX8_steps_97 (fun M22 H locs eM22 hw => ?_)
      refine lv_aload_n S.1 S.2.1 dX8_steps_98 rfl (lv_at hl 0 rfl) ?_
      refine m_getR 34 3 36 S hw (by omega) rfl rfl rfl in_X8 (by decide) wf_X8_20 dX8_steps_99 ?_
      refine lv_iload S.1 S.2.1 dX8_steps_102 (lv_at hl 7 rfl) ?_
      refine lv_aload_n S.1 S.2.1 dX8_steps_104 rfl (lv_at hl 0 rfl) ?_
      refine m_getR 34 3 36 S hw (by omega) rfl rfl rfl in_X8 (by decide) wf_X8_20 dX8_steps_105 ?_
      refine lv_iload S.1 S.2.1 dX8_steps_108 (lv_at hl 7 rfl) ?_
      refine lv_iconst (v := nI 1) S.1 S.2.1 dX8_steps_110 (by decide) ?_
      refine lv_isub S.1 S.2.1 dX8_steps_111 ?_
      refine m_top (show (nI (lo + (c' + 1))) - (nI 1) = nI (lo + c') from nI_pred _) ?_
      refine m_ald 36 (lo + c') S hw (by omega) rfl (by decide) (by omega) rfl dX8_steps_112 ?_
      have hq23 : M22 36 = M2 36 := by rw [eM22, va_up_ne _ _ (by omega)]
      refine m_top (show M22 36 (lo + c') = M2 36 (lo + c') from congrFun hq23 (lo + c')) ?_
      refine n_ast 36 (lo + (c' + 1)) S hw (by omega) rfl (by decide) (by omega) rfl dX8_steps_113 (fun M24 H locs eM24 hw => ?_)
      refine lv_aload_n S.1 S.2.1 dX8_steps_114 rfl (lv_at hl 0 rfl) ?_
      refine m_getR 34 4 37 S hw (by omega) rfl rfl rfl in_X8 (by decide) wf_X8_23 dX8_steps_115 ?_
      refine lv_iload S.1 S.2.1 dX8_steps_118 (lv_at hl 7 rfl) ?_
      refine lv_aload_n S.1 S.2.1 dX8_steps_120 rfl (lv_at hl 0 rfl) ?_
      refine m_getR 34 4 37 S hw (by omega) rfl rfl rfl in_X8 (by decide) wf_X8_23 dX8_steps_121 ?_
      refine lv_iload S.1 S.2.1 dX8_steps_124 (lv_at hl 7 rfl) ?_
      refine lv_iconst (v := nI 1) S.1 S.2.1 dX8_steps_126 (by decide) ?_
      refine lv_isub S.1 S.2.1 dX8_steps_127 ?_
      refine m_top (show (nI (lo + (c' + 1))) - (nI 1) = nI (lo + c') from nI_pred _) ?_
      refine m_ald 37 (lo + c') S hw (by omega) rfl (by decide) (by omega) rfl dX8_steps_128 ?_
      have hq25 : M22 37 = M2 37 := by rw [eM22, va_up_ne _ _ (by omega)]
      have hq26 : M24 37 = M2 37 := by rw [eM24, va_up_ne _ _ (by omega), hq25]
      refine m_top (show M24 37 (lo + c') = M2 37 (lo + c') from congrFun hq26 (lo + c')) ?_
      refine n_ast 37 (lo + (c' + 1)) S hw (by omega) rfl (by decide) (by omega) rfl dX8_steps_129 (fun M27 H locs eM27 hw => ?_)
      refine lv_aload_n S.1 S.2.1 dX8_steps_130 rfl (lv_at hl 0 rfl) ?_
      refine m_getR 34 5 38 S hw (by omega) rfl rfl rfl in_X8 (by decide) wf_X8_26 dX8_steps_131 ?_
      refine lv_iload S.1 S.2.1 dX8_steps_134 (lv_at hl 7 rfl) ?_
      refine lv_aload_n S.1 S.2.1 dX8_steps_136 rfl (lv_at hl 0 rfl) ?_
      refine m_getR 34 5 38 S hw (by omega) rfl rfl rfl in_X8 (by decide) wf_X8_26 dX8_steps_137 ?_
      refine lv_iload S.1 S.2.1 dX8_steps_140 (lv_at hl 7 rfl) ?_
      refine lv_iconst (v := nI 1) S.1 S.2.1 dX8_steps_142 (by decide) ?_
      refine lv_isub S.1 S.2.1 dX8_steps_143 ?_
      refine m_top (show (nI (lo + (c' + 1))) - (nI 1) = nI (lo + c') from nI_pred _) ?_
      refine m_ald 38 (lo + c') S hw (by omega) rfl (by decide) (by omega) rfl dX8_steps_144 ?_
      have hq28 : M22 38 = M2 38 := by rw [eM22, va_up_ne _ _ (by omega)]
      have hq29 : M24 38 = M2 38 := by rw [eM24, va_up_ne _ _ (by omega), hq28]
      have hq30 : M27 38 = M2 38 := by rw [eM27, va_up_ne _ _ (by omega), hq29]
      refine m_top (show M27 38 (lo + c') = M2 38 (lo + c') from congrFun hq30 (lo + c')) ?_
      refine n_ast 38 (lo + (c' + 1)) S hw (by omega) rfl (by decide) (by omega) rfl dX8_steps_145 (fun M31 H locs eM31 hw => ?_)
      refine lv_iinc (v := nI (lo + c')) (lv' := [(7, .int (nI (lo + c'))), (0, .ref (ad 34)), (1, .int (nI a)), (2, .int (nI b)), (3, .int (nI k)), (4, .int (nI lo)), (5, .int (nI hi)), (6, .int (nI (a * 8 + k)))]) S.1 S.2.1 dX8_steps_146 hl (k := 7) rfl (iinc_m1 _) (by decide) rfl (fun ls hl => ?_)
      refine lv_goto (tgt := 75) S.1 S.2.1 dX8_steps_149 (by decide) ?_
      have hq32 : M22 35 = upd (M2 35) (lo + (c' + 1)) (M2 35 (lo + c')) := by rw [eM22, va_up_self]
      have hq33 : M24 35 = upd (M2 35) (lo + (c' + 1)) (M2 35 (lo + c')) := by rw [eM24, va_up_ne _ _ (by omega), hq32]
      have hq34 : M27 35 = upd (M2 35) (lo + (c' + 1)) (M2 35 (lo + c')) := by rw [eM27, va_up_ne _ _ (by omega), hq33]
      have hq35 : M31 35 = upd (M2 35) (lo + (c' + 1)) (M2 35 (lo + c')) := by rw [eM31, va_up_ne _ _ (by omega), hq34]
      have hq36 : M24 36 = upd (M2 36) (lo + (c' + 1)) (M2 36 (lo + c')) := by rw [eM24, va_up_self, hq23]
      have hq37 : M27 36 = upd (M2 36) (lo + (c' + 1)) (M2 36 (lo + c')) := by rw [eM27, va_up_ne _ _ (by omega), hq36]
      have hq38 : M31 36 = upd (M2 36) (lo + (c' + 1)) (M2 36 (lo + c')) := by rw [eM31, va_up_ne _ _ (by omega), hq37]
      have hq39 : M27 37 = upd (M2 37) (lo + (c' + 1)) (M2 37 (lo + c')) := by rw [eM27, va_up_self, hq26]
      have hq40 : M31 37 = upd (M2 37) (lo + (c' + 1)) (M2 37 (lo + c')) := by rw [eM31, va_up_ne _ _ (by omega), hq39]
      have hq41 : M31 38 = upd (M2 38) (lo + (c' + 1)) (M2 38 (lo + c')) := by rw [eM31, va_up_self, hq30]
      have hq42 : M22 41 = M2 41 := by rw [eM22, va_up_ne _ _ (by omega)]
      have hq43 : M24 41 = M2 41 := by rw [eM24, va_up_ne _ _ (by omega), hq42]
      have hq44 : M27 41 = M2 41 := by rw [eM27, va_up_ne _ _ (by omega), hq43]
      have hq45 : M31 41 = M2 41 := by rw [eM31, va_up_ne _ _ (by omega), hq44]
      have hq46 : M22 44 = M2 44 := by rw [eM22, va_up_ne _ _ (by omega)]
      have hq47 : M24 44 = M2 44 := by rw [eM24, va_up_ne _ _ (by omega), hq46]
      have hq48 : M27 44 = M2 44 := by rw [eM27, va_up_ne _ _ (by omega), hq47]
      have hq49 : M31 44 = M2 44 := by rw [eM31, va_up_ne _ _ (by omega), hq48]
      have hq50 : M22 48 = M2 48 := by rw [eM22, va_up_ne _ _ (by omega)]
      have hq51 : M24 48 = M2 48 := by rw [eM24, va_up_ne _ _ (by omega), hq50]
      have hq52 : M27 48 = M2 48 := by rw [eM27, va_up_ne _ _ (by omega), hq51]
      have hq53 : M31 48 = M2 48 := by rw [eM31, va_up_ne _ _ (by omega), hq52]
      have hq54 : M22 49 = M2 49 := by rw [eM22, va_up_ne _ _ (by omega)]
      have hq55 : M24 49 = M2 49 := by rw [eM24, va_up_ne _ _ (by omega), hq54]
      have hq56 : M27 49 = M2 49 := by rw [eM27, va_up_ne _ _ (by omega), hq55]
      have hq57 : M31 49 = M2 49 := by rw [eM31, va_up_ne _ _ (by omega), hq56]
      have hq58 : M22 50 = M2 50 := by rw [eM22, va_up_ne _ _ (by omega)]
      have hq59 : M24 50 = M2 50 := by rw [eM24, va_up_ne _ _ (by omega), hq58]
      have hq60 : M27 50 = M2 50 := by rw [eM27, va_up_ne _ _ (by omega), hq59]
      have hq61 : M31 50 = M2 50 := by rw [eM31, va_up_ne _ _ (by omega), hq60]
      exact ih (by omega) hdry hful _ _ _ ls ⟨hq35.trans (by rw [i35]; exact sh_s (by omega)), hq38.trans (by rw [i36]; exact sh_s (by omega)), hq40.trans (by rw [i37]; exact sh_s (by omega)), hq41.trans (by rw [i38]; exact sh_s (by omega)), hq53.trans i48, hq57.trans i49, hq61.trans i50, hq49.trans i44, hq45.trans i41, fun k hk => ((show M31 k = M27 k by rw [eM31]; exact va_up_ne _ _ (by omega)).trans ((show M27 k = M24 k by rw [eM27]; exact va_up_ne _ _ (by omega)).trans ((show M24 k = M22 k by rw [eM24]; exact va_up_ne _ _ (by omega)).trans (show M22 k = M2 k by rw [eM22]; exact va_up_ne _ _ (by omega))))).trans (ifr k hk)⟩ hw (lv_sub hl [1, 2, 3, 4, 5, 6, 7, 0] rfl)
  obtain ⟨hv2, hv3, hv4, hv5⟩ := id hvr
  obtain ⟨ka, hka8, hka⟩ := inB_of (hv3 (hi - 1) (by omega)) (by decide)
  have hka : M 36 (hi - 1) = nI ka := hka
  obtain ⟨bm, hbm1, hbm⟩ := inB_of (hv2 (hi - 1) (by omega)) (by decide)
  have hbm : M 35 (hi - 1) = nI bm := hbm
  have tbm : tn (M 35 (hi - 1)) = bm := tn_of hbm (by omega)
  obtain ⟨kb, hkb8, hkb⟩ : ∃ kb, kb < 8 ∧ (pureB (M 37) (hi - 1) = false → M 37 (hi - 1) = nI kb) := by
    by_cases hp : pureB (M 37) (hi - 1) = false
    · obtain ⟨q, h1, h2⟩ := inB_of (hv4 (hi - 1) (by omega) hp) (by decide)
      exact ⟨q, h1, fun _ => h2⟩
    · exact ⟨0, by decide, fun h => absurd h hp⟩
  refine lv_aload_n S.1 S.2.1 dX8_steps_0 rfl (lv_at hl 0 rfl) ?_
  refine m_getR 34 11 42 S hw (by omega) rfl rfl rfl in_X8 (by decide) wf_X8_41 dX8_steps_1 ?_
  refine lv_iload_n S.1 S.2.1 dX8_steps_4 rfl (lv_at hl 1 rfl) ?_
  refine m_ald 42 a S hw (by omega) rfl (by decide) (by omega) rfl dX8_steps_5 ?_
  refine m_top (show M 42 a = nI lo from e42a) ?_
  refine lv_istore (lv' := [(4, .int (nI lo)), (0, .ref (ad 34)), (1, .int (nI a)), (2, .int (nI b)), (3, .int (nI k))]) S.1 S.2.1 dX8_steps_6 hl (by decide) rfl (fun ls hl => ?_)
  refine lv_aload_n S.1 S.2.1 dX8_steps_8 rfl (lv_at hl 1 rfl) ?_
  refine m_getR 34 11 42 S hw (by omega) rfl rfl rfl in_X8 (by decide) wf_X8_41 dX8_steps_9 ?_
  refine lv_iload_n S.1 S.2.1 dX8_steps_12 rfl (lv_at hl 3 rfl) ?_
  refine m_ald 42 b S hw (by omega) rfl (by decide) (by omega) rfl dX8_steps_13 ?_
  refine m_top (show M 42 b = nI hi from e42b) ?_
  refine lv_istore (lv' := [(5, .int (nI hi)), (4, .int (nI lo)), (0, .ref (ad 34)), (1, .int (nI a)), (2, .int (nI b)), (3, .int (nI k))]) S.1 S.2.1 dX8_steps_14 hl (by decide) rfl (fun ls hl => ?_)
  refine lv_bipush (v := nI 8) S.1 S.2.1 dX8_steps_16 (by decide) ?_
  refine lv_iload_n S.1 S.2.1 dX8_steps_18 rfl (lv_at hl 3 rfl) ?_
  refine lv_imul S.1 S.2.1 dX8_steps_19 ?_
  refine m_top (show (nI 8) * (nI a) = nI (a * 8) from by rw [pk_mul, Nat.mul_comm]) ?_
  refine lv_iload_n S.1 S.2.1 dX8_steps_20 rfl (lv_at hl 5 rfl) ?_
  refine lv_iadd S.1 S.2.1 dX8_steps_21 ?_
  refine m_top (show (nI (a * 8)) + (nI k) = nI (a * 8 + k) from nI_add _ _) ?_
  refine lv_istore (lv' := [(6, .int (nI (a * 8 + k))), (5, .int (nI hi)), (4, .int (nI lo)), (0, .ref (ad 34)), (1, .int (nI a)), (2, .int (nI b)), (3, .int (nI k))]) S.1 S.2.1 dX8_steps_22 hl (by decide) rfl (fun ls hl => ?_)
  refine lv_aload_n S.1 S.2.1 dX8_steps_24 rfl (lv_at hl 3 rfl) ?_
  refine m_getR 34 14 45 S hw (by omega) rfl rfl rfl in_X8 (by decide) wf_X8_50 dX8_steps_25 ?_
  refine lv_iload S.1 S.2.1 dX8_steps_28 (lv_at hl 0 rfl) ?_
  refine m_zld 45 (a * 8 + k) S hw (by omega) rfl (by decide) (by omega) rfl dX8_steps_30 ?_
  refine lv_if_eq (tgt := 53) S.1 S.2.1 dX8_steps_31 (by decide) (fun c1 => ?_) (fun c1 => ?_)
  · refine lv_iconst (v := nI 1) S.1 S.2.1 dX8_steps_53 (by decide) ?_
    have hss : stepS mfM (modT M) lo hi (a * 8 + k) b k bn n (modR M) = (1, modR M) := st_dry (dry_1 (T := modT M) (R := modR M) c1)
    exact m_reti S hr hlocks hw dX8_steps_54 ⟨by rw [hss], (fun h => by rw [hss] at h; cases h), fun _ _ => rfl⟩
  · refine lv_aload_n S.1 S.2.1 dX8_steps_34 rfl (lv_at hl 3 rfl) ?_
    refine m_getR 34 17 48 S hw (by omega) rfl rfl rfl in_X8 (by decide) wf_X8_60 dX8_steps_35 ?_
    refine lv_iload S.1 S.2.1 dX8_steps_38 (lv_at hl 0 rfl) ?_
    refine m_ald 48 (a * 8 + k) S hw (by omega) rfl (by decide) (by omega) rfl dX8_steps_40 ?_
    refine lv_iconst (v := nI 1) S.1 S.2.1 dX8_steps_41 (by decide) ?_
    refine lv_isub S.1 S.2.1 dX8_steps_42 ?_
    refine lv_aload_n S.1 S.2.1 dX8_steps_43 rfl (lv_at hl 3 rfl) ?_
    refine m_getR 34 15 46 S hw (by omega) rfl rfl rfl in_X8 (by decide) wf_X8_54 dX8_steps_44 ?_
    refine lv_iload S.1 S.2.1 dX8_steps_47 (lv_at hl 0 rfl) ?_
    refine m_ald 46 (a * 8 + k) S hw (by omega) rfl (by decide) (by omega) rfl dX8_steps_49 ?_
    refine lv_icmp_ge (tgt := 55) S.1 S.2.1 dX8_steps_50 (by decide) (fun c2 => ?_) (fun c2 => ?_)
    · refine lv_aload_n S.1 S.2.1 dX8_steps_55 rfl (lv_at hl 3 rfl) ?_
      refine lv_iload S.1 S.2.1 dX8_steps_56 (lv_at hl 1 rfl) ?_
      refine lv_iconst (v := nI 1) S.1 S.2.1 dX8_steps_58 (by decide) ?_
      refine lv_isub S.1 S.2.1 dX8_steps_59 ?_
      refine m_top (show (nI hi) - (nI 1) = nI (hi - 1) from pk_sub (by omega)) ?_
      refine lv_iload_n S.1 S.2.1 dX8_steps_60 rfl (lv_at hl 5 rfl) ?_
      refine m_VI (As := [.int (nI (hi - 1)), .int (nI b)]) (rest := []) 34 S hw (by omega) rfl rfl (c_X8_goesOut l G N K ad M h61 (hi - 1) b (by omega) (by omega) ka hka hka8 kb hkb hkb8 bm hbm hbm1) mf_X8_goesOut wm_X8_162 ⟨by decide, by decide⟩ ⟨Nat.le_refl _, Nat.le_refl _⟩ hl.1 rfl (Nat.le_of_ble_eq_true rfl) dX8_steps_61 (fun r3 M3 H locs hp3 hw => ?_)
      obtain ⟨er, o48, o49, o50, o44, o41, ofr⟩ := hp3
      refine m_top (show r3 = b01 (fullB (modT M) (modR M) (sinkS (modT M) (modR M) b (hi - 1))) from er) ?_
      refine b_eq (tgt := 69) S dX8_steps_64 (by decide) (fun c4 => ?_) (fun c4 => ?_)
      · refine lv_iload S.1 S.2.1 dX8_steps_69 (lv_at hl 1 rfl) ?_
        refine lv_iconst (v := nI 1) S.1 S.2.1 dX8_steps_71 (by decide) ?_
        refine lv_isub S.1 S.2.1 dX8_steps_72 ?_
        refine m_top (show (nI hi) - (nI 1) = nI (hi - 1) from pk_sub (by omega)) ?_
        refine lv_istore (lv' := [(7, .int (nI (hi - 1))), (6, .int (nI (a * 8 + k))), (5, .int (nI hi)), (4, .int (nI lo)), (0, .ref (ad 34)), (1, .int (nI a)), (2, .int (nI b)), (3, .int (nI k))]) S.1 S.2.1 dX8_steps_73 hl (by decide) rfl (fun ls hl => ?_)
        have hdry : dryB (modT M) (modR M) (a * 8 + k) = false := dry_n (T := modT M) (R := modR M) c1 c2
        refine loop1 (hi - 1 - lo) (by omega) hdry c4 M3 _ _ ls ⟨(ofr 35 (by omega)).trans (sh_0 (by omega)), (ofr 36 (by omega)).trans (sh_0 (by omega)), (ofr 37 (by omega)).trans (sh_0 (by omega)), (ofr 38 (by omega)).trans (sh_0 (by omega)), o48, o49, o50, o44, o41.trans (by rw [tbm]), fun k hk => ofr k (by omega)⟩ hw ?_
        rw [show lo + (hi - 1 - lo) = hi - 1 by omega]
        exact lv_sub hl [4, 5, 6, 7, 3, 2, 1, 0] rfl
      · refine lv_iconst (v := nI 2) S.1 S.2.1 dX8_steps_67 (by decide) ?_
        have hdry : dryB (modT M) (modR M) (a * 8 + k) = false := dry_n (T := modT M) (R := modR M) c1 c2
        have hss : stepS mfM (modT M) lo hi (a * 8 + k) b k bn n (modR M) = (2, modR M) := st_full hdry c4
        exact m_reti S hr hlocks hw dX8_steps_68 ⟨by rw [hss], (fun h => by rw [hss] at h; cases h), fun k hk => ofr k (by omega)⟩
    · refine lv_iconst (v := nI 1) S.1 S.2.1 dX8_steps_53 (by decide) ?_
      have hss : stepS mfM (modT M) lo hi (a * 8 + k) b k bn n (modR M) = (1, modR M) := st_dry (dry_2 (T := modT M) (R := modR M) c2)
      exact m_reti S hr hlocks hw dX8_steps_54 ⟨by rw [hss], (fun h => by rw [hss] at h; cases h), fun _ _ => rfl⟩
