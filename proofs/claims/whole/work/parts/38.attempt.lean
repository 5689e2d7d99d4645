def hrS (r1 r2 c : Nat) : Nat := (c + min r1 r2 - 1) / min r1 r2
theorem hrS_le {r1 r2 c : Nat} (h1 : 1 ≤ r1) (h2 : 1 ≤ r2) : hrS r1 r2 c ≤ c := by
  unfold hrS
  have h : 1 ≤ min r1 r2 := by omega
  generalize min r1 r2 = r at h
  rw [Nat.div_le_iff_le_mul_add_pred (by omega)]
  have : c * 1 ≤ r * c := by rw [Nat.mul_comm]; exact Nat.mul_le_mul_right c h
  omega
theorem wi_160 {x : Int32} (h : wi x (nI 1) (nI 60) = true) : ∃ j, 1 ≤ j ∧ j ≤ 60 ∧ x = nI j := by
  rw [wi_nn x (by decide) (by decide)] at h
  simp only [Bool.and_eq_true, decide_eq_true_eq] at h
  refine ⟨x.toInt.toNat, by omega, by omega, ?_⟩
  apply Int32.toInt_inj.mp
  rw [nI_toInt (by omega)]
  omega

set_option maxHeartbeats 4000000 in
set_option maxRecDepth 100000 in
/-- OilLine.hoursFor -/
theorem c_X7_hoursFor (l : Launch) (G : GT) (N K : Nat) (ad : Nat → Nat) (M : Mem) (h34 : 34 ≤ N) (a b cc r1 r2 : Nat) (ha : a < 6) (hb : b < 6) (hcc : cc ≤ 60) (h1 : M 8 a = nI r1) (h1a : 1 ≤ r1) (h1b : r1 ≤ 60) (h2 : M 8 b = nI r2) (h2a : 1 ≤ r2) (h2b : r2 ≤ 60) : CrI l G N K ad yX7_hoursFor cX7_hoursFor 5 .int 1 21 [.ref (ad 0), .int (nI a), .int (nI b), .int (nI cc)] M (nI (hrS r1 r2 cc)) := by
  refine cm_startI (by decide +kernel) (Nat.le_of_ble_eq_true rfl) ?_
  intro p e s m below meth c ls S hr hlocks hw hl
  have hl : lv_has ls 5 [(0, .ref (ad 0)), (1, .int (nI a)), (2, .int (nI b)), (3, .int (nI cc))] := hl
  refine lv_iconst (v := nI 1) S.1 S.2.1 dX7_hoursFor_0 (by decide) ?_
  refine lv_aload_n S.1 S.2.1 dX7_hoursFor_1 rfl (lv_at hl 0 rfl) ?_
  refine m_getR 0 1 6 S hw (by omega) rfl rfl rfl in_X7 (by decide) wf_X7_19 dX7_hoursFor_2 ?_
  refine m_getR 6 2 8 S hw (by omega) rfl rfl rfl in_X0 (by decide) wf_X7_128 dX7_hoursFor_5 ?_
  refine lv_iload_n S.1 S.2.1 dX7_hoursFor_8 rfl (lv_at hl 1 rfl) ?_
  refine m_ald 8 a S hw (by omega) rfl (by decide) (by omega) rfl dX7_hoursFor_9 ?_
  refine m_top (show M 8 a = nI r1 from h1) ?_
  refine lv_aload_n S.1 S.2.1 dX7_hoursFor_10 rfl (lv_at hl 0 rfl) ?_
  refine m_getR 0 1 6 S hw (by omega) rfl rfl rfl in_X7 (by decide) wf_X7_19 dX7_hoursFor_11 ?_
  refine m_getR 6 2 8 S hw (by omega) rfl rfl rfl in_X0 (by decide) wf_X7_128 dX7_hoursFor_14 ?_
  refine lv_iload_n S.1 S.2.1 dX7_hoursFor_17 rfl (lv_at hl 2 rfl) ?_
  refine m_ald 8 b S hw (by omega) rfl (by decide) (by omega) rfl dX7_hoursFor_18 ?_
  refine m_top (show M 8 b = nI r2 from h2) ?_
  refine va_mmin S.1 S.2.1 (S.2.2.1.trans hl.1.symm) S.2.2.2.1 (S.2.2.2.2 _ wm_X7_258) (S.2.2.2.2 _ wt_min) (S.2.2.2.2 _ wn_J9) (S.2.2.2.2 _ wc_min) (by decide) (Nat.le_of_ble_eq_true rfl) (by decide) (by decide) dX7_hoursFor_19 ?_
  refine m_top (show (if nI r2 < nI r1 then nI r2 else nI r1) = nI (min r1 r2) from i32_min (by omega) (by omega)) ?_
  refine va_mmax S.1 S.2.1 (S.2.2.1.trans hl.1.symm) S.2.2.2.1 (S.2.2.2.2 _ wm_X7_263) (S.2.2.2.2 _ wt_max) (S.2.2.2.2 _ wn_J9) (S.2.2.2.2 _ wc_max) (by decide) (Nat.le_of_ble_eq_true rfl) (by decide) (by decide) dX7_hoursFor_22 ?_
  refine m_top (show (if nI 1 < nI (min r1 r2) then nI (min r1 r2) else nI 1) = nI (min r1 r2) from by rw [i32_max (by decide) (by omega), Nat.max_eq_right (by omega)]) ?_
  refine lv_istore (lv' := [(4, .int (nI (min r1 r2))), (0, .ref (ad 0)), (1, .int (nI a)), (2, .int (nI b)), (3, .int (nI cc))]) S.1 S.2.1 dX7_hoursFor_25 hl (by decide) rfl (fun ls hl => ?_)
  refine lv_iload_n S.1 S.2.1 dX7_hoursFor_27 rfl (lv_at hl 4 rfl) ?_
  refine lv_iload S.1 S.2.1 dX7_hoursFor_28 (lv_at hl 0 rfl) ?_
  refine lv_iadd S.1 S.2.1 dX7_hoursFor_30 ?_
  refine m_top (show (nI cc) + (nI (min r1 r2)) = nI (cc + (min r1 r2)) from nI_add _ _) ?_
  refine lv_iconst (v := nI 1) S.1 S.2.1 dX7_hoursFor_31 (by decide) ?_
  refine lv_isub S.1 S.2.1 dX7_hoursFor_32 ?_
  refine m_top (show (nI (cc + (min r1 r2))) - (nI 1) = nI (cc + min r1 r2 - 1) from by rw [show cc + min r1 r2 = (cc + min r1 r2 - 1) + 1 by omega]; exact nI_pred _) ?_
  refine lv_iload S.1 S.2.1 dX7_hoursFor_33 (lv_at hl 0 rfl) ?_
  refine lv_idiv S.1 S.2.1 dX7_hoursFor_35 (fun z => absurd ((nI_eq (b := 0) (by omega) (by decide)).mp z) (by omega)) ?_
  refine m_top (show (nI (cc + min r1 r2 - 1)) / (nI (min r1 r2)) = nI (hrS r1 r2 cc) from pk_div (by omega) (by omega) (by omega)) ?_
  exact m_reti S hr hlocks hw dX7_hoursFor_36 ⟨rfl, rfl⟩

set_option maxHeartbeats 4000000 in
set_option maxRecDepth 100000 in
/-- OilLine.register -/
theorem c_X7_register (l : Launch) (G : GT) (N K : Nat) (ad : Nat → Nat) (M : Mem) (h34 : 34 ≤ N) (bn : Nat) (hbn : M 20 2 = nI bn) (hbn1 : bn < 200) (x y : Int32) : CmI l G N K ad yX7_register cX7_register 4 .int 0 0 [.ref (ad 0), .int x, .int y] M (fun r M1 => r = nI bn ∧ M1 18 = upd (M 18) bn x ∧ M1 19 = upd (M 19) bn y ∧ M1 20 = upd (M 20) 2 (nI (bn + 1)) ∧ Fr 18 21 M M1) := by
  refine cm_startI (by decide +kernel) (Nat.le_of_ble_eq_true rfl) ?_
  intro p e s m below meth c ls S hr hlocks hw hl
  have hl : lv_has ls 4 [(0, .ref (ad 0)), (1, .int x), (2, .int y)] := hl
  refine lv_aload_n S.1 S.2.1 dX7_register_0 rfl (lv_at hl 0 rfl) ?_
  refine m_getR 0 6 20 S hw (by omega) rfl rfl rfl in_X7 (by decide) wf_X7_47 dX7_register_1 ?_
  refine m_getI 20 2 S hw (by omega) rfl rfl rfl in_X1 (by decide) wf_X7_160 dX7_register_4 ?_
  refine m_top (show M 20 2 = nI bn from hbn) ?_
  refine lv_istore_n (lv' := [(3, .int (nI bn)), (0, .ref (ad 0)), (1, .int x), (2, .int y)]) S.1 S.2.1 dX7_register_7 rfl hl (by decide) rfl (fun ls hl => ?_)
  refine lv_aload_n S.1 S.2.1 dX7_register_8 rfl (lv_at hl 1 rfl) ?_
  refine m_getR 0 4 18 S hw (by omega) rfl rfl rfl in_X7 (by decide) wf_X7_37 dX7_register_9 ?_
  refine lv_iload_n S.1 S.2.1 dX7_register_12 rfl (lv_at hl 0 rfl) ?_
  refine lv_iload_n S.1 S.2.1 dX7_register_13 rfl (lv_at hl 2 rfl) ?_
  refine n_ast 18 bn S hw (by omega) rfl (by decide) (by omega) rfl dX7_register_14 (fun M1 H locs eM1 hw => ?_)
  refine lv_aload_n S.1 S.2.1 dX7_register_15 rfl (lv_at hl 1 rfl) ?_
  refine m_getR 0 5 19 S hw (by omega) rfl rfl rfl in_X7 (by decide) wf_X7_41 dX7_register_16 ?_
  refine lv_iload_n S.1 S.2.1 dX7_register_19 rfl (lv_at hl 0 rfl) ?_
  refine lv_iload_n S.1 S.2.1 dX7_register_20 rfl (lv_at hl 3 rfl) ?_
  refine n_ast 19 bn S hw (by omega) rfl (by decide) (by omega) rfl dX7_register_21 (fun M2 H locs eM2 hw => ?_)
  refine lv_aload_n S.1 S.2.1 dX7_register_22 rfl (lv_at hl 1 rfl) ?_
  refine m_getR 0 6 20 S hw (by omega) rfl rfl rfl in_X7 (by decide) wf_X7_47 dX7_register_23 ?_
  refine lv_iload_n S.1 S.2.1 dX7_register_26 rfl (lv_at hl 0 rfl) ?_
  refine lv_iconst (v := nI 1) S.1 S.2.1 dX7_register_27 (by decide) ?_
  refine lv_iadd S.1 S.2.1 dX7_register_28 ?_
  refine m_top (show (nI bn) + (nI 1) = nI (bn + 1) from nI_add _ _) ?_
  refine n_putI 20 2 S hw (by omega) rfl rfl rfl in_X1 tyX1_ok nmX1 (by decide) rfl rfl wf_X7_160 dX7_register_29 (fun M3 H locs eM3 hw => ?_)
  refine lv_iload_n S.1 S.2.1 dX7_register_32 rfl (lv_at hl 0 rfl) ?_
  have hq4 : M1 18 = upd (M 18) bn x := by rw [eM1, va_up_self]
  have hq5 : M2 18 = upd (M 18) bn x := by rw [eM2, va_up_ne _ _ (by omega), hq4]
  have hq6 : M3 18 = upd (M 18) bn x := by rw [eM3, va_up_ne _ _ (by omega), hq5]
  have hq7 : M1 19 = M 19 := by rw [eM1, va_up_ne _ _ (by omega)]
  have hq8 : M2 19 = upd (M 19) bn y := by rw [eM2, va_up_self, hq7]
  have hq9 : M3 19 = upd (M 19) bn y := by rw [eM3, va_up_ne _ _ (by omega), hq8]
  have hq10 : M1 20 = M 20 := by rw [eM1, va_up_ne _ _ (by omega)]
  have hq11 : M2 20 = M 20 := by rw [eM2, va_up_ne _ _ (by omega), hq10]
  have hq12 : M3 20 = upd (M 20) 2 (nI (bn + 1)) := by rw [eM3, va_up_self, hq11]
  exact m_reti S hr hlocks hw dX7_register_33 ⟨rfl, hq6, hq9, hq12, (by rw [eM3]; exact Fr.up (by rw [eM2]; exact Fr.up (by rw [eM1]; exact Fr.up Fr.rf (by omega) (by omega)) (by omega) (by omega)) (by omega) (by omega))⟩

/-- what a push or a trial of a fitting size does: how it flows, its hours, what comes of it -/
def attF (M : Mem) (bn n lo hi a b k cc : Nat) : Nat × Mem := flowS mfC M lo hi (a * 8 + k) b k bn n cc (fun r => if r = 11 then upd (M 31) bn (nI 0) else M (20 + r))
def attNo (n bn lo hi a b k cc : Nat) (M : Mem) (r : Int32) (M1 : Mem) : Prop := ¬ (attF M bn n lo hi a b k cc).1 = 0 ∧ r = -10 - nI (attF M bn n lo hi a b k cc).1 ∧ MoA n bn (mom M 20) (mom M1 20) ∧ M1 18 = M 18 ∧ M1 19 = M 19
def attOk (n D bn t Wn lo hi a b k cc h : Nat) (M : Mem) (r : Int32) (M1 : Mem) : Prop := (attF M bn n lo hi a b k cc).1 = 0 ∧ r = nI bn ∧ RG n D (bn + 1) M (mom M1 20) (attF M bn n lo hi a b k cc).2 ∧ M1 20 0 = nI (t + h) ∧ M1 20 1 = passC (M 5) t (M 20 1) h ∧ M1 20 2 = nI (bn + 1) ∧ M1 21 0 = nI n ∧ M1 32 = keepF (M 32) (wantS (M 13) (M 14) (M 16) (M1 29)) (nI (t + h)) Wn ∧ M1 18 = upd (M 18) bn (nI k) ∧ M1 19 = upd (M 19) bn (nI a)
def attFr (K mo : Nat) (M M1 : Mem) : Prop := ∀ i, i < 61 + 13 * K → i ≠ 17 → i ≠ 18 → i ≠ 19 → (i < 20 ∨ 33 ≤ i) → (i < mo ∨ mo + 13 ≤ i) → M1 i = M i
def attQ (K mo n D bn t Wn lo hi a b k cc h : Nat) (M : Mem) (r : Int32) (M1 : Mem) : Prop := MoA n bn (mom M 20) (mom M1 mo) ∧ attFr K mo M M1 ∧ (attNo n bn lo hi a b k cc M r M1 ∨ attOk n D bn t Wn lo hi a b k cc h M r M1)

set_option maxHeartbeats 4000000 in
set_option maxRecDepth 100000 in
theorem att2 {p : Program} {l : Launch} {e : Env} {s : State} {m : MethodId} {A : Array Value} {below : List Frame} {meth : Method} {c : Code} {H : Heap} {locs : List Loc} {cells slots mc ms : Nat} {ls : Array Slot} {G : GT} {K : Nat} {ad : Nat → Nat} {M : Mem} (S : CallFix p m c cX7_attempt 7 s A TB yX7_attempt.cls) (hr : meth.sig.returnType = some .int) (hlocks : meth.locks = false) (hcs : cells ≤ mc ∧ slots ≤ ms) (hw : Wd G (61 + 13 * K) K ad M s H locs) (h34 : 34 ≤ 61 + 13 * K) (mo : Nat) (hmo : IsM (61 + 13 * K) K mo) (hmo6 : 61 ≤ mo) (D : Nat) (hD6 : D ≤ 6) (n : Nat) (hn : M 21 0 = nI n) (hn1 : n ≤ 120) (bn : Nat) (hbn : M 20 2 = nI bn) (hbn1 : bn < 200) (lo hi a b k cc : Nat) (hlo : lo < hi) (hhi : hi ≤ n) (haD : a < D) (hbD : b < D) (hk8 : k < 8) (hcc : cc ≤ 60) (e7a : M 7 a = nI lo) (e7b : M 7 b = nI hi) (r1 r2 : Nat) (h1 : M 8 a = nI r1) (h1a : 1 ≤ r1) (h1b : r1 ≤ 60) (h2 : M 8 b = nI r2) (h2a : 1 ≤ r2) (h2b : r2 ≤ 60) (hz2 : Z01 (M 2) 64) (hvr : VR n bn (mom M 20)) (t : Nat) (ht : M 20 0 = nI t) (ht30 : t < 2 ^ 30) (Wn : Nat) (hWn : M 12 0 = nI Wn) (hW20 : Wn ≤ 20) (hwt : ∀ w, w < Wn → inB (M 13 w) 48 = true) (M0 : Mem) (he : ∀ i, i < 61 → M i = M0 i) (hl : lv_has ls 7 [(0, .ref (ad 0)), (1, .int (nI a)), (2, .int (nI b)), (3, .int (nI k)), (4, .int (nI cc))]) {post : Int32 → Sa → Prop} (hpost : ∀ r M1, MoA n bn (mom M0 20) (mom M1 mo) ∧ attFr K mo M M1 ∧ (attNo n bn lo hi a b k cc M0 r M1 ∨ attOk n D bn t Wn lo hi a b k cc (hrS r1 r2 cc) M0 r M1) → post r (K, ad, M1)) :
    W p l e { frames := 5, cells := mc, slots := ms, locals := 129 } s m A below meth c H locs cells slots (MQ below (va_Qi post (HdA G) (fun q => G.1 ≤ q)) A s mc ms (fun q => G.1 ≤ q)) (F0 m 90 ls [.ref (ad mo)]) := by
  have hlt_mo := hmo.lt
  refine lv_astore (lv' := [(5, .ref (ad mo)), (0, .ref (ad 0)), (1, .int (nI a)), (2, .int (nI b)), (3, .int (nI k)), (4, .int (nI cc))]) S.1 S.2.1 dX7_attempt_90 hl (by decide) rfl (fun ls hl => ?_)
  refine lv_aload S.1 S.2.1 dX7_attempt_92 (lv_at hl 0 rfl) ?_
  refine lv_aload_n S.1 S.2.1 dX7_attempt_94 rfl (lv_at hl 1 rfl) ?_
  refine m_getR 0 6 20 S hw (by omega) rfl rfl rfl in_X7 (by decide) wf_X7_47 dX7_attempt_95 ?_
  refine m_VV (As := [.ref (ad 20)]) (rest := []) mo S hw (by omega) hmo.s0 rfl (c_X1_copyFrom l G (61 + 13 * K) K ad M mo hmo 20 (isM20 (by omega)) (by omega) n hn hn1 bn hbn (by omega)) mf_X1_copyFrom wm_X7_156 ⟨Nat.le_of_ble_eq_true rfl, Nat.le_of_ble_eq_true rfl⟩ hcs hl.1 rfl (Nat.le_of_ble_eq_true rfl) dX7_attempt_98 (fun M1 H locs hp1 hw => ?_)
  have mo1 := copy_mo hp1
  have fr1 : Fr mo (mo + 13) M M1 := hp1.2.2.2.2.2.2.2.2.2.2.2.2.2.2
  refine lv_aload_n S.1 S.2.1 dX7_attempt_101 rfl (lv_at hl 1 rfl) ?_
  refine m_getR 0 3 17 S hw (by omega) rfl rfl rfl in_X7 (by decide) wf_X7_33 dX7_attempt_102 ?_
  refine lv_iload_n S.1 S.2.1 dX7_attempt_105 rfl (lv_at hl 2 rfl) ?_
  refine lv_iload_n S.1 S.2.1 dX7_attempt_106 rfl (lv_at hl 3 rfl) ?_
  refine lv_iload_n S.1 S.2.1 dX7_attempt_107 rfl (lv_at hl 4 rfl) ?_
  refine lv_aload_n S.1 S.2.1 dX7_attempt_108 rfl (lv_at hl 1 rfl) ?_
  refine m_getR 0 1 6 S hw (by omega) rfl rfl rfl in_X7 (by decide) wf_X7_19 dX7_attempt_109 ?_
  refine m_VV (As := [.int (nI a), .int (nI b), .int (nI k), .ref (ad 6)]) (rest := []) 17 S hw (by omega) rfl rfl (c_X3_set l G (61 + 13 * K) K ad M1 h34 a b k (by omega) (by omega)) mf_X3_set wm_X7_236 ⟨Nat.le_of_ble_eq_true rfl, Nat.le_of_ble_eq_true rfl⟩ hcs hl.1 rfl (Nat.le_of_ble_eq_true rfl) dX7_attempt_112 (fun M2 H locs hp2 hw => ?_)
  obtain ⟨p0_2, p1_2, p2_2, p3_2, p4_2, fr2⟩ := hp2
  refine lv_aload_n S.1 S.2.1 dX7_attempt_115 rfl (lv_at hl 1 rfl) ?_
  refine m_getR 0 6 20 S hw (by omega) rfl rfl rfl in_X7 (by decide) wf_X7_47 dX7_attempt_116 ?_
  refine lv_aload_n S.1 S.2.1 dX7_attempt_119 rfl (lv_at hl 1 rfl) ?_
  refine m_getR 0 3 17 S hw (by omega) rfl rfl rfl in_X7 (by decide) wf_X7_33 dX7_attempt_120 ?_
  refine lv_iload S.1 S.2.1 dX7_attempt_123 (lv_at hl 5 rfl) ?_
  refine lv_aload_n S.1 S.2.1 dX7_attempt_125 rfl (lv_at hl 1 rfl) ?_
  refine m_getR 0 1 6 S hw (by omega) rfl rfl rfl in_X7 (by decide) wf_X7_19 dX7_attempt_126 ?_
  refine lv_aload_n S.1 S.2.1 dX7_attempt_129 rfl (lv_at hl 1 rfl) ?_
  refine m_getR 0 0 1 S hw (by omega) rfl rfl rfl in_X7 (by decide) wf_X7_12 dX7_attempt_130 ?_
  have hrw : ∀ i, i < 61 → i ≠ 17 → M2 i = M0 i := fun i h6 h17 => ((fr2 i (by omega)).trans (fr1 i (by omega))).trans (he i h6)
  have hvr2 : VR n (bn + 1) (fun r => M2 (20 + r)) := VR.rows hvr (Nat.le_succ _) ((hrw 22 (by omega) (by omega)).trans (he 22 (by omega)).symm) ((hrw 23 (by omega) (by omega)).trans (he 23 (by omega)).symm) ((hrw 24 (by omega) (by omega)).trans (he 24 (by omega)).symm)
  have hvr3 : VR n bn (fun r => M2 (20 + r)) := VR.rows hvr (Nat.le_refl _) ((hrw 22 (by omega) (by omega)).trans (he 22 (by omega)).symm) ((hrw 23 (by omega) (by omega)).trans (he 23 (by omega)).symm) ((hrw 24 (by omega) (by omega)).trans (he 24 (by omega)).symm)
  have hvk2 : VK n bn k (fun r => M2 (20 + r)) := VK.none hvr3 (by omega)
  have hf7 : M1 7 = M 7 := fr1 7 (by omega)
  refine m_VI (As := [.ref (ad 17), .int (nI cc), .ref (ad 6), .ref (ad 1)]) (rest := []) 20 S hw (by omega) rfl rfl (c_X1_flow l G (61 + 13 * K) K ad M2 h34 D hD6 n ((congrFun ((hrw 21 (by omega) (by omega)).trans (he 21 (by omega)).symm) 0).trans hn) hn1 bn ((congrFun ((hrw 20 (by omega) (by omega)).trans (he 20 (by omega)).symm) 2).trans hbn) hbn1 lo hi b k a cc hlo hhi hbD hk8 haD hcc p0_2 p1_2 p2_2 (p3_2.trans ((congrFun hf7 a).trans e7a)) (p4_2.trans ((congrFun hf7 b).trans e7b)) (by rw [hrw 2 (by omega) (by omega), ← he 2 (by omega)]; exact hz2) hvr2 hvk2) mf_X1_flow wm_X7_240 ⟨Nat.le_of_ble_eq_true rfl, Nat.le_of_ble_eq_true rfl⟩ hcs hl.1 rfl (Nat.le_of_ble_eq_true rfl) dX7_attempt_133 (fun r3 M3 H locs hp3 hw => ?_)
  have hTG : TG D M2 M0 := TG.of (hrw 2 (by omega) (by omega)) (hrw 3 (by omega) (by omega)) (hrw 4 (by omega) (by omega)) (hrw 9 (by omega) (by omega)) (hrw 10 (by omega) (by omega)) (hrw 11 (by omega) (by omega))
  have hcg := flow_cg (n := n) (bn := bn) (lo := lo) (hi := hi) (a := a) (d := b) (k := k) hTG (Nat.lt_succ_self bn) (by omega) hlo hhi haD hbD hk8 cc (fun r => if r = 11 then upd (M2 31) bn (nI 0) else M2 (20 + r)) (fun r => if r = 11 then upd (M0 31) bn (nI 0) else M0 (20 + r)) (RG.rows (fun r h1 h2 h3 => by rw [hrw 31 (by omega) (by omega), hrw (20 + r) (by omega) (by omega)]) RG.rf) hvr2 hvk2
  obtain ⟨er3, erg3, e20_3, e21_3, e32_3, fr3⟩ := hp3
  refine m_top (show r3 = nI (attF M0 bn n lo hi a b k cc).1 from er3.trans (congrArg nI hcg.1)) ?_
  refine lv_istore (lv' := [(6, .int (nI (attF M0 bn n lo hi a b k cc).1)), (5, .ref (ad mo)), (0, .ref (ad 0)), (1, .int (nI a)), (2, .int (nI b)), (3, .int (nI k)), (4, .int (nI cc))]) S.1 S.2.1 dX7_attempt_136 hl (by decide) rfl (fun ls hl => ?_)
  refine lv_iload S.1 S.2.1 dX7_attempt_138 (lv_at hl 0 rfl) ?_
  refine lv_if_eq (tgt := 158) S.1 S.2.1 dX7_attempt_140 (by decide) (fun c4 => ?_) (fun c4 => ?_)
  · have hz : (attF M0 bn n lo hi a b k cc).1 = 0 := (nI_z (flow_le _ _)).mp c4
    have hzb := hcg.1.trans hz
    have hrf : ∀ i, i < 61 → i ≠ 17 → (i < 20 ∨ 33 ≤ i) → M3 i = M0 i := fun i h6 h17 h20 => (fr3 i (by omega)).trans (hrw i h6 h17)
    have hf8a : M3 8 a = nI r1 := (congrFun ((hrf 8 (by omega) (by omega) (by omega)).trans (he 8 (by omega)).symm) a).trans h1
    have hf8b : M3 8 b = nI r2 := (congrFun ((hrf 8 (by omega) (by omega) (by omega)).trans (he 8 (by omega)).symm) b).trans h2
    have hft : M3 20 0 = nI t := (congrFun (e20_3.trans ((hrw 20 (by omega) (by omega)).trans (he 20 (by omega)).symm)) 0).trans ht
    have hhl := hrS_le (c := cc) h1a h2a
    refine lv_aload_n S.1 S.2.1 dX7_attempt_158 rfl (lv_at hl 2 rfl) ?_
    refine m_getR 0 6 20 S hw (by omega) rfl rfl rfl in_X7 (by decide) wf_X7_47 dX7_attempt_159 ?_
    refine lv_aload_n S.1 S.2.1 dX7_attempt_162 rfl (lv_at hl 2 rfl) ?_
    refine lv_iload_n S.1 S.2.1 dX7_attempt_163 rfl (lv_at hl 3 rfl) ?_
    refine lv_iload_n S.1 S.2.1 dX7_attempt_164 rfl (lv_at hl 4 rfl) ?_
    refine lv_iload S.1 S.2.1 dX7_attempt_165 (lv_at hl 6 rfl) ?_
    refine r_VI (As := [.int (nI a), .int (nI b), .int (nI cc)]) (rest := [.ref (ad 20)]) 0 S hw (by omega) rfl rfl (c_X7_hoursFor l G (61 + 13 * K) K ad M3 h34 a b cc r1 r2 (by omega) (by omega) hcc hf8a h1a h1b hf8b h2a h2b) mf_X7_hoursFor wm_X7_244 ⟨Nat.le_of_ble_eq_true rfl, Nat.le_of_ble_eq_true rfl⟩ hcs hl.1 rfl (Nat.le_of_ble_eq_true rfl) dX7_attempt_167 (fun H locs hw => ?_)
    refine lv_aload_n S.1 S.2.1 dX7_attempt_170 rfl (lv_at hl 2 rfl) ?_
    refine m_getR 0 0 1 S hw (by omega) rfl rfl rfl in_X7 (by decide) wf_X7_12 dX7_attempt_171 ?_
    refine m_VV (As := [.int (nI (hrS r1 r2 cc)), .ref (ad 1)]) (rest := []) 20 S hw (by omega) rfl rfl (c_X1_pass l G (61 + 13 * K) K ad M3 h34 t (hrS r1 r2 cc) hft (by omega)) mf_X1_pass wm_X7_248 ⟨Nat.le_of_ble_eq_true rfl, Nat.le_of_ble_eq_true rfl⟩ hcs hl.1 rfl (Nat.le_of_ble_eq_true rfl) dX7_attempt_174 (fun M5 H locs hp5 hw => ?_)
    obtain ⟨ep0, ep1, ep2, fr5⟩ := hp5
    have hp12 : M5 12 0 = nI Wn := (congrFun ((fr5 12 (by omega)).trans ((hrf 12 (by omega) (by omega) (by omega)).trans (he 12 (by omega)).symm)) 0).trans hWn
    have hp13 : ∀ w, w < Wn → inB (M5 13 w) 48 = true := by rw [(fr5 13 (by omega)).trans ((hrf 13 (by omega) (by omega) (by omega)).trans (he 13 (by omega)).symm)]; exact hwt
    refine lv_aload_n S.1 S.2.1 dX7_attempt_177 rfl (lv_at hl 2 rfl) ?_
    refine m_getR 0 2 12 S hw (by omega) rfl rfl rfl in_X7 (by decide) wf_X7_26 dX7_attempt_178 ?_
    refine lv_aload_n S.1 S.2.1 dX7_attempt_181 rfl (lv_at hl 2 rfl) ?_
    refine m_getR 0 6 20 S hw (by omega) rfl rfl rfl in_X7 (by decide) wf_X7_47 dX7_attempt_182 ?_
    refine m_VV (As := [.ref (ad 20)]) (rest := []) 12 S hw (by omega) rfl rfl (c_X6_keep l G (61 + 13 * K) K ad M5 h34 Wn hp12 hW20 hp13) mf_X6_keep wm_X7_252 ⟨Nat.le_of_ble_eq_true rfl, Nat.le_of_ble_eq_true rfl⟩ hcs hl.1 rfl (Nat.le_of_ble_eq_true rfl) dX7_attempt_185 (fun M6 H locs hp6 hw => ?_)
    obtain ⟨ek32, fr6⟩ := hp6
    have hkb : M6 20 2 = nI bn := (congrFun (fr6 20 (by omega)) 2).trans (ep2.trans ((congrFun (e20_3.trans ((hrw 20 (by omega) (by omega)).trans (he 20 (by omega)).symm)) 2).trans hbn))
    refine lv_aload_n S.1 S.2.1 dX7_attempt_188 rfl (lv_at hl 2 rfl) ?_
    refine lv_iload_n S.1 S.2.1 dX7_attempt_189 rfl (lv_at hl 5 rfl) ?_
    refine lv_iload_n S.1 S.2.1 dX7_attempt_190 rfl (lv_at hl 3 rfl) ?_
    refine m_VI (As := [.int (nI k), .int (nI a)]) (rest := []) 0 S hw (by omega) rfl rfl (c_X7_register l G (61 + 13 * K) K ad M6 h34 bn hkb hbn1 (nI k) (nI a)) mf_X7_register wm_X7_255 ⟨Nat.le_of_ble_eq_true rfl, Nat.le_of_ble_eq_true rfl⟩ hcs hl.1 rfl (Nat.le_of_ble_eq_true rfl) dX7_attempt_191 (fun r7 M7 H locs hp7 hw => ?_)
    obtain ⟨er7, eg18, eg19, eg20, fr7⟩ := hp7
    refine m_top (show r7 = nI bn from er7) ?_
    have hsp : ∀ i, i ≠ 18 → i ≠ 19 → i ≠ 20 → i ≠ 32 → M7 i = M3 i := fun i h18 h19 h20 h32 => (fr7 i (by omega)).trans ((fr6 i (by omega)).trans (fr5 i (by omega)))
    have hA : MoA n bn (mom M0 20) (mom M7 mo) := mo1.to (fun r hr => (he (20 + r) (by omega)).symm) (fun r hr => (hsp (mo + r) (by omega) (by omega) (by omega) (by omega)).trans ((fr3 (mo + r) (by have := hmo.lt; omega)).trans (fr2 (mo + r) (by have := hmo.lt; omega))))
    have hfa : ∀ i, i ≠ 17 → i ≠ 18 → i ≠ 19 → (i < 20 ∨ 33 ≤ i) → (i < mo ∨ mo + 13 ≤ i) → M7 i = M i := fun i h17 h18 h19 h20 hm => (hsp i h18 h19 (by omega) (by omega)).trans ((fr3 i (by omega)).trans ((fr2 i (by omega)).trans (fr1 i (by omega))))
    have hrg : RG n D (bn + 1) M0 (mom M7 20) (attF M0 bn n lo hi a b k cc).2 := RG.rows (fun r h1 h2 h3 => hsp (20 + r) (by omega) (by omega) (by omega) (by omega)) (RG.T9 (hrw 9 (by omega) (by omega)).symm ((erg3 hzb).trans (hcg.2 hzb)))
    have ho0 : M7 20 0 = nI (t + hrS r1 r2 cc) := by rw [eg20, pk_un (by decide), fr6 20 (by omega), ep0]
    have ho1 : M7 20 1 = passC (M0 5) t (M0 20 1) (hrS r1 r2 cc) := by rw [eg20, pk_un (by decide), fr6 20 (by omega), ep1, hrf 5 (by omega) (by omega) (by omega), e20_3, hrw 20 (by omega) (by omega)]
    have ho2 : M7 20 2 = nI (bn + 1) := by rw [eg20, pk_us]
    have ho3 : M7 21 0 = nI n := by rw [hsp 21 (by omega) (by omega) (by omega) (by omega), e21_3, hrw 21 (by omega) (by omega), ← he 21 (by omega)]; exact hn
    have hp29 : M7 29 = M5 29 := (fr7 29 (by omega)).trans (fr6 29 (by omega))
    have ho4 : M7 32 = keepF (M0 32) (wantS (M0 13) (M0 14) (M0 16) (M7 29)) (nI (t + hrS r1 r2 cc)) Wn := by rw [fr7 32 (by omega), ek32, hp29, ep0, fr5 32 (by omega), e32_3, hrw 32 (by omega) (by omega), fr5 13 (by omega), fr5 14 (by omega), fr5 16 (by omega), hrf 13 (by omega) (by omega) (by omega), hrf 14 (by omega) (by omega) (by omega), hrf 16 (by omega) (by omega) (by omega)]
    have ho5 : M7 18 = upd (M0 18) bn (nI k) := by rw [eg18, fr6 18 (by omega), fr5 18 (by omega), hrf 18 (by omega) (by omega) (by omega)]
    have ho6 : M7 19 = upd (M0 19) bn (nI a) := by rw [eg19, fr6 19 (by omega), fr5 19 (by omega), hrf 19 (by omega) (by omega) (by omega)]
    exact q_reti S hr hlocks hw dX7_attempt_194 hcs (hpost _ _ ⟨hA, fun i _ h17 h18 h19 h20 hm => hfa i h17 h18 h19 h20 hm, Or.inr ⟨hz, rfl, hrg, ho0, ho1, ho2, ho3, ho4, ho5, ho6⟩⟩)
  · have hz : ¬ (attF M0 bn n lo hi a b k cc).1 = 0 := fun z => c4 ((nI_z (flow_le _ _)).mpr z)
    have hfm : ∀ r, r < 13 → M3 (mo + r) = M1 (mo + r) := fun r hr => (fr3 (mo + r) (by have := hmo.lt; omega)).trans (fr2 (mo + r) (by have := hmo.lt; omega))
    have hcn : M3 (mo + 1) 0 = nI n := (congrFun (hfm 1 (by omega)) 0).trans mo1.2.2.2.1
    have hcb : M3 mo 2 = nI bn := (congrFun (hfm 0 (by omega)) 2).trans mo1.2.2.1
    refine lv_aload_n S.1 S.2.1 dX7_attempt_143 rfl (lv_at hl 2 rfl) ?_
    refine m_getR 0 6 20 S hw (by omega) rfl rfl rfl in_X7 (by decide) wf_X7_47 dX7_attempt_144 ?_
    refine lv_aload S.1 S.2.1 dX7_attempt_147 (lv_at hl 1 rfl) ?_
    refine m_VV (As := [.ref (ad mo)]) (rest := []) 20 S hw (by omega) rfl rfl (c_X1_copyFrom l G (61 + 13 * K) K ad M3 20 (isM20 (by omega)) mo hmo (by omega) n hcn hn1 bn hcb (by omega)) mf_X1_copyFrom wm_X7_156 ⟨Nat.le_of_ble_eq_true rfl, Nat.le_of_ble_eq_true rfl⟩ hcs hl.1 rfl (Nat.le_of_ble_eq_true rfl) dX7_attempt_149 (fun M8 H locs hp8 hw => ?_)
    have mo8 := copy_mo hp8
    have fr8 : Fr 20 (20 + 13) M3 M8 := hp8.2.2.2.2.2.2.2.2.2.2.2.2.2.2
    refine lv_bipush (v := (-10)) S.1 S.2.1 dX7_attempt_152 (by decide) ?_
    refine lv_iload S.1 S.2.1 dX7_attempt_154 (lv_at hl 0 rfl) ?_
    refine lv_isub S.1 S.2.1 dX7_attempt_156 ?_
    have hA : MoA n bn (mom M0 20) (mom M8 mo) := mo1.to (fun r hr => (he (20 + r) (by omega)).symm) (fun r hr => ((fr8 (mo + r) (by have := hmo.lt; omega)).trans (hfm r hr)))
    have hB : MoA n bn (mom M0 20) (mom M8 20) := (mo1.to (R2 := mom M0 20) (fun r hr => (he (20 + r) (by omega)).symm) (fun r hr => hfm r hr)).tr mo8
    have hfa : ∀ i, i ≠ 17 → (i < 20 ∨ 33 ≤ i) → (i < mo ∨ mo + 13 ≤ i) → M8 i = M i := fun i h17 h20 hm => (fr8 i (by omega)).trans ((fr3 i (by omega)).trans ((fr2 i (by omega)).trans (fr1 i (by omega))))
    exact q_reti S hr hlocks hw dX7_attempt_157 hcs (hpost _ _ ⟨hA, fun i _ h17 h18 h19 h20 hm => hfa i h17 h20 hm, Or.inl ⟨hz, rfl, hB, (hfa 18 (by omega) (by omega) (by omega)).trans (he 18 (by omega)), (hfa 19 (by omega) (by omega) (by omega)).trans (he 19 (by omega))⟩⟩)
