/-- the cases of a push -/
def Old (K : Nat) (M M1 : Mem) : Prop := ∀ i, i < 61 + 13 * K → M1 i = M i
def attFx (M : Mem) (bn n : Nat) (x y u v : Int32) : Nat × Mem := attF M bn n (tn (M 7 (tn x))) (tn (M 7 (tn y))) (tn x) (tn y) (tn u) (tn v)
def attHx (M : Mem) (x y v : Int32) : Nat := hrS (tn (M 8 (tn x))) (tn (M 8 (tn y))) (tn v)
def attD (D bn n : Nat) (M : Mem) (x y u v r : Int32) (old no ok : Prop) : Prop := Dec1 ((inB x D && inB y D) && inB u 8) (r = -1 ∧ old) (Dec1 (decide (tn (M 7 (tn x)) < tn (M 7 (tn y))) && wi v (nI 1) (nI 60)) (r = -2 ∧ old) (Dec1 (decide (bn < 200)) (r = -4 ∧ old) (Dec1 (decide ((attFx M bn n x y u v).1 = 0)) (r = -10 - nI (attFx M bn n x y u v).1 ∧ no) (r = nI bn ∧ ok))))
theorem m10_neg {a : Nat} (h : a ≤ 3) : (-10 : Int32) - nI a < 0 := by
  rcases (show a = 0 ∨ a = 1 ∨ a = 2 ∨ a = 3 by omega) with rfl | rfl | rfl | rfl <;> decide
theorem nI_nneg {a : Nat} (h : a < 2 ^ 31) : ¬ nI a < 0 := fun z => by
  rw [Int32.lt_iff_toInt_lt, nI_toInt h] at z
  have : (0 : Int32).toInt = 0 := by decide
  omega
theorem attD.split {D bn n : Nat} {M : Mem} {x y u v r : Int32} {old no ok : Prop} (h : attD D bn n M x y u v r old no ok) (hb : bn ≤ 200) : (r < 0 ∧ ∀ ok', attD D bn n M x y u v r old no ok') ∨ (¬ r < 0 ∧ ok ∧ ∀ old' no' ok' : Prop, ok' → attD D bn n M x y u v r old' no' ok') := by
  rcases h with ⟨e, rfl, o⟩ | ⟨e, h⟩
  · exact Or.inl ⟨by decide, fun _ => Or.inl ⟨e, rfl, o⟩⟩
  · rcases h with ⟨e2, rfl, o⟩ | ⟨e2, h⟩
    · exact Or.inl ⟨by decide, fun _ => Or.inr ⟨e, Or.inl ⟨e2, rfl, o⟩⟩⟩
    · rcases h with ⟨e3, rfl, o⟩ | ⟨e3, h⟩
      · exact Or.inl ⟨by decide, fun _ => Or.inr ⟨e, Or.inr ⟨e2, Or.inl ⟨e3, rfl, o⟩⟩⟩⟩
      · rcases h with ⟨e4, rfl, o⟩ | ⟨e4, rfl, o⟩
        · exact Or.inl ⟨m10_neg (flow_le _ _), fun _ => Or.inr ⟨e, Or.inr ⟨e2, Or.inr ⟨e3, Or.inl ⟨e4, rfl, o⟩⟩⟩⟩⟩
        · exact Or.inr ⟨nI_nneg (by omega), o, fun _ _ _ k => Or.inr ⟨e, Or.inr ⟨e2, Or.inr ⟨e3, Or.inr ⟨e4, rfl, k⟩⟩⟩⟩⟩
theorem attD.map {D bn n : Nat} {M : Mem} {x y u v r : Int32} {old no ok old' no' ok' : Prop} (h : attD D bn n M x y u v r old no ok) (f : old → old') (g : no → no') (k : ok → ok') : attD D bn n M x y u v r old' no' ok' := by
  rcases h with ⟨e, e', o⟩ | ⟨e, h⟩
  · exact Or.inl ⟨e, e', f o⟩
  · rcases h with ⟨e2, e', o⟩ | ⟨e2, h⟩
    · exact Or.inr ⟨e, Or.inl ⟨e2, e', f o⟩⟩
    · rcases h with ⟨e3, e', o⟩ | ⟨e3, h⟩
      · exact Or.inr ⟨e, Or.inr ⟨e2, Or.inl ⟨e3, e', f o⟩⟩⟩
      · rcases h with ⟨e4, e', o⟩ | ⟨e4, e', o⟩
        · exact Or.inr ⟨e, Or.inr ⟨e2, Or.inr ⟨e3, Or.inl ⟨e4, e', g o⟩⟩⟩⟩
        · exact Or.inr ⟨e, Or.inr ⟨e2, Or.inr ⟨e3, Or.inr ⟨e4, e', k o⟩⟩⟩⟩
/-- what comes of it: nothing was to be done, refused on the way, gone through -/
def attNr (n bn : Nat) (M M1 : Mem) : Prop := MoA n bn (mom M 20) (mom M1 20) ∧ M1 18 = M 18 ∧ M1 19 = M 19
def attKr (n D bn t Wn : Nat) (x y u v : Int32) (M M1 : Mem) : Prop := RG n D (bn + 1) M (mom M1 20) (attFx M bn n x y u v).2 ∧ M1 20 0 = nI (t + attHx M x y v) ∧ M1 20 1 = passC (M 5) t (M 20 1) (attHx M x y v) ∧ M1 20 2 = nI (bn + 1) ∧ M1 21 0 = nI n ∧ M1 32 = keepF (M 32) (wantS (M 13) (M 14) (M 16) (M1 29)) (nI (t + attHx M x y v)) Wn ∧ M1 18 = upd (M 18) bn u ∧ M1 19 = upd (M 19) bn x
def attS (K P n bn : Nat) (M : Mem) (s : Sa) : Prop := P < s.1 ∧ MoA n bn (mom M 20) (mom s.2.2 (61 + 13 * P)) ∧ attFr K (61 + 13 * P) M s.2.2
def attFr0 (K mo : Nat) (M M1 : Mem) : Prop := ∀ i, i < 61 + 13 * K → i ≠ 0 → i ≠ 17 → i ≠ 18 → i ≠ 19 → (i < 20 ∨ 33 ≤ i) → (i < mo ∨ mo + 13 ≤ i) → M1 i = M i
/-- what an attempt needs -/
def AttH (K : Nat) (M : Mem) (P D n bn t Wn : Nat) : Prop := M 0 8 = nI P ∧ P ≤ K ∧ P < bn ∧ M 6 0 = nI D ∧ D ≤ 6 ∧ M 21 0 = nI n ∧ n ≤ 120 ∧ M 20 2 = nI bn ∧ bn ≤ 200 ∧ M 20 0 = nI t ∧ t < 2 ^ 30 ∧ M 12 0 = nI Wn ∧ Wn ≤ 20 ∧ (∀ d, d < D → inB (M 7 d) (n + 1) = true) ∧ (∀ d, d < D → wi (M 8 d) (nI 1) (nI 60) = true) ∧ Z01 (M 2) 64 ∧ VR n bn (mom M 20) ∧ (∀ w, w < Wn → inB (M 13 w) 48 = true)

set_option maxHeartbeats 4000000 in
set_option maxRecDepth 100000 in
theorem c_X7_attempt (l : Launch) (G : GT) (K : Nat) (ad : Nat → Nat) (M : Mem) (P D n bn t Wn : Nat) (hA : AttH K M P D n bn t Wn) (x y u v : Int32) : CaI l G K ad yX7_attempt cX7_attempt 7 .int 5 129 13 866 [.ref (ad 0), .int x, .int y, .int u, .int v] M (fun r s => Ext K ad s ∧ attD D bn n M x y u v r (Old K M s.2.2) (attS K P n bn M s ∧ attNr n bn M s.2.2) (attS K P n bn M s ∧ attKr n 6 bn t Wn x y u v M s.2.2)) := by
  refine ca_start (by decide +kernel) (Nat.le_of_ble_eq_true rfl) ?_
  intro p e s m below meth c ls S hr hlocks hw hl
  have h34 : 34 ≤ 61 + 13 * K := by omega
  obtain ⟨hP0, hPK, hPb, hD, hD6, hn, hn1, hbn, hbn1, ht, ht30, hWn, hW20, hpl, hrt, hz2, hvr, hwt⟩ := hA
  have hl : lv_has ls 7 [(0, .ref (ad 0)), (1, .int x), (2, .int y), (3, .int u), (4, .int v)] := hl
  refine lv_aload_n S.1 S.2.1 dX7_attempt_0 rfl (lv_at hl 0 rfl) ?_
  refine m_getR 0 1 6 S hw (by omega) rfl rfl rfl in_X7 (by decide) wf_X7_19 dX7_attempt_1 ?_
  refine lv_iload_n S.1 S.2.1 dX7_attempt_4 rfl (lv_at hl 1 rfl) ?_
  refine r_VI (As := [.int x]) (rest := []) 6 S hw (by omega) rfl rfl (c_X0_has l G (61 + 13 * K) K ad M h34 D hD hD6 x) mf_X0_has wm_X7_89 ⟨by decide, by decide⟩ ⟨Nat.zero_le _, Nat.zero_le _⟩ hl.1 rfl (Nat.le_of_ble_eq_true rfl) dX7_attempt_5 (fun H locs hw => ?_)
  refine b_eq (tgt := 29) S dX7_attempt_8 (by decide) (fun c1 => ?_) (fun c1 => ?_)
  · refine lv_iconst (v := (-1)) S.1 S.2.1 dX7_attempt_29 (by decide) ?_
    exact q_reti S hr hlocks hw dX7_attempt_30 ⟨Nat.zero_le _, Nat.zero_le _⟩ ⟨⟨Nat.le_refl _, fun _ _ => rfl⟩, Dec1.no (and_f1 (and_f1 c1)) ⟨rfl, fun _ _ => rfl⟩⟩
  · obtain ⟨a, ha, ea⟩ := inB_of c1 (by omega)
    have ta : tn x = a := tn_of ea (by omega)
    refine lv_aload_n S.1 S.2.1 dX7_attempt_11 rfl (lv_at hl 0 rfl) ?_
    refine m_getR 0 1 6 S hw (by omega) rfl rfl rfl in_X7 (by decide) wf_X7_19 dX7_attempt_12 ?_
    refine lv_iload_n S.1 S.2.1 dX7_attempt_15 rfl (lv_at hl 2 rfl) ?_
    refine r_VI (As := [.int y]) (rest := []) 6 S hw (by omega) rfl rfl (c_X0_has l G (61 + 13 * K) K ad M h34 D hD hD6 y) mf_X0_has wm_X7_89 ⟨by decide, by decide⟩ ⟨Nat.zero_le _, Nat.zero_le _⟩ hl.1 rfl (Nat.le_of_ble_eq_true rfl) dX7_attempt_16 (fun H locs hw => ?_)
    refine b_eq (tgt := 29) S dX7_attempt_19 (by decide) (fun c2 => ?_) (fun c2 => ?_)
    · refine lv_iconst (v := (-1)) S.1 S.2.1 dX7_attempt_29 (by decide) ?_
      exact q_reti S hr hlocks hw dX7_attempt_30 ⟨Nat.zero_le _, Nat.zero_le _⟩ ⟨⟨Nat.le_refl _, fun _ _ => rfl⟩, Dec1.no (and_f1 (and_f2 c2)) ⟨rfl, fun _ _ => rfl⟩⟩
    · obtain ⟨b, hb, eb⟩ := inB_of c2 (by omega)
      have tb : tn y = b := tn_of eb (by omega)
      refine lv_iload_n S.1 S.2.1 dX7_attempt_22 rfl (lv_at hl 3 rfl) ?_
      refine r_SI (As := [.int u]) (rest := []) S hw (c_X7_isKind l G (61 + 13 * K) K ad M u) mf_X7_isKind wm_X7_92 ⟨by decide, by decide⟩ ⟨Nat.zero_le _, Nat.zero_le _⟩ hl.1 rfl (Nat.le_of_ble_eq_true rfl) dX7_attempt_23 (fun H locs hw => ?_)
      refine b_ne (tgt := 31) S dX7_attempt_26 (by decide) (fun c3 => ?_) (fun c3 => ?_)
      · obtain ⟨k, hk, ek⟩ := inB_of c3 (by omega)
        have tk : tn u = k := tn_of ek (by omega)
        obtain ⟨lo, hlon, e7a⟩ := inB_of (hpl a ha) (by omega)
        obtain ⟨hi, hhin, e7b⟩ := inB_of (hpl b hb) (by omega)
        refine lv_aload_n S.1 S.2.1 dX7_attempt_31 rfl (lv_at hl 0 rfl) ?_
        refine m_getR 0 1 6 S hw (by omega) rfl rfl rfl in_X7 (by decide) wf_X7_19 dX7_attempt_32 ?_
        refine m_getR 6 1 7 S hw (by omega) rfl rfl rfl in_X0 (by decide) wf_X7_205 dX7_attempt_35 ?_
        refine lv_iload_n S.1 S.2.1 dX7_attempt_38 rfl (lv_at hl 2 rfl) ?_
        refine m_top (show y = nI b from eb) ?_
        refine m_ald 7 b S hw (by omega) rfl (by decide) (by omega) rfl dX7_attempt_39 ?_
        refine m_top (show M 7 b = nI hi from e7b) ?_
        refine lv_aload_n S.1 S.2.1 dX7_attempt_40 rfl (lv_at hl 0 rfl) ?_
        refine m_getR 0 1 6 S hw (by omega) rfl rfl rfl in_X7 (by decide) wf_X7_19 dX7_attempt_41 ?_
        refine m_getR 6 1 7 S hw (by omega) rfl rfl rfl in_X0 (by decide) wf_X7_205 dX7_attempt_44 ?_
        refine lv_iload_n S.1 S.2.1 dX7_attempt_47 rfl (lv_at hl 1 rfl) ?_
        refine m_top (show x = nI a from ea) ?_
        refine m_ald 7 a S hw (by omega) rfl (by decide) (by omega) rfl dX7_attempt_48 ?_
        refine m_top (show M 7 a = nI lo from e7a) ?_
        refine n_le (tgt := 63) S (by omega) (by omega) dX7_attempt_49 (by decide) (fun c4 => ?_) (fun c4 => ?_)
        · refine lv_bipush (v := (-2)) S.1 S.2.1 dX7_attempt_63 (by decide) ?_
          exact q_reti S hr hlocks hw dX7_attempt_65 ⟨Nat.zero_le _, Nat.zero_le _⟩ ⟨⟨Nat.le_refl _, fun _ _ => rfl⟩, Dec1.yes (and_t (and_t c1 c2) c3) (Dec1.no (and_f1 (by rw [ta, tb, e7a, e7b, tn_nI (by omega), tn_nI (by omega)]; exact decide_eq_false (by omega))) ⟨rfl, fun _ _ => rfl⟩)⟩
        · refine lv_iload S.1 S.2.1 dX7_attempt_52 (lv_at hl 4 rfl) ?_
          refine lv_iconst (v := nI 1) S.1 S.2.1 dX7_attempt_54 (by decide) ?_
          refine lv_bipush (v := nI 60) S.1 S.2.1 dX7_attempt_55 (by decide) ?_
          refine r_SI (As := [.int v, .int (nI 1), .int (nI 60)]) (rest := []) S hw (c_X7_within l G (61 + 13 * K) K ad M v (nI 1) (nI 60)) mf_X7_within wm_X7_63 ⟨by decide, by decide⟩ ⟨Nat.zero_le _, Nat.zero_le _⟩ hl.1 rfl (Nat.le_of_ble_eq_true rfl) dX7_attempt_57 (fun H locs hw => ?_)
          refine b_ne (tgt := 66) S dX7_attempt_60 (by decide) (fun c5 => ?_) (fun c5 => ?_)
          · refine lv_aload_n S.1 S.2.1 dX7_attempt_66 rfl (lv_at hl 0 rfl) ?_
            refine m_getR 0 6 20 S hw (by omega) rfl rfl rfl in_X7 (by decide) wf_X7_47 dX7_attempt_67 ?_
            refine m_getI 20 2 S hw (by omega) rfl rfl rfl in_X1 (by decide) wf_X7_160 dX7_attempt_70 ?_
            refine m_top (show M 20 2 = nI bn from hbn) ?_
            refine lv_sipush (v := nI 200) S.1 S.2.1 dX7_attempt_73 (by decide) ?_
            refine n_lt (tgt := 82) S (by omega) (by omega) dX7_attempt_76 (by decide) (fun c6 => ?_) (fun c6 => ?_)
            · refine lv_aload_n S.1 S.2.1 dX7_attempt_82 rfl (lv_at hl 0 rfl) ?_
              refine lv_aload_n S.1 S.2.1 dX7_attempt_83 rfl (lv_at hl 0 rfl) ?_
              refine m_getI 0 8 S hw (by omega) rfl rfl rfl in_X7 (by decide) wf_X7_55 dX7_attempt_84 ?_
              refine m_top (show M 0 8 = nI P from hP0) ?_
              obtain ⟨cc, hcc1, hcc, ecc⟩ := wi_160 c5
              obtain ⟨r1, h1a, h1b, h1⟩ := wi_160 (hrt a ha)
              obtain ⟨r2, h2a, h2b, h2⟩ := wi_160 (hrt b hb)
              have tcc : tn v = cc := tn_of ecc (by omega)
              refine a_VR (As := [.int (nI P)]) (rest := []) S hw (c_X7_earlierAt l G K ad M P hPK (by omega)) mf_X7_earlierAt wm_X7_152 ⟨by decide, by decide⟩ ⟨by decide, by decide⟩ hl.1 rfl (Nat.le_of_ble_eq_true rfl) dX7_attempt_87 (fun K1 ad1 M1 H locs hp hw => ?_)
              obtain ⟨⟨hx1, hx2⟩, hPK1, hold⟩ := hp
              have hx1 : K ≤ K1 := hx1
              have hx2 : ∀ i, i < 61 + 13 * K → ad1 i = ad i := hx2
              have hold : ∀ i, i < 61 + 13 * K → M1 i = M i := hold
              have hPK1 : P < K1 := hPK1
              have hl : lv_has ls 7 [(0, .ref (ad1 0)), (1, .int (nI a)), (2, .int (nI b)), (3, .int (nI k)), (4, .int (nI cc))] := by rw [hx2 0 (by omega), ← ea, ← eb, ← ek, ← ecc]; exact hl
              refine att2 (cells := 0 + 13) (slots := 0 + 866) S hr hlocks ⟨by decide, by decide⟩ hw (by omega) (61 + 13 * P) (isMj hPK1) (by omega) 6 (Nat.le_refl 6) n ((congrFun (hold 21 (by omega)) 0).trans hn) hn1 bn ((congrFun (hold 20 (by omega)) 2).trans hbn) (by omega) lo hi a b k cc c4 (by omega) (by omega) (by omega) hk hcc ((congrFun (hold 7 (by omega)) a).trans e7a) ((congrFun (hold 7 (by omega)) b).trans e7b) r1 r2 ((congrFun (hold 8 (by omega)) a).trans h1) h1a h1b ((congrFun (hold 8 (by omega)) b).trans h2) h2a h2b (by rw [hold 2 (by omega)]; exact hz2) (VR.rows hvr (Nat.le_refl _) (hold 22 (by omega)) (hold 23 (by omega)) (hold 24 (by omega))) t ((congrFun (hold 20 (by omega)) 0).trans ht) ht30 Wn ((congrFun (hold 12 (by omega)) 0).trans hWn) hW20 (by rw [hold 13 (by omega)]; exact hwt) M (fun i hi2 => hold i (by omega)) hl (fun r M2 hq => ?_)
              obtain ⟨hq1, hq2, hq3⟩ := hq
              have hS : attS K P n bn M (K1, ad1, M2) := ⟨hPK1, hq1, fun i hi2 h17 h18 h19 h20 hm => (hq2 i (by omega) h17 h18 h19 h20 hm).trans (hold i hi2)⟩
              have hFx : attFx M bn n x y u v = attF M bn n lo hi a b k cc := by unfold attFx; rw [ta, tb, tk, tcc, e7a, e7b, tn_nI (by omega), tn_nI (by omega)]
              have hHx : attHx M x y v = hrS r1 r2 cc := by unfold attHx; rw [ta, tb, tcc, h1, h2, tn_nI (by omega), tn_nI (by omega)]
              refine ⟨⟨hx1, hx2⟩, Dec1.yes (and_t (and_t c1 c2) c3) (Dec1.yes (and_t (by rw [ta, tb, e7a, e7b, tn_nI (by omega), tn_nI (by omega)]; exact decide_eq_true c4) c5) (Dec1.yes (decide_eq_true (by omega)) ?_))⟩
              rcases hq3 with ⟨q1, q2, q3⟩ | ⟨q1, q2, q3⟩
              · exact Dec1.no (decide_eq_false (by rw [hFx]; exact q1)) ⟨by rw [hFx]; exact q2, hS, q3⟩
              · exact Dec1.yes (decide_eq_true (by rw [hFx]; exact q1)) ⟨q2, hS, by unfold attKr; rw [hFx, hHx, ek, ea]; exact q3⟩
            · refine lv_bipush (v := (-4)) S.1 S.2.1 dX7_attempt_79 (by decide) ?_
              exact q_reti S hr hlocks hw dX7_attempt_81 ⟨Nat.zero_le _, Nat.zero_le _⟩ ⟨⟨Nat.le_refl _, fun _ _ => rfl⟩, Dec1.yes (and_t (and_t c1 c2) c3) (Dec1.yes (and_t (by rw [ta, tb, e7a, e7b, tn_nI (by omega), tn_nI (by omega)]; exact decide_eq_true c4) c5) (Dec1.no (decide_eq_false (by omega)) ⟨rfl, fun _ _ => rfl⟩))⟩
          · refine lv_bipush (v := (-2)) S.1 S.2.1 dX7_attempt_63 (by decide) ?_
            exact q_reti S hr hlocks hw dX7_attempt_65 ⟨Nat.zero_le _, Nat.zero_le _⟩ ⟨⟨Nat.le_refl _, fun _ _ => rfl⟩, Dec1.yes (and_t (and_t c1 c2) c3) (Dec1.no (and_f2 c5) ⟨rfl, fun _ _ => rfl⟩)⟩
      · refine lv_iconst (v := (-1)) S.1 S.2.1 dX7_attempt_29 (by decide) ?_
        exact q_reti S hr hlocks hw dX7_attempt_30 ⟨Nat.zero_le _, Nat.zero_le _⟩ ⟨⟨Nat.le_refl _, fun _ _ => rfl⟩, Dec1.no (and_f2 c3) ⟨rfl, fun _ _ => rfl⟩⟩

theorem attKr.to {n D bn t Wn : Nat} {x y u v : Int32} {M M1 M2 : Mem} (h : attKr n D bn t Wn x y u v M M1) (he : ∀ i, 17 ≤ i → i < 33 → M2 i = M1 i) : attKr n D bn t Wn x y u v M M2 := by
  obtain ⟨h1, h2, h3, h4, h5, h6, h7, h8⟩ := h
  refine ⟨RG.rows (fun r a b c => he (20 + r) (by omega) (by omega)) h1, ?_, ?_, ?_, ?_, ?_, ?_, ?_⟩
  · rw [he 20 (by omega) (by omega)]; exact h2
  · rw [he 20 (by omega) (by omega)]; exact h3
  · rw [he 20 (by omega) (by omega)]; exact h4
  · rw [he 21 (by omega) (by omega)]; exact h5
  · rw [he 32 (by omega) (by omega), he 29 (by omega) (by omega)]; exact h6
  · rw [he 18 (by omega) (by omega)]; exact h7
  · rw [he 19 (by omega) (by omega)]; exact h8

set_option maxHeartbeats 4000000 in
set_option maxRecDepth 100000 in
theorem c_X7_push (l : Launch) (G : GT) (K : Nat) (ad : Nat → Nat) (M : Mem) (P D n bn t Wn : Nat) (hA : AttH K M P D n bn t Wn) (x y u v : Int32) : CaI l G K ad yX7_push cX7_push 6 .int 6 155 13 866 [.ref (ad 0), .int x, .int y, .int u, .int v] M (fun r s => Ext K ad s ∧ attD D bn n M x y u v r (Old K M s.2.2) (attS K P n bn M s ∧ attNr n bn M s.2.2) (P < s.1 ∧ MoA n bn (mom M 20) (mom s.2.2 (61 + 13 * P)) ∧ attFr0 K (61 + 13 * P) M s.2.2 ∧ s.2.2 0 = upd (M 0) 8 (nI (P + 1)) ∧ attKr n 6 bn t Wn x y u v M s.2.2)) := by
  refine ca_start (by decide +kernel) (Nat.le_of_ble_eq_true rfl) ?_
  intro p e s m below meth c ls S hr hlocks hw hl
  have h34 : 34 ≤ 61 + 13 * K := by omega
  have hl : lv_has ls 6 [(0, .ref (ad 0)), (1, .int x), (2, .int y), (3, .int u), (4, .int v)] := hl
  refine lv_aload_n S.1 S.2.1 dX7_push_0 rfl (lv_at hl 0 rfl) ?_
  refine lv_iload_n S.1 S.2.1 dX7_push_1 rfl (lv_at hl 1 rfl) ?_
  refine lv_iload_n S.1 S.2.1 dX7_push_2 rfl (lv_at hl 2 rfl) ?_
  refine lv_iload_n S.1 S.2.1 dX7_push_3 rfl (lv_at hl 3 rfl) ?_
  refine lv_iload S.1 S.2.1 dX7_push_4 (lv_at hl 4 rfl) ?_
  refine a_VI (As := [.int x, .int y, .int u, .int v]) (rest := []) S hw (c_X7_attempt l G K ad M P D n bn t Wn hA x y u v) mf_X7_attempt wm_X7_149 ⟨by decide, by decide⟩ ⟨by decide, by decide⟩ hl.1 rfl (Nat.le_of_ble_eq_true rfl) dX7_push_6 (fun r K1 ad1 M1 H locs hp hw => ?_)
  obtain ⟨⟨hx1, hx2⟩, hp⟩ := hp
  have hx1 : K ≤ K1 := hx1
  have hx2 : ∀ i, i < 61 + 13 * K → ad1 i = ad i := hx2
  have hl : lv_has ls 6 [(0, .ref (ad1 0)), (1, .int x), (2, .int y), (3, .int u), (4, .int v)] := by rw [hx2 0 (by omega)]; exact hl
  refine lv_istore (lv' := [(5, .int r), (0, .ref (ad1 0)), (1, .int x), (2, .int y), (3, .int u), (4, .int v)]) S.1 S.2.1 dX7_push_9 hl (by decide) rfl (fun ls hl => ?_)
  refine lv_iload S.1 S.2.1 dX7_push_11 (lv_at hl 0 rfl) ?_
  rcases attD.split hp hA.2.2.2.2.2.2.2.2.1 with ⟨hneg, hq⟩ | ⟨hneg, hok, hq⟩
  · refine lv_if_lt (tgt := 26) S.1 S.2.1 dX7_push_13 (by decide) (fun _ => ?_) (fun z => absurd hneg z)
    refine lv_iload S.1 S.2.1 dX7_push_26 (lv_at hl 0 rfl) ?_
    exact q_reti S hr hlocks hw dX7_push_28 ⟨by decide, by decide⟩ ⟨⟨hx1, hx2⟩, hq _⟩
  · refine lv_if_lt (tgt := 26) S.1 S.2.1 dX7_push_13 (by decide) (fun z => absurd z hneg) (fun _ => ?_)
    obtain ⟨⟨hs1, hs2, hs3⟩, hk⟩ := hok
    have hs1 : P < K1 := hs1
    have hs3 : attFr K (61 + 13 * P) M M1 := hs3
    have h00 : M1 0 = M 0 := hs3 0 (by omega) (by omega) (by omega) (by omega) (by omega) (by omega)
    refine lv_aload_n S.1 S.2.1 dX7_push_16 rfl (lv_at hl 1 rfl) ?_
    refine lv_dup S.1 S.2.1 dX7_push_17 rfl ?_
    refine m_getI 0 8 S hw (by omega) rfl rfl rfl in_X7 (by decide) wf_X7_55 dX7_push_18 ?_
    refine m_top (show M1 0 8 = nI P from (congrFun h00 8).trans hA.1) ?_
    refine lv_iconst (v := nI 1) S.1 S.2.1 dX7_push_21 (by decide) ?_
    refine lv_iadd S.1 S.2.1 dX7_push_22 ?_
    refine m_top (show nI P + nI 1 = nI (P + 1) from nI_add _ _) ?_
    refine n_putI 0 8 S hw (by omega) rfl rfl rfl in_X7 tyX7_ok nmX7 (by decide) rfl rfl wf_X7_55 dX7_push_23 (fun M2 H locs eM2 hw => ?_)
    refine lv_iload S.1 S.2.1 dX7_push_26 (lv_at hl 0 rfl) ?_
    have h2 : ∀ i, i ≠ 0 → M2 i = M1 i := fun i hi => by rw [eM2]; exact va_up_ne _ _ hi
    exact q_reti S hr hlocks hw dX7_push_28 ⟨by decide, by decide⟩ ⟨⟨hx1, hx2⟩, hq _ _ _ ⟨hs1, hs2.to (fun _ _ => rfl) (fun r hr2 => h2 _ (by omega)), fun i hi h0 h17 h18 h19 h20 hm => (h2 i h0).trans (hs3 i hi h17 h18 h19 h20 hm), by show M2 0 = _; rw [eM2, va_up_self, h00], hk.to (fun i h1 h3 => h2 i (by omega))⟩⟩

set_option maxHeartbeats 4000000 in
set_option maxRecDepth 100000 in
theorem c_X7_trial (l : Launch) (G : GT) (K : Nat) (ad : Nat → Nat) (M : Mem) (P D n bn t Wn : Nat) (hA : AttH K M P D n bn t Wn) (x y u v : Int32) : CaI l G K ad yX7_trial cX7_trial 6 .int 6 155 26 1732 [.ref (ad 0), .int x, .int y, .int u, .int v] M (fun r s => Ext K ad s ∧ attD D bn n M x y u v r (Old K M s.2.2) (attS K P n bn M s ∧ attNr n bn M s.2.2) (attS K P n bn M s ∧ MoA n bn (mom M 20) (mom s.2.2 20) ∧ s.2.2 18 = upd (M 18) bn u ∧ s.2.2 19 = upd (M 19) bn x)) := by
  refine ca_start (by decide +kernel) (Nat.le_of_ble_eq_true rfl) ?_
  intro p e s m below meth c ls S hr hlocks hw hl
  have h34 : 34 ≤ 61 + 13 * K := by omega
  have hl : lv_has ls 6 [(0, .ref (ad 0)), (1, .int x), (2, .int y), (3, .int u), (4, .int v)] := hl
  refine lv_aload_n S.1 S.2.1 dX7_trial_0 rfl (lv_at hl 0 rfl) ?_
  refine lv_iload_n S.1 S.2.1 dX7_trial_1 rfl (lv_at hl 1 rfl) ?_
  refine lv_iload_n S.1 S.2.1 dX7_trial_2 rfl (lv_at hl 2 rfl) ?_
  refine lv_iload_n S.1 S.2.1 dX7_trial_3 rfl (lv_at hl 3 rfl) ?_
  refine lv_iload S.1 S.2.1 dX7_trial_4 (lv_at hl 4 rfl) ?_
  refine a_VI (As := [.int x, .int y, .int u, .int v]) (rest := []) S hw (c_X7_attempt l G K ad M P D n bn t Wn hA x y u v) mf_X7_attempt wm_X7_149 ⟨by decide, by decide⟩ ⟨by decide, by decide⟩ hl.1 rfl (Nat.le_of_ble_eq_true rfl) dX7_trial_6 (fun r K1 ad1 M1 H locs hp hw => ?_)
  obtain ⟨⟨hx1, hx2⟩, hp⟩ := hp
  have hx1 : K ≤ K1 := hx1
  have hx2 : ∀ i, i < 61 + 13 * K → ad1 i = ad i := hx2
  have hl : lv_has ls 6 [(0, .ref (ad1 0)), (1, .int x), (2, .int y), (3, .int u), (4, .int v)] := by rw [hx2 0 (by omega)]; exact hl
  refine lv_istore (lv' := [(5, .int r), (0, .ref (ad1 0)), (1, .int x), (2, .int y), (3, .int u), (4, .int v)]) S.1 S.2.1 dX7_trial_9 hl (by decide) rfl (fun ls hl => ?_)
  refine lv_iload S.1 S.2.1 dX7_trial_11 (lv_at hl 0 rfl) ?_
  rcases attD.split hp hA.2.2.2.2.2.2.2.2.1 with ⟨hneg, hq⟩ | ⟨hneg, hok, hq⟩
  · refine lv_if_lt (tgt := 31) S.1 S.2.1 dX7_trial_13 (by decide) (fun _ => ?_) (fun z => absurd hneg z)
    refine lv_iload S.1 S.2.1 dX7_trial_31 (lv_at hl 0 rfl) ?_
    exact q_reti S hr hlocks hw dX7_trial_33 ⟨by decide, by decide⟩ ⟨⟨hx1, hx2⟩, hq _⟩
  · refine lv_if_lt (tgt := 31) S.1 S.2.1 dX7_trial_13 (by decide) (fun z => absurd z hneg) (fun _ => ?_)
    obtain ⟨⟨hs1, hs2, hs3⟩, hk⟩ := hok
    have hs1 : P < K1 := hs1
    have hs2 : MoA n bn (mom M 20) (mom M1 (61 + 13 * P)) := hs2
    have hs3 : attFr K (61 + 13 * P) M M1 := hs3
    have h00 : M1 0 = M 0 := hs3 0 (by omega) (by omega) (by omega) (by omega) (by omega) (by omega)
    refine lv_aload_n S.1 S.2.1 dX7_trial_16 rfl (lv_at hl 1 rfl) ?_
    refine m_getR 0 6 20 S hw (by omega) rfl rfl rfl in_X7 (by decide) wf_X7_47 dX7_trial_17 ?_
    refine lv_aload_n S.1 S.2.1 dX7_trial_20 rfl (lv_at hl 1 rfl) ?_
    refine lv_aload_n S.1 S.2.1 dX7_trial_21 rfl (lv_at hl 1 rfl) ?_
    refine m_getI 0 8 S hw (by omega) rfl rfl rfl in_X7 (by decide) wf_X7_55 dX7_trial_22 ?_
    refine m_top (show M1 0 8 = nI P from (congrFun h00 8).trans hA.1) ?_
    refine a_VR (As := [.int (nI P)]) (rest := [.ref (ad1 20)]) S hw (c_X7_earlierAt l G K1 ad1 M1 P (by omega) (by have := hA.2.2.1; have := hA.2.2.2.2.2.2.2.2.1; omega)) mf_X7_earlierAt wm_X7_152 ⟨by decide, by decide⟩ ⟨by decide, by decide⟩ hl.1 rfl (Nat.le_of_ble_eq_true rfl) dX7_trial_25 (fun K2 ad2 M2 H locs hp2 hw => ?_)
    obtain ⟨⟨hy1, hy2⟩, hPK2, hold⟩ := hp2
    have hy1 : K1 ≤ K2 := hy1
    have hy2 : ∀ i, i < 61 + 13 * K1 → ad2 i = ad1 i := hy2
    have hold : ∀ i, i < 61 + 13 * K1 → M2 i = M1 i := hold
    have hPK2 : P < K2 := hPK2
    have hl : lv_has ls 6 [(5, .int r), (0, .ref (ad2 0)), (1, .int x), (2, .int y), (3, .int u), (4, .int v)] := by rw [hy2 0 (by omega)]; exact hl
    rw [← hy2 20 (by omega)]
    have hcn : M2 (61 + 13 * P + 1) 0 = nI n := (congrFun (hold _ (by omega)) 0).trans hs2.2.2.2.1
    have hcb : M2 (61 + 13 * P) 2 = nI bn := (congrFun (hold _ (by omega)) 2).trans hs2.2.2.1
    refine m_VV (As := [.ref (ad2 (61 + 13 * P))]) (rest := []) 20 S hw (by omega) rfl rfl (c_X1_copyFrom l G (61 + 13 * K2) K2 ad2 M2 20 (isM20 (by omega)) (61 + 13 * P) (isMj hPK2) (by omega) n hcn hA.2.2.2.2.2.2.1 bn hcb hA.2.2.2.2.2.2.2.2.1) mf_X1_copyFrom wm_X7_156 ⟨by decide, by decide⟩ ⟨by decide, by decide⟩ hl.1 rfl (Nat.le_of_ble_eq_true rfl) dX7_trial_28 (fun M3 H locs hp3 hw => ?_)
    have mo3 := copy_mo hp3
    have fr3 : Fr 20 33 M2 M3 := hp3.2.2.2.2.2.2.2.2.2.2.2.2.2.2
    refine lv_iload S.1 S.2.1 dX7_trial_31 (lv_at hl 0 rfl) ?_
    have h3 : ∀ i, i < 61 + 13 * K1 → (i < 20 ∨ 33 ≤ i) → M3 i = M1 i := fun i h1 h2 => (fr3 i h2).trans (hold i h1)
    have hmm : MoA n bn (mom M 20) (mom M2 (61 + 13 * P)) := hs2.to (fun _ _ => rfl) (fun r hr2 => hold _ (by omega))
    exact q_reti S hr hlocks hw dX7_trial_33 ⟨by decide, by decide⟩ ⟨⟨Nat.le_trans hx1 hy1, fun i hi => (hy2 i (by omega)).trans (hx2 i hi)⟩, hq _ _ _ ⟨⟨hPK2, hs2.to (fun _ _ => rfl) (fun r hr2 => h3 _ (by omega) (by omega)), fun i hi h17 h18 h19 h20 hm => (h3 i (by omega) h20).trans (hs3 i hi h17 h18 h19 h20 hm)⟩, hmm.tr mo3, (h3 18 (by omega) (by omega)).trans hk.2.2.2.2.2.2.1, (h3 19 (by omega) (by omega)).trans hk.2.2.2.2.2.2.2⟩⟩

set_option maxHeartbeats 4000000 in
set_option maxRecDepth 100000 in
theorem c_X7_undo (l : Launch) (G : GT) (K : Nat) (ad : Nat → Nat) (M : Mem) (P n bn : Nat) (hP0 : M 0 8 = nI P) (hPK : P ≤ K) (hP200 : P < 200) (hsv : 0 < P → M (61 + 13 * (P - 1) + 1) 0 = nI n ∧ n ≤ 120 ∧ M (61 + 13 * (P - 1)) 2 = nI bn ∧ bn ≤ 200) : CaI l G K ad yX7_undo cX7_undo 1 .int 4 82 13 866 [.ref (ad 0)] M (fun r s => Ext K ad s ∧ Dec1 (decide (0 < P)) (r = -3 ∧ Old K M s.2.2) (r = nI bn ∧ P - 1 < s.1 ∧ s.2.2 0 = upd (M 0) 8 (nI (P - 1)) ∧ MoA n bn (mom M (61 + 13 * (P - 1))) (mom s.2.2 20) ∧ (∀ i, i < 61 + 13 * K → i ≠ 0 → (i < 20 ∨ 33 ≤ i) → s.2.2 i = M i))) := by
  refine ca_start (by decide +kernel) (Nat.le_of_ble_eq_true rfl) ?_
  intro p e s m below meth c ls S hr hlocks hw hl
  have h34 : 34 ≤ 61 + 13 * K := by omega
  have hl : lv_has ls 1 [(0, .ref (ad 0))] := hl
  refine lv_aload_n S.1 S.2.1 dX7_undo_0 rfl (lv_at hl 0 rfl) ?_
  refine m_getI 0 8 S hw (by omega) rfl rfl rfl in_X7 (by decide) wf_X7_55 dX7_undo_1 ?_
  refine m_top (show M 0 8 = nI P from hP0) ?_
  refine lv_if_ne (tgt := 10) S.1 S.2.1 dX7_undo_4 (by decide) (fun c1 => ?_) (fun c1 => ?_)
  · have hPp : 0 < P := Nat.pos_of_ne_zero (fun z => c1 (by rw [z]; rfl))
    obtain ⟨hs1, hn1, hs2, hb1⟩ := hsv hPp
    refine lv_aload_n S.1 S.2.1 dX7_undo_10 rfl (lv_at hl 0 rfl) ?_
    refine lv_dup S.1 S.2.1 dX7_undo_11 rfl ?_
    refine m_getI 0 8 S hw (by omega) rfl rfl rfl in_X7 (by decide) wf_X7_55 dX7_undo_12 ?_
    refine m_top (show M 0 8 = nI P from hP0) ?_
    refine lv_iconst (v := nI 1) S.1 S.2.1 dX7_undo_15 (by decide) ?_
    refine lv_isub S.1 S.2.1 dX7_undo_16 ?_
    refine m_top (show nI P - nI 1 = nI (P - 1) by rw [show P = P - 1 + 1 by omega]; exact nI_pred _) ?_
    refine n_putI 0 8 S hw (by omega) rfl rfl rfl in_X7 tyX7_ok nmX7 (by decide) rfl rfl wf_X7_55 dX7_undo_17 (fun M1 H locs eM1 hw => ?_)
    have h10 : M1 0 = upd (M 0) 8 (nI (P - 1)) := by rw [eM1, va_up_self]
    have h1 : ∀ i, i ≠ 0 → M1 i = M i := fun i hi => by rw [eM1]; exact va_up_ne _ _ hi
    refine lv_aload_n S.1 S.2.1 dX7_undo_20 rfl (lv_at hl 0 rfl) ?_
    refine m_getR 0 6 20 S hw (by omega) rfl rfl rfl in_X7 (by decide) wf_X7_47 dX7_undo_21 ?_
    refine lv_aload_n S.1 S.2.1 dX7_undo_24 rfl (lv_at hl 0 rfl) ?_
    refine lv_aload_n S.1 S.2.1 dX7_undo_25 rfl (lv_at hl 0 rfl) ?_
    refine m_getI 0 8 S hw (by omega) rfl rfl rfl in_X7 (by decide) wf_X7_55 dX7_undo_26 ?_
    refine m_top (show M1 0 8 = nI (P - 1) by rw [h10, pk_us]) ?_
    refine a_VR (As := [.int (nI (P - 1))]) (rest := [.ref (ad 20)]) S hw (c_X7_earlierAt l G K ad M1 (P - 1) (by omega) (by omega)) mf_X7_earlierAt wm_X7_152 ⟨by decide, by decide⟩ ⟨by decide, by decide⟩ hl.1 rfl (Nat.le_of_ble_eq_true rfl) dX7_undo_29 (fun K2 ad2 M2 H locs hp2 hw => ?_)
    obtain ⟨⟨hy1, hy2⟩, hPK2, hold⟩ := hp2
    have hy1 : K ≤ K2 := hy1
    have hy2 : ∀ i, i < 61 + 13 * K → ad2 i = ad i := hy2
    have hold : ∀ i, i < 61 + 13 * K → M2 i = M1 i := hold
    have hPK2 : P - 1 < K2 := hPK2
    have hl : lv_has ls 1 [(0, .ref (ad2 0))] := by rw [hy2 0 (by omega)]; exact hl
    rw [← hy2 20 (by omega)]
    have hcn : M2 (61 + 13 * (P - 1) + 1) 0 = nI n := (congrFun ((hold _ (by omega)).trans (h1 _ (by omega))) 0).trans hs1
    have hcb : M2 (61 + 13 * (P - 1)) 2 = nI bn := (congrFun ((hold _ (by omega)).trans (h1 _ (by omega))) 2).trans hs2
    refine m_VV (As := [.ref (ad2 (61 + 13 * (P - 1)))]) (rest := []) 20 S hw (by omega) rfl rfl (c_X1_copyFrom l G (61 + 13 * K2) K2 ad2 M2 20 (isM20 (by omega)) (61 + 13 * (P - 1)) (isMj hPK2) (by omega) n hcn hn1 bn hcb hb1) mf_X1_copyFrom wm_X7_156 ⟨by decide, by decide⟩ ⟨by decide, by decide⟩ hl.1 rfl (Nat.le_of_ble_eq_true rfl) dX7_undo_32 (fun M3 H locs hp3 hw => ?_)
    have mo3 := copy_mo hp3
    have fr3 : Fr 20 33 M2 M3 := hp3.2.2.2.2.2.2.2.2.2.2.2.2.2.2
    refine lv_aload_n S.1 S.2.1 dX7_undo_35 rfl (lv_at hl 0 rfl) ?_
    refine m_getR 0 6 20 S hw (by omega) rfl rfl rfl in_X7 (by decide) wf_X7_47 dX7_undo_36 ?_
    refine m_getI 20 2 S hw (by omega) rfl rfl rfl in_X1 (by decide) wf_X7_160 dX7_undo_39 ?_
    refine m_top (show M3 20 2 = nI bn from mo3.2.2.1) ?_
    have h3 : ∀ i, i < 61 + 13 * K → (i < 20 ∨ 33 ≤ i) → M3 i = M1 i := fun i h1 h2 => (fr3 i h2).trans (hold i h1)
    exact q_reti S hr hlocks hw dX7_undo_42 ⟨by decide, by decide⟩ ⟨⟨hy1, hy2⟩, Dec1.yes (decide_eq_true hPp) ⟨rfl, hPK2, (h3 0 (by omega) (by omega)).trans h10, mo3.to (fun r hr2 => ((hold _ (by omega)).trans (h1 _ (by omega))).symm) (fun _ _ => rfl), fun i hi h0 h20 => (h3 i hi h20).trans (h1 i h0)⟩⟩
  · refine lv_bipush (v := (-3)) S.1 S.2.1 dX7_undo_7 (by decide) ?_
    have hPz : ¬ 0 < P := fun z => by have := (nI_eq (b := 0) (by omega) (by decide)).mp c1; omega
    exact q_reti S hr hlocks hw dX7_undo_9 ⟨by decide, by decide⟩ ⟨⟨Nat.le_refl _, fun _ _ => rfl⟩, Dec1.no (decide_eq_false hPz) ⟨rfl, fun _ _ => rfl⟩⟩
