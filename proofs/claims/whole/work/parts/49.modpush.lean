/-- the cases of a push, for both sides -/
def pushD (D bn lo hi F1 : Nat) (x y u v r : Int32) (old no ok : Prop) : Prop := Dec1 ((inB x D && inB y D) && inB u 8) (r = -1 ∧ old) (Dec1 (decide (lo < hi) && wi v (nI 1) (nI 60)) (r = -2 ∧ old) (Dec1 (decide (bn < 200)) (r = -4 ∧ old) (Dec1 (decide (F1 = 0)) (r = -10 - nI F1 ∧ no) (r = nI bn ∧ ok))))
theorem pushD.split {D bn lo hi F1 : Nat} {x y u v r : Int32} {old no ok : Prop} (h : pushD D bn lo hi F1 x y u v r old no ok) (hb : bn ≤ 200) (hF : F1 ≤ 3) : (r < 0 ∧ ∀ ok', pushD D bn lo hi F1 x y u v r old no ok') ∨ (¬ r < 0 ∧ ok ∧ ∀ old' no' ok' : Prop, ok' → pushD D bn lo hi F1 x y u v r old' no' ok') := by
  rcases h with ⟨e, rfl, o⟩ | ⟨e, h⟩
  · exact Or.inl ⟨by decide, fun _ => Or.inl ⟨e, rfl, o⟩⟩
  · rcases h with ⟨e2, rfl, o⟩ | ⟨e2, h⟩
    · exact Or.inl ⟨by decide, fun _ => Or.inr ⟨e, Or.inl ⟨e2, rfl, o⟩⟩⟩
    · rcases h with ⟨e3, rfl, o⟩ | ⟨e3, h⟩
      · exact Or.inl ⟨by decide, fun _ => Or.inr ⟨e, Or.inr ⟨e2, Or.inl ⟨e3, rfl, o⟩⟩⟩⟩
      · rcases h with ⟨e4, rfl, o⟩ | ⟨e4, rfl, o⟩
        · exact Or.inl ⟨m10_neg hF, fun _ => Or.inr ⟨e, Or.inr ⟨e2, Or.inr ⟨e3, Or.inl ⟨e4, rfl, o⟩⟩⟩⟩⟩
        · exact Or.inr ⟨nI_nneg (by omega), o, fun _ _ _ k => Or.inr ⟨e, Or.inr ⟨e2, Or.inr ⟨e3, Or.inr ⟨e4, rfl, k⟩⟩⟩⟩⟩
def tryFx (M : Mem) (bn n : Nat) (x y u v : Int32) : Nat × Mem := tryF M bn n (tn (M 42 (tn x))) (tn (M 42 (tn y))) (tn x) (tn y) (tn u) (tn v)
def tryHx (M : Mem) (x y v : Int32) : Nat := hrS (tn (M 43 (tn x))) (tn (M 43 (tn y))) (tn v)
def tryD (D bn n : Nat) (M : Mem) (x y u v r : Int32) (old no ok : Prop) : Prop := pushD D bn (tn (M 42 (tn x))) (tn (M 42 (tn y))) (tryFx M bn n x y u v).1 x y u v r old no ok
def TryH (M : Mem) (P D n bn t Wn : Nat) : Prop := M 34 33 = nI P ∧ P < 200 ∧ M 34 10 = nI D ∧ D ≤ 6 ∧ M 34 1 = nI n ∧ n ≤ 120 ∧ M 34 6 = nI bn ∧ bn ≤ 200 ∧ M 34 24 = nI t ∧ t < 2 ^ 30 ∧ M 34 26 = nI Wn ∧ Wn ≤ 20 ∧ (∀ d, d < D → inB (M 42 d) (n + 1) = true) ∧ (∀ d, d < D → wi (M 43 d) (nI 1) (nI 60) = true) ∧ VR n bn (modR M) ∧ (∀ w, w < Wn → inB (M 55 w) 48 = true)
theorem va_up_id {M M1 : Mem} {k : Nat} {f : Nat → Int32} (e : M1 = va_up M k f) (h : f = M k) : M1 = M := by
  rw [e, h]
  funext i
  by_cases c : i = k
  · subst c; rw [va_up_self]
  · rw [va_up_ne _ _ c]

set_option maxHeartbeats 4000000 in
set_option maxRecDepth 100000 in
/-- reference: tries -/
theorem c_X8_tries (l : Launch) (G : GT) (N K : Nat) (ad : Nat → Nat) (M : Mem) (h61 : 61 ≤ N) (P D n bn t Wn : Nat) (hA : TryH M P D n bn t Wn) (x y u v : Int32) : CmI l G N K ad yX8_tries cX8_tries 7 .int 5 123 [.ref (ad 34), .int x, .int y, .int u, .int v] M (fun r M1 => tryD D bn n M x y u v r (M1 = M) (tryC P n bn u x M M1 ∧ tryNo n M M1) (tryC P n bn u x M M1 ∧ tryOk bn t Wn (tryHx M x y v) (tryFx M bn n x y u v).2 M M1)) := by
  refine cm_startI (by decide +kernel) (Nat.le_of_ble_eq_true rfl) ?_
  intro p e s m below meth c ls S hr hlocks hw hl
  have hl : lv_has ls 7 [(0, .ref (ad 34)), (1, .int x), (2, .int y), (3, .int u), (4, .int v)] := hl
  obtain ⟨hP, hP1, hD, hD6, hn, hn1, hbn, hbn1, ht, ht30, hWn, hW20, hpl, hrt, hvr, hwt⟩ := hA
  refine lv_aload_n S.1 S.2.1 dX8_tries_0 rfl (lv_at hl 0 rfl) ?_
  refine lv_iload_n S.1 S.2.1 dX8_tries_1 rfl (lv_at hl 1 rfl) ?_
  refine r_VI (As := [.int x]) (rest := []) 34 S hw (by omega) rfl rfl (c_X8_isDoor l G N K ad M h61 D hD hD6 x) mf_X8_isDoor wm_X8_123 ⟨by decide, by decide⟩ ⟨Nat.le_refl _, Nat.le_refl _⟩ hl.1 rfl (Nat.le_of_ble_eq_true rfl) dX8_tries_2 (fun H locs hw => ?_)
  refine b_eq (tgt := 23) S dX8_tries_5 (by decide) (fun c1 => ?_) (fun c1 => ?_)
  · refine lv_iconst (v := (-1)) S.1 S.2.1 dX8_tries_23 (by decide) ?_
    exact m_reti S hr hlocks hw dX8_tries_24 (Dec1.no (and_f1 (and_f1 c1)) ⟨rfl, rfl⟩)
  · obtain ⟨a, ha, ea⟩ := inB_of c1 (by omega)
    have ta : tn x = a := tn_of ea (by omega)
    refine lv_aload_n S.1 S.2.1 dX8_tries_8 rfl (lv_at hl 0 rfl) ?_
    refine lv_iload_n S.1 S.2.1 dX8_tries_9 rfl (lv_at hl 2 rfl) ?_
    refine r_VI (As := [.int y]) (rest := []) 34 S hw (by omega) rfl rfl (c_X8_isDoor l G N K ad M h61 D hD hD6 y) mf_X8_isDoor wm_X8_123 ⟨by decide, by decide⟩ ⟨Nat.le_refl _, Nat.le_refl _⟩ hl.1 rfl (Nat.le_of_ble_eq_true rfl) dX8_tries_10 (fun H locs hw => ?_)
    refine b_eq (tgt := 23) S dX8_tries_13 (by decide) (fun c2 => ?_) (fun c2 => ?_)
    · refine lv_iconst (v := (-1)) S.1 S.2.1 dX8_tries_23 (by decide) ?_
      exact m_reti S hr hlocks hw dX8_tries_24 (Dec1.no (and_f1 (and_f2 c2)) ⟨rfl, rfl⟩)
    · obtain ⟨b, hb, eb⟩ := inB_of c2 (by omega)
      have tb : tn y = b := tn_of eb (by omega)
      refine lv_iload_n S.1 S.2.1 dX8_tries_16 rfl (lv_at hl 3 rfl) ?_
      refine r_SI (As := [.int u]) (rest := []) S hw (c_X8_isKind l G N K ad M u) mf_X8_isKind wm_X8_127 ⟨by decide, by decide⟩ ⟨Nat.le_refl _, Nat.le_refl _⟩ hl.1 rfl (Nat.le_of_ble_eq_true rfl) dX8_tries_17 (fun H locs hw => ?_)
      refine b_ne (tgt := 25) S dX8_tries_20 (by decide) (fun c3 => ?_) (fun c3 => ?_)
      · obtain ⟨k, hk, ek⟩ := inB_of c3 (by omega)
        have tk : tn u = k := tn_of ek (by omega)
        obtain ⟨lo, hlon, e42a⟩ := inB_of (hpl a ha) (by omega)
        obtain ⟨hi, hhin, e42b⟩ := inB_of (hpl b hb) (by omega)
        refine lv_aload_n S.1 S.2.1 dX8_tries_25 rfl (lv_at hl 0 rfl) ?_
        refine m_getR 34 11 42 S hw (by omega) rfl rfl rfl in_X8 (by decide) wf_X8_41 dX8_tries_26 ?_
        refine lv_iload_n S.1 S.2.1 dX8_tries_29 rfl (lv_at hl 2 rfl) ?_
        refine m_top (show y = nI b from eb) ?_
        refine m_ald 42 b S hw (by omega) rfl (by decide) (by omega) rfl dX8_tries_30 ?_
        refine m_top (show M 42 b = nI hi from e42b) ?_
        refine lv_aload_n S.1 S.2.1 dX8_tries_31 rfl (lv_at hl 0 rfl) ?_
        refine m_getR 34 11 42 S hw (by omega) rfl rfl rfl in_X8 (by decide) wf_X8_41 dX8_tries_32 ?_
        refine lv_iload_n S.1 S.2.1 dX8_tries_35 rfl (lv_at hl 1 rfl) ?_
        refine m_top (show x = nI a from ea) ?_
        refine m_ald 42 a S hw (by omega) rfl (by decide) (by omega) rfl dX8_tries_36 ?_
        refine m_top (show M 42 a = nI lo from e42a) ?_
        refine n_le (tgt := 51) S (by omega) (by omega) dX8_tries_37 (by decide) (fun c4 => ?_) (fun c4 => ?_)
        · refine lv_bipush (v := (-2)) S.1 S.2.1 dX8_tries_51 (by decide) ?_
          exact m_reti S hr hlocks hw dX8_tries_53 (Dec1.yes (and_t (and_t c1 c2) c3) (Dec1.no (and_f1 (by rw [ta, tb, e42a, e42b, tn_nI (by omega), tn_nI (by omega)]; exact decide_eq_false (by omega))) ⟨rfl, rfl⟩))
        · refine lv_iload S.1 S.2.1 dX8_tries_40 (lv_at hl 4 rfl) ?_
          refine lv_iconst (v := nI 1) S.1 S.2.1 dX8_tries_42 (by decide) ?_
          refine lv_bipush (v := nI 60) S.1 S.2.1 dX8_tries_43 (by decide) ?_
          refine r_SI (As := [.int v, .int (nI 1), .int (nI 60)]) (rest := []) S hw (c_X8_in l G N K ad M v (nI 1) (nI 60)) mf_X8_in wm_X8_104 ⟨by decide, by decide⟩ ⟨Nat.le_refl _, Nat.le_refl _⟩ hl.1 rfl (Nat.le_of_ble_eq_true rfl) dX8_tries_45 (fun H locs hw => ?_)
          refine b_ne (tgt := 54) S dX8_tries_48 (by decide) (fun c5 => ?_) (fun c5 => ?_)
          · refine lv_aload_n S.1 S.2.1 dX8_tries_54 rfl (lv_at hl 0 rfl) ?_
            refine m_getI 34 6 S hw (by omega) rfl rfl rfl in_X8 (by decide) wf_X8_29 dX8_tries_55 ?_
            refine m_top (show M 34 6 = nI bn from hbn) ?_
            refine lv_sipush (v := nI 200) S.1 S.2.1 dX8_tries_58 (by decide) ?_
            refine n_ne (tgt := 67) S (by omega) (by omega) dX8_tries_61 (by decide) (fun c6 => ?_) (fun c6 => ?_)
            · obtain ⟨cc, hcc1, hcc, ecc⟩ := wi_160 c5
              obtain ⟨r1, h1a, h1b, h1⟩ := wi_160 (hrt a ha)
              obtain ⟨r2, h2a, h2b, h2⟩ := wi_160 (hrt b hb)
              have tcc : tn v = cc := tn_of ecc (by omega)
              have hl : lv_has ls 7 [(0, .ref (ad 34)), (1, .int (nI a)), (2, .int (nI b)), (3, .int (nI k)), (4, .int (nI cc))] := by rw [← ea, ← eb, ← ek, ← ecc]; exact hl
              refine try2 S hr hlocks hw h61 n hn hn1 bn hbn (by omega) P hP hP1 lo hi a b k cc c4 (by omega) (by omega) (by omega) hk hcc e42a e42b r1 r2 h1 h1a h1b h2 h2a h2b hvr t ht ht30 Wn hWn hW20 hwt hl (fun r M2 hq => ?_)
              obtain ⟨hq1, hq3⟩ := hq
              have hFx : tryFx M bn n x y u v = tryF M bn n lo hi a b k cc := by unfold tryFx; rw [ta, tb, tk, tcc, e42a, e42b, tn_nI (by omega), tn_nI (by omega)]
              have hHx : tryHx M x y v = hrS r1 r2 cc := by unfold tryHx; rw [ta, tb, tcc, h1, h2, tn_nI (by omega), tn_nI (by omega)]
              rw [← ek, ← ea] at hq1
              refine Dec1.yes (and_t (and_t c1 c2) c3) (Dec1.yes (and_t (by rw [ta, tb, e42a, e42b, tn_nI (by omega), tn_nI (by omega)]; exact decide_eq_true c4) c5) (Dec1.yes (decide_eq_true (by omega)) ?_))
              rcases hq3 with ⟨q1, q2, q3⟩ | ⟨q1, q2, q3⟩
              · exact Dec1.no (decide_eq_false (by rw [hFx]; exact q1)) ⟨by rw [hFx]; exact q2, hq1, q3⟩
              · exact Dec1.yes (decide_eq_true (by rw [hFx]; exact q1)) ⟨q2, hq1, by rw [hFx, hHx]; exact q3⟩
            · refine lv_bipush (v := (-4)) S.1 S.2.1 dX8_tries_64 (by decide) ?_
              exact m_reti S hr hlocks hw dX8_tries_66 (Dec1.yes (and_t (and_t c1 c2) c3) (Dec1.yes (and_t (by rw [ta, tb, e42a, e42b, tn_nI (by omega), tn_nI (by omega)]; exact decide_eq_true c4) c5) (Dec1.no (decide_eq_false (by omega)) ⟨rfl, rfl⟩)))
          · refine lv_bipush (v := (-2)) S.1 S.2.1 dX8_tries_51 (by decide) ?_
            exact m_reti S hr hlocks hw dX8_tries_53 (Dec1.yes (and_t (and_t c1 c2) c3) (Dec1.no (and_f2 c5) ⟨rfl, rfl⟩))
      · refine lv_iconst (v := (-1)) S.1 S.2.1 dX8_tries_23 (by decide) ?_
        exact m_reti S hr hlocks hw dX8_tries_24 (Dec1.no (and_f2 c3) ⟨rfl, rfl⟩)

theorem push_33 {M M1 : Mem} {P D n bn lo hi F1 : Nat} {x y u v r : Int32} {ok : Prop} {z w : Int32} (hP : M 34 33 = nI P) (h : pushD D bn lo hi F1 x y u v r (M1 = M) (tryC P n bn z w M M1 ∧ tryNo n M M1) ok) (hneg : r < 0) (hb : bn ≤ 200) : M1 34 33 = nI P := by
  rcases h with ⟨e, _, o⟩ | ⟨e, h⟩
  · rw [o]; exact hP
  · rcases h with ⟨e2, _, o⟩ | ⟨e2, h⟩
    · rw [o]; exact hP
    · rcases h with ⟨e3, _, o⟩ | ⟨e3, h⟩
      · rw [o]; exact hP
      · rcases h with ⟨e4, _, o⟩ | ⟨e4, q, o⟩
        · exact (o.1.2.2.2.2.1 33 (by decide) (by decide) (by decide) (by decide)).trans hP
        · rw [q] at hneg; exact absurd hneg (nI_nneg (by omega))

set_option maxHeartbeats 4000000 in
set_option maxRecDepth 100000 in
/-- reference: push -/
theorem c_X8_push (l : Launch) (G : GT) (N K : Nat) (ad : Nat → Nat) (M : Mem) (h61 : 61 ≤ N) (P D n bn t Wn : Nat) (hA : TryH M P D n bn t Wn) (x y u v : Int32) : CmI l G N K ad yX8_push cX8_push 6 .int 6 149 [.ref (ad 34), .int x, .int y, .int u, .int v] M (fun r M1 => tryD D bn n M x y u v r (M1 = M) (tryC P n bn u x M M1 ∧ tryNo n M M1) (∃ M2 : Mem, tryC P n bn u x M M2 ∧ tryOk bn t Wn (tryHx M x y v) (tryFx M bn n x y u v).2 M M2 ∧ M1 = va_up M2 34 (upd (M2 34) 33 (nI (P + 1))))) := by
  refine cm_startI (by decide +kernel) (Nat.le_of_ble_eq_true rfl) ?_
  intro p e s m below meth c ls S hr hlocks hw hl
  have hl : lv_has ls 6 [(0, .ref (ad 34)), (1, .int x), (2, .int y), (3, .int u), (4, .int v)] := hl
  refine lv_aload_n S.1 S.2.1 dX8_push_0 rfl (lv_at hl 0 rfl) ?_
  refine lv_iload_n S.1 S.2.1 dX8_push_1 rfl (lv_at hl 1 rfl) ?_
  refine lv_iload_n S.1 S.2.1 dX8_push_2 rfl (lv_at hl 2 rfl) ?_
  refine lv_iload_n S.1 S.2.1 dX8_push_3 rfl (lv_at hl 3 rfl) ?_
  refine lv_iload S.1 S.2.1 dX8_push_4 (lv_at hl 4 rfl) ?_
  refine m_VI (As := [.int x, .int y, .int u, .int v]) (rest := []) 34 S hw (by omega) rfl rfl (c_X8_tries l G N K ad M h61 P D n bn t Wn hA x y u v) mf_X8_tries wm_X8_185 ⟨by decide, by decide⟩ ⟨Nat.le_refl _, Nat.le_refl _⟩ hl.1 rfl (Nat.le_of_ble_eq_true rfl) dX8_push_6 (fun r1 M1 H locs hp1 hw => ?_)
  have hq1 := hp1
  have hbx := hA.2.2.2.2.2.2.2.1
  rcases pushD.split hq1 hbx (flow_le _ _) with ⟨hneg, hq⟩ | ⟨hneg, hok, hq⟩
  · skip
    refine lv_istore (lv' := [(5, .int r1), (0, .ref (ad 34)), (1, .int x), (2, .int y), (3, .int u), (4, .int v)]) S.1 S.2.1 dX8_push_9 hl (by decide) rfl (fun ls hl => ?_)
    have h33 : M1 34 33 = nI P := push_33 hA.1 hq1 hneg hbx
    refine lv_aload_n S.1 S.2.1 dX8_push_11 rfl (lv_at hl 1 rfl) ?_
    refine lv_dup S.1 S.2.1 dX8_push_12 rfl ?_
    refine m_getI 34 33 S hw (by omega) rfl rfl rfl in_X8 (by decide) wf_X8_120 dX8_push_13 ?_
    refine m_top (show M1 34 33 = nI P from h33) ?_
    refine lv_iload S.1 S.2.1 dX8_push_16 (lv_at hl 0 rfl) ?_
    refine lv_if_lt (tgt := 25) S.1 S.2.1 dX8_push_18 (by decide) (fun c2 => ?_) (fun c2 => absurd c2 (fun z => z hneg))
    refine lv_iconst (v := nI 0) S.1 S.2.1 dX8_push_25 (by decide) ?_
    refine lv_iadd S.1 S.2.1 dX8_push_26 ?_
    refine m_top (show (nI P) + (nI 0) = nI (P + 0) from nI_add _ _) ?_
    refine n_putI 34 33 S hw (by omega) rfl rfl rfl in_X8 tyX8_ok nmX8 (by decide) rfl rfl wf_X8_120 dX8_push_27 (fun M3 H locs eM3 hw => ?_)
    refine lv_iload S.1 S.2.1 dX8_push_30 (lv_at hl 0 rfl) ?_
    have hid : M3 = M1 := va_up_id eM3 (by rw [show nI (P + 0) = M1 34 33 from h33.symm]; exact upd_id)
    exact m_reti S hr hlocks hw dX8_push_32 (by rw [hid]; exact hq _)
  · obtain ⟨hC, hO⟩ := hok
    refine lv_istore (lv' := [(5, .int r1), (0, .ref (ad 34)), (1, .int x), (2, .int y), (3, .int u), (4, .int v)]) S.1 S.2.1 dX8_push_9 hl (by decide) rfl (fun ls hl => ?_)
    have h33 : M1 34 33 = nI P := (hC.2.2.2.2.1 33 (by decide) (by decide) (by decide) (by decide)).trans hA.1
    refine lv_aload_n S.1 S.2.1 dX8_push_11 rfl (lv_at hl 1 rfl) ?_
    refine lv_dup S.1 S.2.1 dX8_push_12 rfl ?_
    refine m_getI 34 33 S hw (by omega) rfl rfl rfl in_X8 (by decide) wf_X8_120 dX8_push_13 ?_
    refine m_top (show M1 34 33 = nI P from h33) ?_
    refine lv_iload S.1 S.2.1 dX8_push_16 (lv_at hl 0 rfl) ?_
    refine lv_if_lt (tgt := 25) S.1 S.2.1 dX8_push_18 (by decide) (fun c4 => absurd c4 hneg) (fun c4 => ?_)
    refine lv_iconst (v := nI 1) S.1 S.2.1 dX8_push_21 (by decide) ?_
    refine lv_goto (tgt := 26) S.1 S.2.1 dX8_push_22 (by decide) ?_
    refine lv_iadd S.1 S.2.1 dX8_push_26 ?_
    refine m_top (show (nI P) + (nI 1) = nI (P + 1) from nI_add _ _) ?_
    refine n_putI 34 33 S hw (by omega) rfl rfl rfl in_X8 tyX8_ok nmX8 (by decide) rfl rfl wf_X8_120 dX8_push_27 (fun M5 H locs eM5 hw => ?_)
    refine lv_iload S.1 S.2.1 dX8_push_30 (lv_at hl 0 rfl) ?_
    exact m_reti S hr hlocks hw dX8_push_32 (hq _ _ _ ⟨M1, hC, hO, eM5⟩)

set_option maxHeartbeats 4000000 in
set_option maxRecDepth 100000 in
/-- reference: trial -/
theorem c_X8_trial (l : Launch) (G : GT) (N K : Nat) (ad : Nat → Nat) (M : Mem) (h61 : 61 ≤ N) (P D n bn t Wn : Nat) (hA : TryH M P D n bn t Wn) (x y u v : Int32) : CmI l G N K ad yX8_trial cX8_trial 6 .int 6 149 [.ref (ad 34), .int x, .int y, .int u, .int v] M (fun r M1 => tryD D bn n M x y u v r (M1 = M) (tryC P n bn u x M M1 ∧ tryNo n M M1) (∃ M2 : Mem, tryC P n bn u x M M2 ∧ tryOk bn t Wn (tryHx M x y v) (tryFx M bn n x y u v).2 M M2 ∧ BBi P n (4 * n + 373) M2 M1)) := by
  refine cm_startI (by decide +kernel) (Nat.le_of_ble_eq_true rfl) ?_
  intro p e s m below meth c ls S hr hlocks hw hl
  have hl : lv_has ls 6 [(0, .ref (ad 34)), (1, .int x), (2, .int y), (3, .int u), (4, .int v)] := hl
  refine lv_aload_n S.1 S.2.1 dX8_trial_0 rfl (lv_at hl 0 rfl) ?_
  refine lv_iload_n S.1 S.2.1 dX8_trial_1 rfl (lv_at hl 1 rfl) ?_
  refine lv_iload_n S.1 S.2.1 dX8_trial_2 rfl (lv_at hl 2 rfl) ?_
  refine lv_iload_n S.1 S.2.1 dX8_trial_3 rfl (lv_at hl 3 rfl) ?_
  refine lv_iload S.1 S.2.1 dX8_trial_4 (lv_at hl 4 rfl) ?_
  refine m_VI (As := [.int x, .int y, .int u, .int v]) (rest := []) 34 S hw (by omega) rfl rfl (c_X8_tries l G N K ad M h61 P D n bn t Wn hA x y u v) mf_X8_tries wm_X8_185 ⟨by decide, by decide⟩ ⟨Nat.le_refl _, Nat.le_refl _⟩ hl.1 rfl (Nat.le_of_ble_eq_true rfl) dX8_trial_6 (fun r1 M1 H locs hp1 hw => ?_)
  have hq1 := hp1
  have hbx := hA.2.2.2.2.2.2.2.1
  rcases pushD.split hq1 hbx (flow_le _ _) with ⟨hneg, hq⟩ | ⟨hneg, hok, hq⟩
  · skip
    refine lv_istore (lv' := [(5, .int r1), (0, .ref (ad 34)), (1, .int x), (2, .int y), (3, .int u), (4, .int v)]) S.1 S.2.1 dX8_trial_9 hl (by decide) rfl (fun ls hl => ?_)
    refine lv_iload S.1 S.2.1 dX8_trial_11 (lv_at hl 0 rfl) ?_
    refine lv_if_lt (tgt := 20) S.1 S.2.1 dX8_trial_13 (by decide) (fun c2 => ?_) (fun c2 => absurd c2 (fun z => z hneg))
    refine lv_iload S.1 S.2.1 dX8_trial_20 (lv_at hl 0 rfl) ?_
    exact m_reti S hr hlocks hw dX8_trial_22 (hq _)
  · obtain ⟨hC, hO⟩ := hok
    refine lv_istore (lv' := [(5, .int r1), (0, .ref (ad 34)), (1, .int x), (2, .int y), (3, .int u), (4, .int v)]) S.1 S.2.1 dX8_trial_9 hl (by decide) rfl (fun ls hl => ?_)
    refine lv_iload S.1 S.2.1 dX8_trial_11 (lv_at hl 0 rfl) ?_
    refine lv_if_lt (tgt := 20) S.1 S.2.1 dX8_trial_13 (by decide) (fun c3 => absurd c3 hneg) (fun c3 => ?_)
    refine lv_aload_n S.1 S.2.1 dX8_trial_16 rfl (lv_at hl 1 rfl) ?_
    refine m_VV (As := []) (rest := []) 34 S hw (by omega) rfl rfl (c_X8_bringBack l G N K ad M1 h61 n ((hC.2.2.2.2.1 1 (by decide) (by decide) (by decide) (by decide)).trans hA.2.2.2.2.1) hA.2.2.2.2.2.1 P ((hC.2.2.2.2.1 33 (by decide) (by decide) (by decide) (by decide)).trans hA.1) hA.2.1) mf_X8_bringBack wm_X8_179 ⟨by decide, by decide⟩ ⟨Nat.le_refl _, Nat.le_refl _⟩ hl.1 rfl (Nat.le_of_ble_eq_true rfl) dX8_trial_17 (fun M4 H locs hp4 hw => ?_)
    refine lv_iload S.1 S.2.1 dX8_trial_20 (lv_at hl 0 rfl) ?_
    exact m_reti S hr hlocks hw dX8_trial_22 (hq _ _ _ ⟨M1, hC, hO, hp4⟩)

set_option maxHeartbeats 4000000 in
set_option maxRecDepth 100000 in
/-- reference: undo -/
theorem c_X8_undo (l : Launch) (G : GT) (N K : Nat) (ad : Nat → Nat) (M : Mem) (h61 : 61 ≤ N) (n : Nat) (hn : M 34 1 = nI n) (hn1 : n ≤ 120) (P : Nat) (hP : M 34 33 = nI P) (hP1 : P < 200) : CmI l G N K ad yX8_undo cX8_undo 1 .int 2 41 [.ref (ad 34)] M (fun r M1 => Dec1 (decide (0 < P)) (r = -3 ∧ M1 = M) (r = M1 34 6 ∧ ∃ M2 : Mem, M2 = va_up M 34 (upd (M 34) 33 (nI (P - 1))) ∧ BBi (P - 1) n (4 * n + 373) M2 M1)) := by
  refine cm_startI (by decide +kernel) (Nat.le_of_ble_eq_true rfl) ?_
  intro p e s m below meth c ls S hr hlocks hw hl
  have hl : lv_has ls 1 [(0, .ref (ad 34))] := hl
  refine lv_aload_n S.1 S.2.1 dX8_undo_0 rfl (lv_at hl 0 rfl) ?_
  refine m_getI 34 33 S hw (by omega) rfl rfl rfl in_X8 (by decide) wf_X8_120 dX8_undo_1 ?_
  refine m_top (show M 34 33 = nI P from hP) ?_
  refine lv_if_ne (tgt := 10) S.1 S.2.1 dX8_undo_4 (by decide) (fun c1 => ?_) (fun c1 => ?_)
  · have hPp : 0 < P := Nat.pos_of_ne_zero (fun z => c1 (by rw [z]; rfl))
    refine lv_aload_n S.1 S.2.1 dX8_undo_10 rfl (lv_at hl 0 rfl) ?_
    refine lv_dup S.1 S.2.1 dX8_undo_11 rfl ?_
    refine m_getI 34 33 S hw (by omega) rfl rfl rfl in_X8 (by decide) wf_X8_120 dX8_undo_12 ?_
    refine m_top (show M 34 33 = nI P from hP) ?_
    refine lv_iconst (v := nI 1) S.1 S.2.1 dX8_undo_15 (by decide) ?_
    refine lv_isub S.1 S.2.1 dX8_undo_16 ?_
    refine m_top (show (nI P) - (nI 1) = nI (P - 1) from by rw [show P = P - 1 + 1 by omega]; exact nI_pred _) ?_
    refine n_putI 34 33 S hw (by omega) rfl rfl rfl in_X8 tyX8_ok nmX8 (by decide) rfl rfl wf_X8_120 dX8_undo_17 (fun M2 H locs eM2 hw => ?_)
    refine lv_aload_n S.1 S.2.1 dX8_undo_20 rfl (lv_at hl 0 rfl) ?_
    have hq3 : M2 34 = upd (M 34) 33 (nI (P - 1)) := by rw [eM2, va_up_self]
    have u34 : M2 34 = upd (M 34) 33 (nI (P - 1)) := hq3
    refine m_VV (As := []) (rest := []) 34 S hw (by omega) rfl rfl (c_X8_bringBack l G N K ad M2 h61 n (by rw [u34, pk_un (by decide)]; exact hn) hn1 (P - 1) (by rw [u34, pk_us]) (by omega)) mf_X8_bringBack wm_X8_179 ⟨by decide, by decide⟩ ⟨Nat.le_refl _, Nat.le_refl _⟩ hl.1 rfl (Nat.le_of_ble_eq_true rfl) dX8_undo_21 (fun M4 H locs hp4 hw => ?_)
    refine lv_aload_n S.1 S.2.1 dX8_undo_24 rfl (lv_at hl 0 rfl) ?_
    refine m_getI 34 6 S hw (by omega) rfl rfl rfl in_X8 (by decide) wf_X8_29 dX8_undo_25 ?_
    exact m_reti S hr hlocks hw dX8_undo_28 (Dec1.yes (decide_eq_true hPp) ⟨rfl, M2, eM2, hp4⟩)
  · refine lv_bipush (v := (-3)) S.1 S.2.1 dX8_undo_7 (by decide) ?_
    exact m_reti S hr hlocks hw dX8_undo_9 (Dec1.no (decide_eq_false (fun z => by have := (nI_eq (b := 0) (by omega) (by decide)).mp c1; omega)) ⟨rfl, rfl⟩)
