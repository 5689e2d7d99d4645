set_option maxHeartbeats 4000000 in
set_option maxRecDepth 100000 in
/-- Moment.flow -/
theorem c_X1_flow (l : Launch) (G : GT) (N K : Nat) (ad : Nat → Nat) (M : Mem) (h34 : 34 ≤ N) (D : Nat) (hD6 : D ≤ 6) (n : Nat) (hn : M 21 0 = nI n) (hn1 : n ≤ 120) (bn : Nat) (hbn : M 20 2 = nI bn) (hbn1 : bn < 200) (lo hi d k a cc : Nat) (hlo : lo < hi) (hhi : hi ≤ n) (hdD : d < D) (hk8 : k < 8) (haD : a < D) (hcc : cc ≤ 60) (pl0 : M 17 0 = nI k) (pl1 : M 17 1 = nI (a * 8 + k)) (pl2 : M 17 2 = nI d) (pl3 : M 17 3 = nI lo) (pl4 : M 17 4 = nI hi) (hz2 : Z01 (M 2) 64) (hvr : VR n (bn + 1) (fun r => M (20 + r))) (hvk : VK n bn k (fun r => M (20 + r))) : CmI l G N K ad yX1_flow cX1_flow 7 .int 4 103 [.ref (ad 20), .ref (ad 17), .int (nI cc), .ref (ad 6), .ref (ad 1)] M (fun r M1 => r = nI (flowS mfC M lo hi (a * 8 + k) d k bn n cc (fun r => if r = 11 then upd (M 31) bn (nI 0) else M (20 + r))).1 ∧ ((flowS mfC M lo hi (a * 8 + k) d k bn n cc (fun r => if r = 11 then upd (M 31) bn (nI 0) else M (20 + r))).1 = 0 → RG n D (bn + 1) M (fun r => M1 (20 + r)) (flowS mfC M lo hi (a * 8 + k) d k bn n cc (fun r => if r = 11 then upd (M 31) bn (nI 0) else M (20 + r))).2) ∧ M1 20 = M 20 ∧ M1 21 = M 21 ∧ M1 32 = M 32 ∧ Fr 20 33 M M1) := by
  refine cm_startI (by decide +kernel) (Nat.le_of_ble_eq_true rfl) ?_
  intro p e s m below meth c ls S hr hlocks hw hl
  have hl : lv_has ls 7 [(0, .ref (ad 20)), (1, .ref (ad 17)), (2, .int (nI cc)), (3, .ref (ad 6)), (4, .ref (ad 1))] := hl
  generalize hAv : List.toArray ([.ref (ad 20), .ref (ad 17), .int (nI cc), .ref (ad 6), .ref (ad 1)] : List Value) = A at S ⊢
  have loop : ∀ (n' : Nat) (i : Nat) (Ri : Mem), i + n' = cc → ∀ (M2 : Mem) (H : Heap) (locs : List Loc) (ls : Array Slot), (flowS mfC M lo hi (a * 8 + k) d k bn n cc (fun r => if r = 11 then upd (M 31) bn (nI 0) else M (20 + r)) = flowS mfC M lo hi (a * 8 + k) d k bn n n' Ri ∧ RG n D (bn + 1) M (fun r => M2 (20 + r)) Ri ∧ VR n (bn + 1) Ri ∧ VK n bn k Ri ∧ M2 20 = M 20 ∧ M2 21 = M 21 ∧ M2 32 = M 32 ∧ Fr 20 33 M M2) → Wd G N K ad M2 s H locs → lv_has ls 7 [(0, .ref (ad 20)), (1, .ref (ad 17)), (2, .int (nI cc)), (3, .ref (ad 6)), (4, .ref (ad 1)), (5, .int (nI i))] → W p l e { frames := 4, cells := 0, slots := 0, locals := 103 } s m A below meth c H locs 0 0 (QmI G N K ad (fun r M1 => r = nI (flowS mfC M lo hi (a * 8 + k) d k bn n cc (fun r => if r = 11 then upd (M 31) bn (nI 0) else M (20 + r))).1 ∧ ((flowS mfC M lo hi (a * 8 + k) d k bn n cc (fun r => if r = 11 then upd (M 31) bn (nI 0) else M (20 + r))).1 = 0 → RG n D (bn + 1) M (fun r => M1 (20 + r)) (flowS mfC M lo hi (a * 8 + k) d k bn n cc (fun r => if r = 11 then upd (M 31) bn (nI 0) else M (20 + r))).2) ∧ M1 20 = M 20 ∧ M1 21 = M 21 ∧ M1 32 = M 32 ∧ Fr 20 33 M M1) below A s) (F0 m 13 ls []) := by
    intro n'
    induction n' with
    | zero =>
      intro i Ri hix M2 H locs ls hv hw hl
      obtain ⟨ifl, irg, ivr, ivk, i20, i21, i32, ifr⟩ := hv
      refine lv_iload S.1 S.2.1 dX1_flow_13 (lv_at hl 5 rfl) ?_
      refine lv_iload_n S.1 S.2.1 dX1_flow_15 rfl (lv_at hl 2 rfl) ?_
      refine n_ge (tgt := 43) S (by omega) (by omega) dX1_flow_16 (by decide) (fun c1 => ?_) (fun c1 => absurd c1 (by omega))
      refine lv_iconst (v := nI 0) S.1 S.2.1 dX1_flow_43 (by decide) ?_
      exact m_reti S hr hlocks hw dX1_flow_44 ⟨by rw [ifl]; rfl, fun _ => by rw [ifl]; exact irg, i20, i21, i32, ifr⟩
    | succ n' ih =>
      intro i Ri hix M2 H locs ls hv hw hl
      obtain ⟨ifl, irg, ivr, ivk, i20, i21, i32, ifr⟩ := hv
      have pl0' : M2 17 0 = nI k := by rw [ifr 17 (by omega)]; exact pl0
      have pl1' : M2 17 1 = nI (a * 8 + k) := by rw [ifr 17 (by omega)]; exact pl1
      have pl2' : M2 17 2 = nI d := by rw [ifr 17 (by omega)]; exact pl2
      have pl3' : M2 17 3 = nI lo := by rw [ifr 17 (by omega)]; exact pl3
      have pl4' : M2 17 4 = nI hi := by rw [ifr 17 (by omega)]; exact pl4
      have hz2' : Z01 (M2 2) 64 := by rw [ifr 2 (by omega)]; exact hz2
      have hn2 : M2 21 0 = nI n := by rw [i21]; exact hn
      have hbn2 : M2 20 2 = nI bn := by rw [i20]; exact hbn
      have hvr2 : VR n (bn + 1) (fun r => M2 (20 + r)) := VR.cg ivr irg.symm
      have hTG : TG D M2 M := TG.of (ifr 2 (by omega)) (ifr 3 (by omega)) (ifr 4 (by omega)) (ifr 9 (by omega)) (ifr 10 (by omega)) (ifr 11 (by omega))
      obtain ⟨hcode, hnext⟩ := step_cg (bn := bn) (lo := lo) (hi := hi) (a := a) (d := d) (k := k) hTG (RG.T9 (ifr 9 (by omega)) irg) hvr2 (by omega) hlo hhi haD hdD hk8
      have hss := step_same (T := M) (src := a * 8 + k) (d := d) ivr ivk (Nat.lt_succ_self bn) (by omega) hlo hhi hk8
      refine lv_iload S.1 S.2.1 dX1_flow_13 (lv_at hl 5 rfl) ?_
      refine lv_iload_n S.1 S.2.1 dX1_flow_15 rfl (lv_at hl 2 rfl) ?_
      refine n_ge (tgt := 43) S (by omega) (by omega) dX1_flow_16 (by decide) (fun c11 => absurd c11 (by omega)) (fun c11 => ?_)
      refine lv_aload_n S.1 S.2.1 dX1_flow_19 rfl (lv_at hl 0 rfl) ?_
      refine lv_aload_n S.1 S.2.1 dX1_flow_20 rfl (lv_at hl 1 rfl) ?_
      refine lv_aload_n S.1 S.2.1 dX1_flow_21 rfl (lv_at hl 3 rfl) ?_
      refine lv_aload S.1 S.2.1 dX1_flow_22 (lv_at hl 4 rfl) ?_
      refine m_VI (As := [.ref (ad 17), .ref (ad 6), .ref (ad 1)]) (rest := []) 20 S hw (by omega) rfl rfl (c_X1_step l G N K ad M2 h34 n hn2 hn1 bn hbn2 hbn1 lo hi d k a hlo hhi (by omega) hk8 (by omega) pl0' pl1' pl2' pl3' pl4' hz2' (VR.mono hvr2 (by omega))) mf_X1_step wm_X1_62 ⟨by decide, by decide⟩ ⟨Nat.le_refl _, Nat.le_refl _⟩ hl.1 rfl (Nat.le_of_ble_eq_true rfl) dX1_flow_24 (fun r12 M12 H locs hp12 hw => ?_)
      obtain ⟨er12, ero12, e20_12, e21_12, e32_12, fr12⟩ := hp12
      refine m_top (show r12 = nI (stepS mfC M lo hi (a * 8 + k) d k bn n Ri).1 from er12.trans (by rw [hcode])) ?_
      refine lv_istore (lv' := [(6, .int (nI (stepS mfC M lo hi (a * 8 + k) d k bn n Ri).1)), (0, .ref (ad 20)), (1, .ref (ad 17)), (2, .int (nI cc)), (3, .ref (ad 6)), (4, .ref (ad 1)), (5, .int (nI i))]) S.1 S.2.1 dX1_flow_27 hl (by decide) rfl (fun ls hl => ?_)
      refine lv_iload S.1 S.2.1 dX1_flow_29 (lv_at hl 0 rfl) ?_
      refine lv_if_eq (tgt := 37) S.1 S.2.1 dX1_flow_31 (by decide) (fun c13 => ?_) (fun c13 => ?_)
      · refine lv_iinc (v := nI (i + 1)) (lv' := [(5, .int (nI (i + 1))), (6, .int (nI (stepS mfC M lo hi (a * 8 + k) d k bn n Ri).1)), (0, .ref (ad 20)), (1, .ref (ad 17)), (2, .int (nI cc)), (3, .ref (ad 6)), (4, .ref (ad 1))]) S.1 S.2.1 dX1_flow_37 hl (k := 6) rfl (iinc1 _) (by decide) rfl (fun ls hl => ?_)
        refine lv_goto (tgt := 13) S.1 S.2.1 dX1_flow_40 (by decide) ?_
        have hz : (stepS mfC M lo hi (a * 8 + k) d k bn n Ri).1 = 0 := (nI_z step_le).mp c13
        have hv3 := hss.2 hz
        refine ih (i + 1) (stepS mfC M lo hi (a * 8 + k) d k bn n Ri).2 (by omega) _ _ _ ls ⟨?_, ?_, hv3.1, hv3.2, e20_12.trans i20, e21_12.trans i21, e32_12.trans i32, Fr.tr ifr fr12 (by omega) (by omega)⟩ hw (lv_sub hl [2, 3, 4, 5, 6, 0] rfl)
        · rw [ifl]; exact if_pos hz
        · exact RG.T9 (ifr 9 (by omega)).symm (RG.rows (ero12 (hcode.trans hz)) (hnext (hcode.trans hz)))
      · refine lv_iload S.1 S.2.1 dX1_flow_34 (lv_at hl 0 rfl) ?_
        have hz : ¬ (stepS mfC M lo hi (a * 8 + k) d k bn n Ri).1 = 0 := fun z => c13 ((nI_z step_le).mpr z)
        have hF : flowS mfC M lo hi (a * 8 + k) d k bn n cc (fun r => if r = 11 then upd (M 31) bn (nI 0) else M (20 + r)) = stepS mfC M lo hi (a * 8 + k) d k bn n Ri := ifl.trans (if_neg hz)
        exact m_reti S hr hlocks hw dX1_flow_36 ⟨by rw [hF], (fun h => absurd (by rw [hF] at h; exact h) hz), e20_12.trans i20, e21_12.trans i21, e32_12.trans i32, Fr.tr ifr fr12 (by omega) (by omega)⟩
  refine lv_aload_n S.1 S.2.1 dX1_flow_0 rfl (lv_at hl 0 rfl) ?_
  refine m_getR 20 5 31 S hw (by omega) rfl rfl rfl in_X1 (by decide) wf_X1_35 dX1_flow_1 ?_
  refine lv_aload_n S.1 S.2.1 dX1_flow_4 rfl (lv_at hl 0 rfl) ?_
  refine m_getI 20 2 S hw (by omega) rfl rfl rfl in_X1 (by decide) wf_X1_18 dX1_flow_5 ?_
  refine m_top (show M 20 2 = nI bn from hbn) ?_
  refine lv_iconst (v := nI 0) S.1 S.2.1 dX1_flow_8 (by decide) ?_
  refine n_ast 31 bn S hw (by omega) rfl (by decide) (by omega) rfl dX1_flow_9 (fun M1 H locs eM1 hw => ?_)
  refine lv_iconst (v := nI 0) S.1 S.2.1 dX1_flow_10 (by decide) ?_
  refine lv_istore (lv' := [(5, .int (nI 0)), (0, .ref (ad 20)), (1, .ref (ad 17)), (2, .int (nI cc)), (3, .ref (ad 6)), (4, .ref (ad 1))]) S.1 S.2.1 dX1_flow_11 hl (by decide) rfl (fun ls hl => ?_)
  have hq2 : M1 20 = M 20 := by rw [eM1, va_up_ne _ _ (by omega)]
  have hq3 : M1 21 = M 21 := by rw [eM1, va_up_ne _ _ (by omega)]
  have hq4 : M1 32 = M 32 := by rw [eM1, va_up_ne _ _ (by omega)]
  have hrow : ∀ r, M1 (20 + r) = (fun r => if r = 11 then upd (M 31) bn (nI 0) else M (20 + r)) r := by
    intro r; rw [eM1]; by_cases h : r = 11
    · subst h; exact va_up_self _ _ _
    · show _ = (if r = 11 then _ else _); rw [if_neg h]; exact va_up_ne _ _ (by omega)
  have hvr1 : VR n (bn + 1) (fun r => if r = 11 then upd (M 31) bn (nI 0) else M (20 + r)) := hvr
  have hvk1 : VK n bn k (fun r => if r = 11 then upd (M 31) bn (nI 0) else M (20 + r)) := hvk
  exact loop cc 0 (fun r => if r = 11 then upd (M 31) bn (nI 0) else M (20 + r)) (by omega) _ _ _ ls ⟨rfl, RG.rows (fun r _ _ _ => hrow r) RG.rf, hvr1, hvk1, hq2, hq3, hq4, (by rw [eM1]; exact Fr.up Fr.rf (by omega) (by omega))⟩ hw (lv_sub hl [1, 2, 3, 4, 5, 0] rfl)

set_option maxHeartbeats 4000000 in
set_option maxRecDepth 100000 in
/-- Moment.pass -/
theorem c_X1_pass (l : Launch) (G : GT) (N K : Nat) (ad : Nat → Nat) (M : Mem) (h34 : 34 ≤ N) (t h : Nat) (ht : M 20 0 = nI t) (hth : t + h < 2 ^ 31) : CmV l G N K ad yX1_pass cX1_pass 4 2 43 [.ref (ad 20), .int (nI h), .ref (ad 1)] M (fun M1 => M1 20 0 = nI (t + h) ∧ M1 20 1 = passC (M 5) t (M 20 1) h ∧ M1 20 2 = M 20 2 ∧ Fr 20 21 M M1) := by
  refine cm_startV (by decide +kernel) (Nat.le_of_ble_eq_true rfl) ?_
  intro p e s m below meth c ls S hr hlocks hw hl
  have hl : lv_has ls 4 [(0, .ref (ad 20)), (1, .int (nI h)), (2, .ref (ad 1))] := hl
  generalize hAv : List.toArray ([.ref (ad 20), .int (nI h), .ref (ad 1)] : List Value) = A at S ⊢
  have loop : ∀ (n' : Nat) (i : Nat), i + n' = h → ∀ (M2 : Mem) (H : Heap) (locs : List Loc) (ls : Array Slot), (M2 20 0 = nI (t + i) ∧ passC (M 5) t (M 20 1) h = passC (M 5) (t + i) (M2 20 1) n' ∧ M2 20 2 = M 20 2 ∧ Fr 20 21 M M2) → Wd G N K ad M2 s H locs → lv_has ls 4 [(0, .ref (ad 20)), (1, .int (nI h)), (2, .ref (ad 1)), (3, .int (nI i))] → W p l e { frames := 2, cells := 0, slots := 0, locals := 43 } s m A below meth c H locs 0 0 (QmV G N K ad (fun M1 => M1 20 0 = nI (t + h) ∧ M1 20 1 = passC (M 5) t (M 20 1) h ∧ M1 20 2 = M 20 2 ∧ Fr 20 21 M M1) below A s) (F0 m 2 ls []) := by
    intro n'
    induction n' with
    | zero =>
      intro i hi M2 H locs ls hv hw hl
      refine lv_iload_n S.1 S.2.1 dX1_pass_2 rfl (lv_at hl 3 rfl) ?_
      refine lv_iload_n S.1 S.2.1 dX1_pass_3 rfl (lv_at hl 1 rfl) ?_
      refine n_ge (tgt := 40) S (by omega) (by omega) dX1_pass_4 (by decide) (fun c1 => ?_) (fun c1 => absurd c1 (by omega))
      exact m_retv S hr hlocks hw dX1_pass_40 ⟨by rw [hv.1, show i = h by omega], by rw [hv.2.1]; rfl, hv.2.2.1, hv.2.2.2⟩
    | succ n' ih =>
      intro i hi M2 H locs ls hv hw hl
      have hti : M2 20 0 = nI (t + i) := hv.1
      refine lv_iload_n S.1 S.2.1 dX1_pass_2 rfl (lv_at hl 3 rfl) ?_
      refine lv_iload_n S.1 S.2.1 dX1_pass_3 rfl (lv_at hl 1 rfl) ?_
      refine n_ge (tgt := 40) S (by omega) (by omega) dX1_pass_4 (by decide) (fun c11 => absurd c11 (by omega)) (fun c11 => ?_)
      refine lv_aload_n S.1 S.2.1 dX1_pass_7 rfl (lv_at hl 0 rfl) ?_
      refine lv_dup S.1 S.2.1 dX1_pass_8 rfl ?_
      refine m_getI 20 1 S hw (by omega) rfl rfl rfl in_X1 (by decide) wf_X1_15 dX1_pass_9 ?_
      refine lv_aload_n S.1 S.2.1 dX1_pass_12 rfl (lv_at hl 2 rfl) ?_
      refine lv_aload_n S.1 S.2.1 dX1_pass_13 rfl (lv_at hl 0 rfl) ?_
      refine m_getI 20 0 S hw (by omega) rfl rfl rfl in_X1 (by decide) wf_X1_9 dX1_pass_14 ?_
      refine m_top (show M2 20 0 = nI (t + i) from hti) ?_
      refine r_VI (As := [.int (nI (t + i))]) (rest := [.int (M2 20 1), .ref (ad 20)]) 1 S hw (by omega) rfl rfl (c_X5_priceAt l G N K ad M2 h34 (t + i) (by omega)) mf_X5_priceAt wm_X1_157 ⟨by decide, by decide⟩ ⟨Nat.le_refl _, Nat.le_refl _⟩ hl.1 rfl (Nat.le_of_ble_eq_true rfl) dX1_pass_17 (fun H locs hw => ?_)
      refine lv_iadd S.1 S.2.1 dX1_pass_20 ?_
      refine n_putI 20 1 S hw (by omega) rfl rfl rfl in_X1 tyX1_ok nmX1 (by decide) rfl rfl wf_X1_15 dX1_pass_21 (fun M12 H locs eM12 hw => ?_)
      refine lv_aload_n S.1 S.2.1 dX1_pass_24 rfl (lv_at hl 0 rfl) ?_
      refine lv_dup S.1 S.2.1 dX1_pass_25 rfl ?_
      refine m_getI 20 0 S hw (by omega) rfl rfl rfl in_X1 (by decide) wf_X1_9 dX1_pass_26 ?_
      have hq13 : M12 20 = upd (M2 20) 1 ((M2 20 1) + (M2 5 ((t + i) % 24))) := by rw [eM12, va_up_self]
      refine m_top (show M12 20 0 = (upd (M2 20) 1 ((M2 20 1) + (M2 5 ((t + i) % 24)))) 0 from congrFun hq13 0) ?_
      refine m_top (show (upd (M2 20) 1 ((M2 20 1) + (M2 5 ((t + i) % 24)))) 0 = M2 20 0 from (pk_un (by decide))) ?_
      refine m_top (show M2 20 0 = nI (t + i) from hti) ?_
      refine lv_iconst (v := nI 1) S.1 S.2.1 dX1_pass_29 (by decide) ?_
      refine lv_iadd S.1 S.2.1 dX1_pass_30 ?_
      refine m_top (show (nI (t + i)) + (nI 1) = nI ((t + i) + 1) from nI_add _ _) ?_
      refine n_putI 20 0 S hw (by omega) rfl rfl rfl in_X1 tyX1_ok nmX1 (by decide) rfl rfl wf_X1_9 dX1_pass_31 (fun M14 H locs eM14 hw => ?_)
      refine lv_iinc (v := nI (i + 1)) (lv' := [(3, .int (nI (i + 1))), (0, .ref (ad 20)), (1, .int (nI h)), (2, .ref (ad 1))]) S.1 S.2.1 dX1_pass_34 hl (k := 3) rfl (iinc1 _) (by decide) rfl (fun ls hl => ?_)
      refine lv_goto (tgt := 2) S.1 S.2.1 dX1_pass_37 (by decide) ?_
      have hq15 : M14 20 = upd (upd (M2 20) 1 ((M2 20 1) + (M2 5 ((t + i) % 24)))) 0 (nI ((t + i) + 1)) := by rw [eM14, va_up_self, hq13]
      refine ih (i + 1) (by omega) _ _ _ ls ⟨(Eq.trans (congrFun hq15 0) pk_us), ?_, ((Eq.trans (congrFun hq15 2) ((pk_un (by decide)).trans (pk_un (by decide))))).trans hv.2.2.1, (by rw [eM14]; exact Fr.up (by rw [eM12]; exact Fr.up hv.2.2.2 (by omega) (by omega)) (by omega) (by omega))⟩ hw (lv_sub hl [1, 2, 3, 0] rfl)
      rw [hv.2.1, (Eq.trans (congrFun hq15 1) ((pk_un (by decide)).trans pk_us)), hv.2.2.2 5 (by omega)]
      rfl
  refine lv_iconst (v := nI 0) S.1 S.2.1 dX1_pass_0 (by decide) ?_
  refine lv_istore_n (lv' := [(3, .int (nI 0)), (0, .ref (ad 20)), (1, .int (nI h)), (2, .ref (ad 1))]) S.1 S.2.1 dX1_pass_1 rfl hl (by decide) rfl (fun ls hl => ?_)
  exact loop h 0 (by omega) _ _ _ ls ⟨ht, rfl, rfl, Fr.rf⟩ hw (lv_sub hl [1, 2, 3, 0] rfl)
