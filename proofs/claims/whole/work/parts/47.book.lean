theorem pg_0 {n q : Nat} (hq : q < 4 * n + 373) (h : pgR n q = 0) : pgJ n q < 3 := by
  rcases pg_of n q hq with ⟨i, c, hi, hc, rfl⟩ | ⟨i, c, hi, hc, rfl⟩ | ⟨i, hi, rfl⟩ | ⟨i, hi, rfl⟩ | ⟨i, hi, rfl⟩ | ⟨i, hi, rfl⟩
  · rw [(pg_1 (n := n) hi hc).1] at h; omega
  · rw [(pg_2 (n := n) hi hc).1] at h; omega
  · rw [(pg_3 (n := n) hi).1] at h; omega
  · rw [(pg_4 (n := n) hi).1] at h; omega
  · rw [(pg_5 (n := n) hi).1] at h; omega
  · rw [(pg_6 (n := n) hi).2]; exact hi
def bkRow (k : Nat) : Prop := k = 35 ∨ k = 36 ∨ k = 37 ∨ k = 38 ∨ k = 41 ∨ k = 44 ∨ k = 48 ∨ k = 49 ∨ k = 50 ∨ k = 59
theorem BBi.row {P n o k rr i : Nat} {M M2 M3 M4 : Mem} {r : Int32} (h : BBi P n o M M2) (ho : o < 4 * n + 373) (e3 : M3 = va_up M2 34 (upd (M2 34) 34 (nI (900 * P + o + 1)))) (er : r = M2 60 (900 * P + o)) (e4 : M4 = va_up M3 k (upd (M3 k) i r)) (hk : bkRow k) (hm : ∀ (X : Mem) (f : Nat → Int32) (q : Nat), modR (va_up X k f) q = if q = rr then f else modR X q) (hrr : ∀ X : Mem, modR X rr = X k) (hR : pgR n o = rr) (hJ : pgJ n o = i) : BBi P n (o + 1) M M4 := by
  unfold bkRow at hk
  have h34 : M4 34 = upd (M2 34) 34 (nI (900 * P + o + 1)) := by rw [e4, va_up_ne _ _ (by omega), e3, va_up_self]
  refine h.put ho (by rw [h34, pk_us]) (fun j a _ _ _ => by rw [h34, pk_un a]) ?_ (fun q hq => ?_) (fun q hq => by rw [e4, va_up_ne _ _ (by omega), e3, va_up_ne _ _ (by omega)])
  · rw [e4, hm, if_pos hR, hJ, pk_us, er]
    exact congrFun (h.2.2.2 60 (by omega)) _
  · rw [e4, hm]
    by_cases c : pgR n q = rr
    · rw [if_pos c, pk_un (fun z => by have := pg_inj (by omega) ho (c.trans hR.symm) (z.trans hJ.symm); omega), ← hrr M3, c, e3, mod_at]
    · rw [if_neg c, e3, mod_at]
theorem BBi.fld {P n o c F : Nat} {M M2 M3 M4 : Mem} {r : Int32} (h : BBi P n o M M2) (ho : o < 4 * n + 373) (e3 : M3 = va_up M2 34 (upd (M2 34) 34 (nI (900 * P + o + 1)))) (er : r = M2 60 (900 * P + o)) (e4 : M4 = va_up M3 34 (upd (M3 34) F r)) (hF : F = 24 ∨ F = 25 ∨ F = 6) (hm : ∀ (X : Mem) (x : Int32) (q j : Nat), (q = 0 → j < 3) → modR (va_up X 34 (upd (X 34) F x)) q j = if q = 0 ∧ j = c then x else modR X q j) (hR : pgR n o = 0) (hJ : pgJ n o = c) : BBi P n (o + 1) M M4 := by
  have h34 : M4 34 = upd (upd (M2 34) 34 (nI (900 * P + o + 1))) F r := by rw [e4, va_up_self, e3, va_up_self]
  refine h.put ho (by rw [h34, pk_un (by omega), pk_us]) (fun j a b c d => by rw [h34, pk_un (by omega), pk_un a]) ?_ (fun q hq => ?_) (fun q hq => by rw [e4, va_up_ne _ _ (by omega), e3, va_up_ne _ _ (by omega)])
  · rw [e4, hm _ _ _ _ (fun z => pg_0 ho z), if_pos ⟨hR, hJ⟩, er]
    exact congrFun (h.2.2.2 60 (by omega)) _
  · rw [e4, hm _ _ _ _ (fun z => pg_0 (by omega) z), if_neg (fun z => by have := pg_inj (by omega) ho (z.1.trans hR.symm) (z.2.trans hJ.symm); omega), e3, mod_at]

set_option maxHeartbeats 4000000 in
set_option maxRecDepth 100000 in
/-- reference: note -/
theorem c_X8_note (l : Launch) (G : GT) (N K : Nat) (ad : Nat → Nat) (M : Mem) (h61 : 61 ≤ N) (A : Nat) (hA : M 34 34 = nI A) (hA1 : A < 180900) (v : Int32) : CmV l G N K ad yX8_note cX8_note 2 0 0 [.ref (ad 34), .int v] M (fun M1 => M1 34 = upd (M 34) 34 (nI (A + 1)) ∧ M1 60 = upd (M 60) A v ∧ (∀ k, k ≠ 34 ∧ k ≠ 60 → M1 k = M k)) := by
  refine cm_startV (by decide +kernel) (Nat.le_of_ble_eq_true rfl) ?_
  intro p e s m below meth c ls S hr hlocks hw hl
  have hl : lv_has ls 2 [(0, .ref (ad 34)), (1, .int v)] := hl
  refine lv_aload_n S.1 S.2.1 dX8_note_0 rfl (lv_at hl 0 rfl) ?_
  refine m_getR 34 32 60 S hw (by omega) rfl rfl rfl in_X8 (by decide) wf_X8_97 dX8_note_1 ?_
  refine lv_aload_n S.1 S.2.1 dX8_note_4 rfl (lv_at hl 0 rfl) ?_
  refine m_getI 34 34 S hw (by omega) rfl rfl rfl in_X8 (by decide) wf_X8_135 dX8_note_5 ?_
  refine m_top (show M 34 34 = nI A from hA) ?_
  refine lv_iload_n S.1 S.2.1 dX8_note_8 rfl (lv_at hl 1 rfl) ?_
  refine n_ast 60 A S hw (by omega) rfl (by decide) (by omega) rfl dX8_note_9 (fun M1 H locs eM1 hw => ?_)
  refine lv_aload_n S.1 S.2.1 dX8_note_10 rfl (lv_at hl 0 rfl) ?_
  refine lv_dup S.1 S.2.1 dX8_note_11 rfl ?_
  refine m_getI 34 34 S hw (by omega) rfl rfl rfl in_X8 (by decide) wf_X8_135 dX8_note_12 ?_
  have hq2 : M1 34 = M 34 := by rw [eM1, va_up_ne _ _ (by omega)]
  refine m_top (show M1 34 34 = M 34 34 from congrFun hq2 34) ?_
  refine m_top (show M 34 34 = nI A from hA) ?_
  refine lv_iconst (v := nI 1) S.1 S.2.1 dX8_note_15 (by decide) ?_
  refine lv_iadd S.1 S.2.1 dX8_note_16 ?_
  refine m_top (show (nI A) + (nI 1) = nI (A + 1) from nI_add _ _) ?_
  refine n_putI 34 34 S hw (by omega) rfl rfl rfl in_X8 tyX8_ok nmX8 (by decide) rfl rfl wf_X8_135 dX8_note_17 (fun M3 H locs eM3 hw => ?_)
  have hq4 : M3 34 = upd (M 34) 34 (nI (A + 1)) := by rw [eM3, va_up_self, hq2]
  have hq5 : M1 60 = upd (M 60) A v := by rw [eM1, va_up_self]
  have hq6 : M3 60 = upd (M 60) A v := by rw [eM3, va_up_ne _ _ (by omega), hq5]
  exact m_retv S hr hlocks hw dX8_note_20 ⟨hq4, hq6, (fun k hk => ((show M3 k = M1 k by rw [eM3]; exact va_up_ne _ _ (by omega)).trans (show M1 k = M k by rw [eM1]; exact va_up_ne _ _ (by omega))))⟩

set_option maxHeartbeats 4000000 in
set_option maxRecDepth 100000 in
/-- reference: noted -/
theorem c_X8_noted (l : Launch) (G : GT) (N K : Nat) (ad : Nat → Nat) (M : Mem) (h61 : 61 ≤ N) (A : Nat) (hA : M 34 34 = nI A) (hA1 : A < 180900) : CmI l G N K ad yX8_noted cX8_noted 1 .int 0 0 [.ref (ad 34)] M (fun r M1 => r = M 60 A ∧ M1 = va_up M 34 (upd (M 34) 34 (nI (A + 1)))) := by
  refine cm_startI (by decide +kernel) (Nat.le_of_ble_eq_true rfl) ?_
  intro p e s m below meth c ls S hr hlocks hw hl
  have hl : lv_has ls 1 [(0, .ref (ad 34))] := hl
  refine lv_aload_n S.1 S.2.1 dX8_noted_0 rfl (lv_at hl 0 rfl) ?_
  refine lv_dup S.1 S.2.1 dX8_noted_1 rfl ?_
  refine m_getI 34 34 S hw (by omega) rfl rfl rfl in_X8 (by decide) wf_X8_135 dX8_noted_2 ?_
  refine m_top (show M 34 34 = nI A from hA) ?_
  refine lv_iconst (v := nI 1) S.1 S.2.1 dX8_noted_5 (by decide) ?_
  refine lv_iadd S.1 S.2.1 dX8_noted_6 ?_
  refine m_top (show (nI A) + (nI 1) = nI (A + 1) from nI_add _ _) ?_
  refine n_putI 34 34 S hw (by omega) rfl rfl rfl in_X8 tyX8_ok nmX8 (by decide) rfl rfl wf_X8_135 dX8_noted_7 (fun M1 H locs eM1 hw => ?_)
  refine lv_aload_n S.1 S.2.1 dX8_noted_10 rfl (lv_at hl 0 rfl) ?_
  refine m_getR 34 32 60 S hw (by omega) rfl rfl rfl in_X8 (by decide) wf_X8_97 dX8_noted_11 ?_
  refine lv_aload_n S.1 S.2.1 dX8_noted_14 rfl (lv_at hl 0 rfl) ?_
  refine m_getI 34 34 S hw (by omega) rfl rfl rfl in_X8 (by decide) wf_X8_135 dX8_noted_15 ?_
  have hq2 : M1 34 = upd (M 34) 34 (nI (A + 1)) := by rw [eM1, va_up_self]
  refine m_top (show M1 34 34 = (upd (M 34) 34 (nI (A + 1))) 34 from congrFun hq2 34) ?_
  refine m_top (show (upd (M 34) 34 (nI (A + 1))) 34 = nI (A + 1) from pk_us) ?_
  refine lv_iconst (v := nI 1) S.1 S.2.1 dX8_noted_18 (by decide) ?_
  refine lv_isub S.1 S.2.1 dX8_noted_19 ?_
  refine m_top (show (nI (A + 1)) - (nI 1) = nI A from nI_pred _) ?_
  refine m_ald 60 A S hw (by omega) rfl (by decide) (by omega) rfl dX8_noted_20 ?_
  have hq3 : M1 60 = M 60 := by rw [eM1, va_up_ne _ _ (by omega)]
  refine m_top (show M1 60 A = M 60 A from congrFun hq3 A) ?_
  exact m_reti S hr hlocks hw dX8_noted_21 ⟨rfl, eM1⟩

set_option maxHeartbeats 4000000 in
set_option maxRecDepth 100000 in
/-- reference: writeDown -/
theorem c_X8_writeDown (l : Launch) (G : GT) (N K : Nat) (ad : Nat → Nat) (M : Mem) (h61 : 61 ≤ N) (n : Nat) (hn : M 34 1 = nI n) (hn1 : n ≤ 120) (P : Nat) (hP : M 34 33 = nI P) (hP1 : P < 200) : CmV l G N K ad yX8_writeDown cX8_writeDown 2 1 21 [.ref (ad 34)] M (fun M1 => WDi P n (4 * n + 373) M M1) := by
  refine cm_startV (by decide +kernel) (Nat.le_of_ble_eq_true rfl) ?_
  intro p e s m below meth c ls S hr hlocks hw hl
  have hl : lv_has ls 2 [(0, .ref (ad 34))] := hl
  generalize hAv : List.toArray ([.ref (ad 34)] : List Value) = A at S ⊢
  have loop5 : ∀ (n' : Nat) (i : Nat), i + n' = 200 → ∀ (M2 : Mem) (H : Heap) (locs : List Loc) (ls : Array Slot), WDi P n (4 * n + 170 + i) M M2 → Wd G N K ad M2 s H locs → lv_has ls 2 [(0, .ref (ad 34)), (1, .int (nI i))] → W p l e { frames := 1, cells := 0, slots := 0, locals := 21 } s m A below meth c H locs 0 0 (QmV G N K ad (fun M1 => WDi P n (4 * n + 373) M M1) below A s) (F0 m 162 ls []) := by
    intro n'
    induction n' with
    | zero =>
      intro i hi M2 H locs ls wd0 hw hl
      have wdt : WDi P n (4 * n + 370 + 0) M M2 := by rw [show 4 * n + 370 + 0 = 4 * n + 170 + i by omega]; exact wd0
      refine lv_iload_n S.1 S.2.1 dX8_writeDown_162 rfl (lv_at hl 1 rfl) ?_
      refine lv_sipush (v := nI 200) S.1 S.2.1 dX8_writeDown_163 (by decide) ?_
      refine n_ge (tgt := 185) S (by omega) (by omega) dX8_writeDown_166 (by decide) (fun c21 => ?_) (fun c21 => absurd c21 (by omega))
      refine lv_aload_n S.1 S.2.1 dX8_writeDown_185 rfl (lv_at hl 0 rfl) ?_
      refine lv_aload_n S.1 S.2.1 dX8_writeDown_186 rfl (lv_at hl 0 rfl) ?_
      refine m_getI 34 24 S hw (by omega) rfl rfl rfl in_X8 (by decide) wf_X8_114 dX8_writeDown_187 ?_
      refine m_VV (As := [.int (M2 34 24)]) (rest := []) 34 S hw (by omega) rfl rfl (c_X8_note l G N K ad M2 h61 (900 * P + (4 * n + 370 + 0)) wdt.1 (by omega) (M2 34 24)) mf_X8_note wm_X8_138 ⟨by decide, by decide⟩ ⟨Nat.le_refl _, Nat.le_refl _⟩ hl.1 rfl (Nat.le_of_ble_eq_true rfl) dX8_writeDown_190 (fun M22 H locs hp22 hw => ?_)
      obtain ⟨x34_22, x60_22, xf_22⟩ := hp22
      have wd22 : WDi P n (4 * n + 370 + 0 + 1) M M22 := WDi.step (o := 4 * n + 370 + 0) wdt rfl x34_22 x60_22 xf_22 ((wdt.2.1 24 (by decide)).trans (by unfold pgF; rw [(pg_6 (n := n) (c := 0) (by decide)).1, (pg_6 (n := n) (c := 0) (by decide)).2]; rfl))
      refine lv_aload_n S.1 S.2.1 dX8_writeDown_193 rfl (lv_at hl 0 rfl) ?_
      refine lv_aload_n S.1 S.2.1 dX8_writeDown_194 rfl (lv_at hl 0 rfl) ?_
      refine m_getI 34 25 S hw (by omega) rfl rfl rfl in_X8 (by decide) wf_X8_117 dX8_writeDown_195 ?_
      refine m_VV (As := [.int (M22 34 25)]) (rest := []) 34 S hw (by omega) rfl rfl (c_X8_note l G N K ad M22 h61 (900 * P + (4 * n + 370 + 1)) wd22.1 (by omega) (M22 34 25)) mf_X8_note wm_X8_138 ⟨by decide, by decide⟩ ⟨Nat.le_refl _, Nat.le_refl _⟩ hl.1 rfl (Nat.le_of_ble_eq_true rfl) dX8_writeDown_198 (fun M23 H locs hp23 hw => ?_)
      obtain ⟨x34_23, x60_23, xf_23⟩ := hp23
      have wd23 : WDi P n (4 * n + 370 + 1 + 1) M M23 := WDi.step (o := 4 * n + 370 + 1) wd22 rfl x34_23 x60_23 xf_23 ((wd22.2.1 25 (by decide)).trans (by unfold pgF; rw [(pg_6 (n := n) (c := 1) (by decide)).1, (pg_6 (n := n) (c := 1) (by decide)).2]; rfl))
      refine lv_aload_n S.1 S.2.1 dX8_writeDown_201 rfl (lv_at hl 0 rfl) ?_
      refine lv_aload_n S.1 S.2.1 dX8_writeDown_202 rfl (lv_at hl 0 rfl) ?_
      refine m_getI 34 6 S hw (by omega) rfl rfl rfl in_X8 (by decide) wf_X8_29 dX8_writeDown_203 ?_
      refine m_VV (As := [.int (M23 34 6)]) (rest := []) 34 S hw (by omega) rfl rfl (c_X8_note l G N K ad M23 h61 (900 * P + (4 * n + 370 + 2)) wd23.1 (by omega) (M23 34 6)) mf_X8_note wm_X8_138 ⟨by decide, by decide⟩ ⟨Nat.le_refl _, Nat.le_refl _⟩ hl.1 rfl (Nat.le_of_ble_eq_true rfl) dX8_writeDown_206 (fun M24 H locs hp24 hw => ?_)
      obtain ⟨x34_24, x60_24, xf_24⟩ := hp24
      have wd24 : WDi P n (4 * n + 370 + 2 + 1) M M24 := WDi.step (o := 4 * n + 370 + 2) wd23 rfl x34_24 x60_24 xf_24 ((wd23.2.1 6 (by decide)).trans (by unfold pgF; rw [(pg_6 (n := n) (c := 2) (by decide)).1, (pg_6 (n := n) (c := 2) (by decide)).2]; rfl))
      exact m_retv S hr hlocks hw dX8_writeDown_209 wd24
    | succ n' ih =>
      intro i hi M2 H locs ls wd0 hw hl
      refine lv_iload_n S.1 S.2.1 dX8_writeDown_162 rfl (lv_at hl 1 rfl) ?_
      refine lv_sipush (v := nI 200) S.1 S.2.1 dX8_writeDown_163 (by decide) ?_
      refine n_ge (tgt := 185) S (by omega) (by omega) dX8_writeDown_166 (by decide) (fun c21 => absurd c21 (by omega)) (fun c21 => ?_)
      refine lv_aload_n S.1 S.2.1 dX8_writeDown_169 rfl (lv_at hl 0 rfl) ?_
      refine lv_aload_n S.1 S.2.1 dX8_writeDown_170 rfl (lv_at hl 0 rfl) ?_
      refine m_getR 34 9 41 S hw (by omega) rfl rfl rfl in_X8 (by decide) wf_X8_38 dX8_writeDown_171 ?_
      refine lv_iload_n S.1 S.2.1 dX8_writeDown_174 rfl (lv_at hl 1 rfl) ?_
      refine m_ald 41 i S hw (by omega) rfl (by decide) (by omega) rfl dX8_writeDown_175 ?_
      refine m_VV (As := [.int (M2 41 i)]) (rest := []) 34 S hw (by omega) rfl rfl (c_X8_note l G N K ad M2 h61 (900 * P + (4 * n + 170 + i)) wd0.1 (by omega) (M2 41 i)) mf_X8_note wm_X8_138 ⟨by decide, by decide⟩ ⟨Nat.le_refl _, Nat.le_refl _⟩ hl.1 rfl (Nat.le_of_ble_eq_true rfl) dX8_writeDown_176 (fun M22 H locs hp22 hw => ?_)
      obtain ⟨x34_22, x60_22, xf_22⟩ := hp22
      have wd22 : WDi P n (4 * n + 170 + i + 1) M M22 := WDi.step (o := 4 * n + 170 + i) wd0 rfl x34_22 x60_22 xf_22 ((congrFun (wd0.2.2.2.2 41 (by omega)) i).trans (by unfold pgF; rw [(pg_5 (n := n) (i := i) (by omega)).1, (pg_5 (n := n) (i := i) (by omega)).2]; rfl))
      refine lv_iinc (v := nI (i + 1)) (lv' := [(1, .int (nI (i + 1))), (0, .ref (ad 34))]) S.1 S.2.1 dX8_writeDown_179 hl (k := 1) rfl (iinc1 _) (by decide) rfl (fun ls hl => ?_)
      refine lv_goto (tgt := 162) S.1 S.2.1 dX8_writeDown_182 (by decide) ?_
      exact ih (i + 1) (by omega) _ _ _ ls (by rw [show 4 * n + 170 + (i + 1) = 4 * n + 170 + i + 1 by omega]; exact wd22) hw (lv_sub hl [1, 0] rfl)
  have loop4 : ∀ (n' : Nat) (i : Nat), i + n' = 20 → ∀ (M2 : Mem) (H : Heap) (locs : List Loc) (ls : Array Slot), WDi P n (4 * n + 150 + i) M M2 → Wd G N K ad M2 s H locs → lv_has ls 2 [(0, .ref (ad 34)), (1, .int (nI i))] → W p l e { frames := 1, cells := 0, slots := 0, locals := 21 } s m A below meth c H locs 0 0 (QmV G N K ad (fun M1 => WDi P n (4 * n + 373) M M1) below A s) (F0 m 138 ls []) := by
    intro n'
    induction n' with
    | zero =>
      intro i hi M2 H locs ls wd0 hw hl
      refine lv_iload_n S.1 S.2.1 dX8_writeDown_138 rfl (lv_at hl 1 rfl) ?_
      refine lv_bipush (v := nI 20) S.1 S.2.1 dX8_writeDown_139 (by decide) ?_
      refine n_ge (tgt := 160) S (by omega) (by omega) dX8_writeDown_141 (by decide) (fun c21 => ?_) (fun c21 => absurd c21 (by omega))
      refine lv_iconst (v := nI 0) S.1 S.2.1 dX8_writeDown_160 (by decide) ?_
      refine lv_istore_n (lv' := [(1, .int (nI 0)), (0, .ref (ad 34))]) S.1 S.2.1 dX8_writeDown_161 rfl hl (by decide) rfl (fun ls hl => ?_)
      exact loop5 200 0 (by omega) M2 _ _ ls (by rw [show 4 * n + 170 + 0 = 4 * n + 150 + i by omega]; exact wd0) hw (lv_sub hl [1, 0] rfl)
    | succ n' ih =>
      intro i hi M2 H locs ls wd0 hw hl
      refine lv_iload_n S.1 S.2.1 dX8_writeDown_138 rfl (lv_at hl 1 rfl) ?_
      refine lv_bipush (v := nI 20) S.1 S.2.1 dX8_writeDown_139 (by decide) ?_
      refine n_ge (tgt := 160) S (by omega) (by omega) dX8_writeDown_141 (by decide) (fun c21 => absurd c21 (by omega)) (fun c21 => ?_)
      refine lv_aload_n S.1 S.2.1 dX8_writeDown_144 rfl (lv_at hl 0 rfl) ?_
      refine lv_aload_n S.1 S.2.1 dX8_writeDown_145 rfl (lv_at hl 0 rfl) ?_
      refine m_getR 34 31 59 S hw (by omega) rfl rfl rfl in_X8 (by decide) wf_X8_93 dX8_writeDown_146 ?_
      refine lv_iload_n S.1 S.2.1 dX8_writeDown_149 rfl (lv_at hl 1 rfl) ?_
      refine m_ald 59 i S hw (by omega) rfl (by decide) (by omega) rfl dX8_writeDown_150 ?_
      refine m_VV (As := [.int (M2 59 i)]) (rest := []) 34 S hw (by omega) rfl rfl (c_X8_note l G N K ad M2 h61 (900 * P + (4 * n + 150 + i)) wd0.1 (by omega) (M2 59 i)) mf_X8_note wm_X8_138 ⟨by decide, by decide⟩ ⟨Nat.le_refl _, Nat.le_refl _⟩ hl.1 rfl (Nat.le_of_ble_eq_true rfl) dX8_writeDown_151 (fun M22 H locs hp22 hw => ?_)
      obtain ⟨x34_22, x60_22, xf_22⟩ := hp22
      have wd22 : WDi P n (4 * n + 150 + i + 1) M M22 := WDi.step (o := 4 * n + 150 + i) wd0 rfl x34_22 x60_22 xf_22 ((congrFun (wd0.2.2.2.2 59 (by omega)) i).trans (by unfold pgF; rw [(pg_4 (n := n) (i := i) (by omega)).1, (pg_4 (n := n) (i := i) (by omega)).2]; rfl))
      refine lv_iinc (v := nI (i + 1)) (lv' := [(1, .int (nI (i + 1))), (0, .ref (ad 34))]) S.1 S.2.1 dX8_writeDown_154 hl (k := 1) rfl (iinc1 _) (by decide) rfl (fun ls hl => ?_)
      refine lv_goto (tgt := 138) S.1 S.2.1 dX8_writeDown_157 (by decide) ?_
      exact ih (i + 1) (by omega) _ _ _ ls (by rw [show 4 * n + 150 + (i + 1) = 4 * n + 150 + i + 1 by omega]; exact wd22) hw (lv_sub hl [1, 0] rfl)
  have loop3 : ∀ (n' : Nat) (i : Nat), i + n' = 6 → ∀ (M2 : Mem) (H : Heap) (locs : List Loc) (ls : Array Slot), WDi P n (4 * n + 144 + i) M M2 → Wd G N K ad M2 s H locs → lv_has ls 2 [(0, .ref (ad 34)), (1, .int (nI i))] → W p l e { frames := 1, cells := 0, slots := 0, locals := 21 } s m A below meth c H locs 0 0 (QmV G N K ad (fun M1 => WDi P n (4 * n + 373) M M1) below A s) (F0 m 114 ls []) := by
    intro n'
    induction n' with
    | zero =>
      intro i hi M2 H locs ls wd0 hw hl
      refine lv_iload_n S.1 S.2.1 dX8_writeDown_114 rfl (lv_at hl 1 rfl) ?_
      refine lv_bipush (v := nI 6) S.1 S.2.1 dX8_writeDown_115 (by decide) ?_
      refine n_ge (tgt := 136) S (by omega) (by omega) dX8_writeDown_117 (by decide) (fun c21 => ?_) (fun c21 => absurd c21 (by omega))
      refine lv_iconst (v := nI 0) S.1 S.2.1 dX8_writeDown_136 (by decide) ?_
      refine lv_istore_n (lv' := [(1, .int (nI 0)), (0, .ref (ad 34))]) S.1 S.2.1 dX8_writeDown_137 rfl hl (by decide) rfl (fun ls hl => ?_)
      exact loop4 20 0 (by omega) M2 _ _ ls (by rw [show 4 * n + 150 + 0 = 4 * n + 144 + i by omega]; exact wd0) hw (lv_sub hl [1, 0] rfl)
    | succ n' ih =>
      intro i hi M2 H locs ls wd0 hw hl
      refine lv_iload_n S.1 S.2.1 dX8_writeDown_114 rfl (lv_at hl 1 rfl) ?_
      refine lv_bipush (v := nI 6) S.1 S.2.1 dX8_writeDown_115 (by decide) ?_
      refine n_ge (tgt := 136) S (by omega) (by omega) dX8_writeDown_117 (by decide) (fun c21 => absurd c21 (by omega)) (fun c21 => ?_)
      refine lv_aload_n S.1 S.2.1 dX8_writeDown_120 rfl (lv_at hl 0 rfl) ?_
      refine lv_aload_n S.1 S.2.1 dX8_writeDown_121 rfl (lv_at hl 0 rfl) ?_
      refine m_getR 34 13 44 S hw (by omega) rfl rfl rfl in_X8 (by decide) wf_X8_47 dX8_writeDown_122 ?_
      refine lv_iload_n S.1 S.2.1 dX8_writeDown_125 rfl (lv_at hl 1 rfl) ?_
      refine m_ald 44 i S hw (by omega) rfl (by decide) (by omega) rfl dX8_writeDown_126 ?_
      refine m_VV (As := [.int (M2 44 i)]) (rest := []) 34 S hw (by omega) rfl rfl (c_X8_note l G N K ad M2 h61 (900 * P + (4 * n + 144 + i)) wd0.1 (by omega) (M2 44 i)) mf_X8_note wm_X8_138 ⟨by decide, by decide⟩ ⟨Nat.le_refl _, Nat.le_refl _⟩ hl.1 rfl (Nat.le_of_ble_eq_true rfl) dX8_writeDown_127 (fun M22 H locs hp22 hw => ?_)
      obtain ⟨x34_22, x60_22, xf_22⟩ := hp22
      have wd22 : WDi P n (4 * n + 144 + i + 1) M M22 := WDi.step (o := 4 * n + 144 + i) wd0 rfl x34_22 x60_22 xf_22 ((congrFun (wd0.2.2.2.2 44 (by omega)) i).trans (by unfold pgF; rw [(pg_3 (n := n) (i := i) (by omega)).1, (pg_3 (n := n) (i := i) (by omega)).2]; rfl))
      refine lv_iinc (v := nI (i + 1)) (lv' := [(1, .int (nI (i + 1))), (0, .ref (ad 34))]) S.1 S.2.1 dX8_writeDown_130 hl (k := 1) rfl (iinc1 _) (by decide) rfl (fun ls hl => ?_)
      refine lv_goto (tgt := 114) S.1 S.2.1 dX8_writeDown_133 (by decide) ?_
      exact ih (i + 1) (by omega) _ _ _ ls (by rw [show 4 * n + 144 + (i + 1) = 4 * n + 144 + i + 1 by omega]; exact wd22) hw (lv_sub hl [1, 0] rfl)
  have loop2 : ∀ (n' : Nat) (i : Nat), i + n' = 48 → ∀ (M2 : Mem) (H : Heap) (locs : List Loc) (ls : Array Slot), WDi P n (4 * n + 3 * i) M M2 → Wd G N K ad M2 s H locs → lv_has ls 2 [(0, .ref (ad 34)), (1, .int (nI i))] → W p l e { frames := 1, cells := 0, slots := 0, locals := 21 } s m A below meth c H locs 0 0 (QmV G N K ad (fun M1 => WDi P n (4 * n + 373) M M1) below A s) (F0 m 70 ls []) := by
    intro n'
    induction n' with
    | zero =>
      intro i hi M2 H locs ls wd0 hw hl
      refine lv_iload_n S.1 S.2.1 dX8_writeDown_70 rfl (lv_at hl 1 rfl) ?_
      refine lv_bipush (v := nI 48) S.1 S.2.1 dX8_writeDown_71 (by decide) ?_
      refine n_ge (tgt := 112) S (by omega) (by omega) dX8_writeDown_73 (by decide) (fun c21 => ?_) (fun c21 => absurd c21 (by omega))
      refine lv_iconst (v := nI 0) S.1 S.2.1 dX8_writeDown_112 (by decide) ?_
      refine lv_istore_n (lv' := [(1, .int (nI 0)), (0, .ref (ad 34))]) S.1 S.2.1 dX8_writeDown_113 rfl hl (by decide) rfl (fun ls hl => ?_)
      exact loop3 6 0 (by omega) M2 _ _ ls (by rw [show 4 * n + 144 + 0 = 4 * n + 3 * i by omega]; exact wd0) hw (lv_sub hl [1, 0] rfl)
    | succ n' ih =>
      intro i hi M2 H locs ls wd0 hw hl
      refine lv_iload_n S.1 S.2.1 dX8_writeDown_70 rfl (lv_at hl 1 rfl) ?_
      refine lv_bipush (v := nI 48) S.1 S.2.1 dX8_writeDown_71 (by decide) ?_
      refine n_ge (tgt := 112) S (by omega) (by omega) dX8_writeDown_73 (by decide) (fun c21 => absurd c21 (by omega)) (fun c21 => ?_)
      refine lv_aload_n S.1 S.2.1 dX8_writeDown_76 rfl (lv_at hl 0 rfl) ?_
      refine lv_aload_n S.1 S.2.1 dX8_writeDown_77 rfl (lv_at hl 0 rfl) ?_
      refine m_getR 34 17 48 S hw (by omega) rfl rfl rfl in_X8 (by decide) wf_X8_60 dX8_writeDown_78 ?_
      refine lv_iload_n S.1 S.2.1 dX8_writeDown_81 rfl (lv_at hl 1 rfl) ?_
      refine m_ald 48 i S hw (by omega) rfl (by decide) (by omega) rfl dX8_writeDown_82 ?_
      refine m_VV (As := [.int (M2 48 i)]) (rest := []) 34 S hw (by omega) rfl rfl (c_X8_note l G N K ad M2 h61 (900 * P + (4 * n + 3 * i + 0)) wd0.1 (by omega) (M2 48 i)) mf_X8_note wm_X8_138 ⟨by decide, by decide⟩ ⟨Nat.le_refl _, Nat.le_refl _⟩ hl.1 rfl (Nat.le_of_ble_eq_true rfl) dX8_writeDown_83 (fun M22 H locs hp22 hw => ?_)
      obtain ⟨x34_22, x60_22, xf_22⟩ := hp22
      have wd22 : WDi P n (4 * n + 3 * i + 0 + 1) M M22 := WDi.step (o := 4 * n + 3 * i + 0) wd0 rfl x34_22 x60_22 xf_22 ((congrFun (wd0.2.2.2.2 48 (by omega)) i).trans (by unfold pgF; rw [(pg_2 (n := n) (i := i) (c := 0) (by omega) (by decide)).1, (pg_2 (n := n) (i := i) (c := 0) (by omega) (by decide)).2]; rfl))
      refine lv_aload_n S.1 S.2.1 dX8_writeDown_86 rfl (lv_at hl 0 rfl) ?_
      refine lv_aload_n S.1 S.2.1 dX8_writeDown_87 rfl (lv_at hl 0 rfl) ?_
      refine m_getR 34 18 49 S hw (by omega) rfl rfl rfl in_X8 (by decide) wf_X8_63 dX8_writeDown_88 ?_
      refine lv_iload_n S.1 S.2.1 dX8_writeDown_91 rfl (lv_at hl 1 rfl) ?_
      refine m_ald 49 i S hw (by omega) rfl (by decide) (by omega) rfl dX8_writeDown_92 ?_
      refine m_VV (As := [.int (M22 49 i)]) (rest := []) 34 S hw (by omega) rfl rfl (c_X8_note l G N K ad M22 h61 (900 * P + (4 * n + 3 * i + 1)) wd22.1 (by omega) (M22 49 i)) mf_X8_note wm_X8_138 ⟨by decide, by decide⟩ ⟨Nat.le_refl _, Nat.le_refl _⟩ hl.1 rfl (Nat.le_of_ble_eq_true rfl) dX8_writeDown_93 (fun M23 H locs hp23 hw => ?_)
      obtain ⟨x34_23, x60_23, xf_23⟩ := hp23
      have wd23 : WDi P n (4 * n + 3 * i + 1 + 1) M M23 := WDi.step (o := 4 * n + 3 * i + 1) wd22 rfl x34_23 x60_23 xf_23 ((congrFun (wd22.2.2.2.2 49 (by omega)) i).trans (by unfold pgF; rw [(pg_2 (n := n) (i := i) (c := 1) (by omega) (by decide)).1, (pg_2 (n := n) (i := i) (c := 1) (by omega) (by decide)).2]; rfl))
      refine lv_aload_n S.1 S.2.1 dX8_writeDown_96 rfl (lv_at hl 0 rfl) ?_
      refine lv_aload_n S.1 S.2.1 dX8_writeDown_97 rfl (lv_at hl 0 rfl) ?_
      refine m_getR 34 19 50 S hw (by omega) rfl rfl rfl in_X8 (by decide) wf_X8_66 dX8_writeDown_98 ?_
      refine lv_iload_n S.1 S.2.1 dX8_writeDown_101 rfl (lv_at hl 1 rfl) ?_
      refine m_ald 50 i S hw (by omega) rfl (by decide) (by omega) rfl dX8_writeDown_102 ?_
      refine m_VV (As := [.int (M23 50 i)]) (rest := []) 34 S hw (by omega) rfl rfl (c_X8_note l G N K ad M23 h61 (900 * P + (4 * n + 3 * i + 2)) wd23.1 (by omega) (M23 50 i)) mf_X8_note wm_X8_138 ⟨by decide, by decide⟩ ⟨Nat.le_refl _, Nat.le_refl _⟩ hl.1 rfl (Nat.le_of_ble_eq_true rfl) dX8_writeDown_103 (fun M24 H locs hp24 hw => ?_)
      obtain ⟨x34_24, x60_24, xf_24⟩ := hp24
      have wd24 : WDi P n (4 * n + 3 * i + 2 + 1) M M24 := WDi.step (o := 4 * n + 3 * i + 2) wd23 rfl x34_24 x60_24 xf_24 ((congrFun (wd23.2.2.2.2 50 (by omega)) i).trans (by unfold pgF; rw [(pg_2 (n := n) (i := i) (c := 2) (by omega) (by decide)).1, (pg_2 (n := n) (i := i) (c := 2) (by omega) (by decide)).2]; rfl))
      refine lv_iinc (v := nI (i + 1)) (lv' := [(1, .int (nI (i + 1))), (0, .ref (ad 34))]) S.1 S.2.1 dX8_writeDown_106 hl (k := 1) rfl (iinc1 _) (by decide) rfl (fun ls hl => ?_)
      refine lv_goto (tgt := 70) S.1 S.2.1 dX8_writeDown_109 (by decide) ?_
      exact ih (i + 1) (by omega) _ _ _ ls (by rw [show 4 * n + 3 * (i + 1) = 4 * n + 3 * i + 2 + 1 by omega]; exact wd24) hw (lv_sub hl [1, 0] rfl)
  have loop1 : ∀ (n' : Nat) (i : Nat), i + n' = n → ∀ (M2 : Mem) (H : Heap) (locs : List Loc) (ls : Array Slot), WDi P n (4 * i) M M2 → Wd G N K ad M2 s H locs → lv_has ls 2 [(0, .ref (ad 34)), (1, .int (nI i))] → W p l e { frames := 1, cells := 0, slots := 0, locals := 21 } s m A below meth c H locs 0 0 (QmV G N K ad (fun M1 => WDi P n (4 * n + 373) M M1) below A s) (F0 m 14 ls []) := by
    intro n'
    induction n' with
    | zero =>
      intro i hi M2 H locs ls wd0 hw hl
      have hn2 : M2 34 1 = nI n := (wd0.2.1 1 (by decide)).trans hn
      refine lv_iload_n S.1 S.2.1 dX8_writeDown_14 rfl (lv_at hl 1 rfl) ?_
      refine lv_aload_n S.1 S.2.1 dX8_writeDown_15 rfl (lv_at hl 0 rfl) ?_
      refine m_getI 34 1 S hw (by omega) rfl rfl rfl in_X8 (by decide) wf_X8_13 dX8_writeDown_16 ?_
      refine m_top (show M2 34 1 = nI n from hn2) ?_
      refine n_ge (tgt := 68) S (by omega) (by omega) dX8_writeDown_19 (by decide) (fun c21 => ?_) (fun c21 => absurd c21 (by omega))
      refine lv_iconst (v := nI 0) S.1 S.2.1 dX8_writeDown_68 (by decide) ?_
      refine lv_istore_n (lv' := [(1, .int (nI 0)), (0, .ref (ad 34))]) S.1 S.2.1 dX8_writeDown_69 rfl hl (by decide) rfl (fun ls hl => ?_)
      exact loop2 48 0 (by omega) M2 _ _ ls (by rw [show 4 * n + 3 * 0 = 4 * i by omega]; exact wd0) hw (lv_sub hl [1, 0] rfl)
    | succ n' ih =>
      intro i hi M2 H locs ls wd0 hw hl
      have hn2 : M2 34 1 = nI n := (wd0.2.1 1 (by decide)).trans hn
      refine lv_iload_n S.1 S.2.1 dX8_writeDown_14 rfl (lv_at hl 1 rfl) ?_
      refine lv_aload_n S.1 S.2.1 dX8_writeDown_15 rfl (lv_at hl 0 rfl) ?_
      refine m_getI 34 1 S hw (by omega) rfl rfl rfl in_X8 (by decide) wf_X8_13 dX8_writeDown_16 ?_
      refine m_top (show M2 34 1 = nI n from hn2) ?_
      refine n_ge (tgt := 68) S (by omega) (by omega) dX8_writeDown_19 (by decide) (fun c21 => absurd c21 (by omega)) (fun c21 => ?_)
      refine lv_aload_n S.1 S.2.1 dX8_writeDown_22 rfl (lv_at hl 0 rfl) ?_
      refine lv_aload_n S.1 S.2.1 dX8_writeDown_23 rfl (lv_at hl 0 rfl) ?_
      refine m_getR 34 2 35 S hw (by omega) rfl rfl rfl in_X8 (by decide) wf_X8_16 dX8_writeDown_24 ?_
      refine lv_iload_n S.1 S.2.1 dX8_writeDown_27 rfl (lv_at hl 1 rfl) ?_
      refine m_ald 35 i S hw (by omega) rfl (by decide) (by omega) rfl dX8_writeDown_28 ?_
      refine m_VV (As := [.int (M2 35 i)]) (rest := []) 34 S hw (by omega) rfl rfl (c_X8_note l G N K ad M2 h61 (900 * P + (4 * i + 0)) wd0.1 (by omega) (M2 35 i)) mf_X8_note wm_X8_138 ⟨by decide, by decide⟩ ⟨Nat.le_refl _, Nat.le_refl _⟩ hl.1 rfl (Nat.le_of_ble_eq_true rfl) dX8_writeDown_29 (fun M22 H locs hp22 hw => ?_)
      obtain ⟨x34_22, x60_22, xf_22⟩ := hp22
      have wd22 : WDi P n (4 * i + 0 + 1) M M22 := WDi.step (o := 4 * i + 0) wd0 rfl x34_22 x60_22 xf_22 ((congrFun (wd0.2.2.2.2 35 (by omega)) i).trans (by unfold pgF; rw [(pg_1 (n := n) (i := i) (c := 0) (by omega) (by decide)).1, (pg_1 (n := n) (i := i) (c := 0) (by omega) (by decide)).2]; rfl))
      refine lv_aload_n S.1 S.2.1 dX8_writeDown_32 rfl (lv_at hl 0 rfl) ?_
      refine lv_aload_n S.1 S.2.1 dX8_writeDown_33 rfl (lv_at hl 0 rfl) ?_
      refine m_getR 34 3 36 S hw (by omega) rfl rfl rfl in_X8 (by decide) wf_X8_20 dX8_writeDown_34 ?_
      refine lv_iload_n S.1 S.2.1 dX8_writeDown_37 rfl (lv_at hl 1 rfl) ?_
      refine m_ald 36 i S hw (by omega) rfl (by decide) (by omega) rfl dX8_writeDown_38 ?_
      refine m_VV (As := [.int (M22 36 i)]) (rest := []) 34 S hw (by omega) rfl rfl (c_X8_note l G N K ad M22 h61 (900 * P + (4 * i + 1)) wd22.1 (by omega) (M22 36 i)) mf_X8_note wm_X8_138 ⟨by decide, by decide⟩ ⟨Nat.le_refl _, Nat.le_refl _⟩ hl.1 rfl (Nat.le_of_ble_eq_true rfl) dX8_writeDown_39 (fun M23 H locs hp23 hw => ?_)
      obtain ⟨x34_23, x60_23, xf_23⟩ := hp23
      have wd23 : WDi P n (4 * i + 1 + 1) M M23 := WDi.step (o := 4 * i + 1) wd22 rfl x34_23 x60_23 xf_23 ((congrFun (wd22.2.2.2.2 36 (by omega)) i).trans (by unfold pgF; rw [(pg_1 (n := n) (i := i) (c := 1) (by omega) (by decide)).1, (pg_1 (n := n) (i := i) (c := 1) (by omega) (by decide)).2]; rfl))
      refine lv_aload_n S.1 S.2.1 dX8_writeDown_42 rfl (lv_at hl 0 rfl) ?_
      refine lv_aload_n S.1 S.2.1 dX8_writeDown_43 rfl (lv_at hl 0 rfl) ?_
      refine m_getR 34 4 37 S hw (by omega) rfl rfl rfl in_X8 (by decide) wf_X8_23 dX8_writeDown_44 ?_
      refine lv_iload_n S.1 S.2.1 dX8_writeDown_47 rfl (lv_at hl 1 rfl) ?_
      refine m_ald 37 i S hw (by omega) rfl (by decide) (by omega) rfl dX8_writeDown_48 ?_
      refine m_VV (As := [.int (M23 37 i)]) (rest := []) 34 S hw (by omega) rfl rfl (c_X8_note l G N K ad M23 h61 (900 * P + (4 * i + 2)) wd23.1 (by omega) (M23 37 i)) mf_X8_note wm_X8_138 ⟨by decide, by decide⟩ ⟨Nat.le_refl _, Nat.le_refl _⟩ hl.1 rfl (Nat.le_of_ble_eq_true rfl) dX8_writeDown_49 (fun M24 H locs hp24 hw => ?_)
      obtain ⟨x34_24, x60_24, xf_24⟩ := hp24
      have wd24 : WDi P n (4 * i + 2 + 1) M M24 := WDi.step (o := 4 * i + 2) wd23 rfl x34_24 x60_24 xf_24 ((congrFun (wd23.2.2.2.2 37 (by omega)) i).trans (by unfold pgF; rw [(pg_1 (n := n) (i := i) (c := 2) (by omega) (by decide)).1, (pg_1 (n := n) (i := i) (c := 2) (by omega) (by decide)).2]; rfl))
      refine lv_aload_n S.1 S.2.1 dX8_writeDown_52 rfl (lv_at hl 0 rfl) ?_
      refine lv_aload_n S.1 S.2.1 dX8_writeDown_53 rfl (lv_at hl 0 rfl) ?_
      refine m_getR 34 5 38 S hw (by omega) rfl rfl rfl in_X8 (by decide) wf_X8_26 dX8_writeDown_54 ?_
      refine lv_iload_n S.1 S.2.1 dX8_writeDown_57 rfl (lv_at hl 1 rfl) ?_
      refine m_ald 38 i S hw (by omega) rfl (by decide) (by omega) rfl dX8_writeDown_58 ?_
      refine m_VV (As := [.int (M24 38 i)]) (rest := []) 34 S hw (by omega) rfl rfl (c_X8_note l G N K ad M24 h61 (900 * P + (4 * i + 3)) wd24.1 (by omega) (M24 38 i)) mf_X8_note wm_X8_138 ⟨by decide, by decide⟩ ⟨Nat.le_refl _, Nat.le_refl _⟩ hl.1 rfl (Nat.le_of_ble_eq_true rfl) dX8_writeDown_59 (fun M25 H locs hp25 hw => ?_)
      obtain ⟨x34_25, x60_25, xf_25⟩ := hp25
      have wd25 : WDi P n (4 * i + 3 + 1) M M25 := WDi.step (o := 4 * i + 3) wd24 rfl x34_25 x60_25 xf_25 ((congrFun (wd24.2.2.2.2 38 (by omega)) i).trans (by unfold pgF; rw [(pg_1 (n := n) (i := i) (c := 3) (by omega) (by decide)).1, (pg_1 (n := n) (i := i) (c := 3) (by omega) (by decide)).2]; rfl))
      refine lv_iinc (v := nI (i + 1)) (lv' := [(1, .int (nI (i + 1))), (0, .ref (ad 34))]) S.1 S.2.1 dX8_writeDown_62 hl (k := 1) rfl (iinc1 _) (by decide) rfl (fun ls hl => ?_)
      refine lv_goto (tgt := 14) S.1 S.2.1 dX8_writeDown_65 (by decide) ?_
      exact ih (i + 1) (by omega) _ _ _ ls (by rw [show 4 * (i + 1) = 4 * i + 3 + 1 by omega]; exact wd25) hw (lv_sub hl [1, 0] rfl)
  refine lv_aload_n S.1 S.2.1 dX8_writeDown_0 rfl (lv_at hl 0 rfl) ?_
  refine lv_sipush (v := nI 900) S.1 S.2.1 dX8_writeDown_1 (by decide) ?_
  refine lv_aload_n S.1 S.2.1 dX8_writeDown_4 rfl (lv_at hl 0 rfl) ?_
  refine m_getI 34 33 S hw (by omega) rfl rfl rfl in_X8 (by decide) wf_X8_120 dX8_writeDown_5 ?_
  refine m_top (show M 34 33 = nI P from hP) ?_
  refine lv_imul S.1 S.2.1 dX8_writeDown_8 ?_
  refine m_top (show (nI 900) * (nI P) = nI (900 * P) from pk_mul _ _) ?_
  refine n_putI 34 34 S hw (by omega) rfl rfl rfl in_X8 tyX8_ok nmX8 (by decide) rfl rfl wf_X8_135 dX8_writeDown_9 (fun M1 H locs eM1 hw => ?_)
  refine lv_iconst (v := nI 0) S.1 S.2.1 dX8_writeDown_12 (by decide) ?_
  refine lv_istore_n (lv' := [(1, .int (nI 0)), (0, .ref (ad 34))]) S.1 S.2.1 dX8_writeDown_13 rfl hl (by decide) rfl (fun ls hl => ?_)
  have hq2 : M1 34 = upd (M 34) 34 (nI (900 * P)) := by rw [eM1, va_up_self]
  have e34 : M1 34 = upd (M 34) 34 (nI (900 * P)) := hq2
  exact loop1 n 0 (by omega) M1 _ _ ls ⟨by rw [e34, pk_us]; rfl, fun j hj => by rw [e34, pk_un hj], fun q hq => absurd hq (by omega), fun q _ => congrFun (show M1 60 = M 60 by rw [eM1]; exact va_up_ne _ _ (by decide)) q, fun k hk => by rw [eM1]; exact va_up_ne _ _ hk.1⟩ hw (lv_sub hl [1, 0] rfl)

set_option maxHeartbeats 4000000 in
set_option maxRecDepth 100000 in
/-- reference: bringBack -/
theorem c_X8_bringBack (l : Launch) (G : GT) (N K : Nat) (ad : Nat → Nat) (M : Mem) (h61 : 61 ≤ N) (n : Nat) (hn : M 34 1 = nI n) (hn1 : n ≤ 120) (P : Nat) (hP : M 34 33 = nI P) (hP1 : P < 200) : CmV l G N K ad yX8_bringBack cX8_bringBack 2 1 20 [.ref (ad 34)] M (fun M1 => BBi P n (4 * n + 373) M M1) := by
  refine cm_startV (by decide +kernel) (Nat.le_of_ble_eq_true rfl) ?_
  intro p e s m below meth c ls S hr hlocks hw hl
  have hl : lv_has ls 2 [(0, .ref (ad 34))] := hl
  generalize hAv : List.toArray ([.ref (ad 34)] : List Value) = A at S ⊢
  have loop5 : ∀ (n' : Nat) (i : Nat), i + n' = 200 → ∀ (M2 : Mem) (H : Heap) (locs : List Loc) (ls : Array Slot), BBi P n (4 * n + 170 + i) M M2 → Wd G N K ad M2 s H locs → lv_has ls 2 [(0, .ref (ad 34)), (1, .int (nI i))] → W p l e { frames := 1, cells := 0, slots := 0, locals := 20 } s m A below meth c H locs 0 0 (QmV G N K ad (fun M1 => BBi P n (4 * n + 373) M M1) below A s) (F0 m 162 ls []) := by
    intro n'
    induction n' with
    | zero =>
      intro i hi M2 H locs ls wd0 hw hl
      have wdt : BBi P n (4 * n + 370 + 0) M M2 := by rw [show 4 * n + 370 + 0 = 4 * n + 170 + i by omega]; exact wd0
      refine lv_iload_n S.1 S.2.1 dX8_bringBack_162 rfl (lv_at hl 1 rfl) ?_
      refine lv_sipush (v := nI 200) S.1 S.2.1 dX8_bringBack_163 (by decide) ?_
      refine n_ge (tgt := 185) S (by omega) (by omega) dX8_bringBack_166 (by decide) (fun c21 => ?_) (fun c21 => absurd c21 (by omega))
      refine lv_aload_n S.1 S.2.1 dX8_bringBack_185 rfl (lv_at hl 0 rfl) ?_
      refine lv_aload_n S.1 S.2.1 dX8_bringBack_186 rfl (lv_at hl 0 rfl) ?_
      refine m_VI (As := []) (rest := [.ref (ad 34)]) 34 S hw (by omega) rfl rfl (c_X8_noted l G N K ad M2 h61 (900 * P + (4 * n + 370 + 0)) wdt.1 (by omega)) mf_X8_noted wm_X8_142 ⟨by decide, by decide⟩ ⟨Nat.le_refl _, Nat.le_refl _⟩ hl.1 rfl (Nat.le_of_ble_eq_true rfl) dX8_bringBack_187 (fun r22 M22 H locs hp22 hw => ?_)
      obtain ⟨y1_22, y2_22⟩ := hp22
      refine n_putI 34 24 S hw (by omega) rfl rfl rfl in_X8 tyX8_ok nmX8 (by decide) rfl rfl wf_X8_114 dX8_bringBack_190 (fun M23 H locs eM23 hw => ?_)
      have bb22 : BBi P n (4 * n + 370 + 0 + 1) M M23 := BBi.fld (c := 0) (F := 24) wdt (by omega) y2_22 y1_22 eM23 (by decide) (fun X x q j hj => mod_24 hj) (pg_6 (c := 0) (by decide)).1 (pg_6 (c := 0) (by decide)).2
      refine lv_aload_n S.1 S.2.1 dX8_bringBack_193 rfl (lv_at hl 0 rfl) ?_
      refine lv_aload_n S.1 S.2.1 dX8_bringBack_194 rfl (lv_at hl 0 rfl) ?_
      refine m_VI (As := []) (rest := [.ref (ad 34)]) 34 S hw (by omega) rfl rfl (c_X8_noted l G N K ad M23 h61 (900 * P + (4 * n + 370 + 1)) bb22.1 (by omega)) mf_X8_noted wm_X8_142 ⟨by decide, by decide⟩ ⟨Nat.le_refl _, Nat.le_refl _⟩ hl.1 rfl (Nat.le_of_ble_eq_true rfl) dX8_bringBack_195 (fun r24 M24 H locs hp24 hw => ?_)
      obtain ⟨y1_24, y2_24⟩ := hp24
      refine n_putI 34 25 S hw (by omega) rfl rfl rfl in_X8 tyX8_ok nmX8 (by decide) rfl rfl wf_X8_117 dX8_bringBack_198 (fun M25 H locs eM25 hw => ?_)
      have bb24 : BBi P n (4 * n + 370 + 1 + 1) M M25 := BBi.fld (c := 1) (F := 25) bb22 (by omega) y2_24 y1_24 eM25 (by decide) (fun X x q j hj => mod_25 hj) (pg_6 (c := 1) (by decide)).1 (pg_6 (c := 1) (by decide)).2
      refine lv_aload_n S.1 S.2.1 dX8_bringBack_201 rfl (lv_at hl 0 rfl) ?_
      refine lv_aload_n S.1 S.2.1 dX8_bringBack_202 rfl (lv_at hl 0 rfl) ?_
      refine m_VI (As := []) (rest := [.ref (ad 34)]) 34 S hw (by omega) rfl rfl (c_X8_noted l G N K ad M25 h61 (900 * P + (4 * n + 370 + 2)) bb24.1 (by omega)) mf_X8_noted wm_X8_142 ⟨by decide, by decide⟩ ⟨Nat.le_refl _, Nat.le_refl _⟩ hl.1 rfl (Nat.le_of_ble_eq_true rfl) dX8_bringBack_203 (fun r26 M26 H locs hp26 hw => ?_)
      obtain ⟨y1_26, y2_26⟩ := hp26
      refine n_putI 34 6 S hw (by omega) rfl rfl rfl in_X8 tyX8_ok nmX8 (by decide) rfl rfl wf_X8_29 dX8_bringBack_206 (fun M27 H locs eM27 hw => ?_)
      have bb26 : BBi P n (4 * n + 370 + 2 + 1) M M27 := BBi.fld (c := 2) (F := 6) bb24 (by omega) y2_26 y1_26 eM27 (by decide) (fun X x q j hj => mod_6 hj) (pg_6 (c := 2) (by decide)).1 (pg_6 (c := 2) (by decide)).2
      exact m_retv S hr hlocks hw dX8_bringBack_209 bb26
    | succ n' ih =>
      intro i hi M2 H locs ls wd0 hw hl
      refine lv_iload_n S.1 S.2.1 dX8_bringBack_162 rfl (lv_at hl 1 rfl) ?_
      refine lv_sipush (v := nI 200) S.1 S.2.1 dX8_bringBack_163 (by decide) ?_
      refine n_ge (tgt := 185) S (by omega) (by omega) dX8_bringBack_166 (by decide) (fun c21 => absurd c21 (by omega)) (fun c21 => ?_)
      refine lv_aload_n S.1 S.2.1 dX8_bringBack_169 rfl (lv_at hl 0 rfl) ?_
      refine m_getR 34 9 41 S hw (by omega) rfl rfl rfl in_X8 (by decide) wf_X8_38 dX8_bringBack_170 ?_
      refine lv_iload_n S.1 S.2.1 dX8_bringBack_173 rfl (lv_at hl 1 rfl) ?_
      refine lv_aload_n S.1 S.2.1 dX8_bringBack_174 rfl (lv_at hl 0 rfl) ?_
      refine m_VI (As := []) (rest := [.int (nI i), .ref (ad 41)]) 34 S hw (by omega) rfl rfl (c_X8_noted l G N K ad M2 h61 (900 * P + (4 * n + 170 + i)) wd0.1 (by omega)) mf_X8_noted wm_X8_142 ⟨by decide, by decide⟩ ⟨Nat.le_refl _, Nat.le_refl _⟩ hl.1 rfl (Nat.le_of_ble_eq_true rfl) dX8_bringBack_175 (fun r22 M22 H locs hp22 hw => ?_)
      obtain ⟨y1_22, y2_22⟩ := hp22
      refine n_ast 41 i S hw (by omega) rfl (by decide) (by omega) rfl dX8_bringBack_178 (fun M23 H locs eM23 hw => ?_)
      have bb22 : BBi P n (4 * n + 170 + i + 1) M M23 := BBi.row (k := 41) (rr := 11) (i := i) wd0 (by omega) y2_22 y1_22 eM23 (by unfold bkRow; decide) (fun X f q => modR_41 q) (fun _ => rfl) (pg_5 (n := n) (i := i) (by omega)).1 (pg_5 (n := n) (i := i) (by omega)).2
      refine lv_iinc (v := nI (i + 1)) (lv' := [(1, .int (nI (i + 1))), (0, .ref (ad 34))]) S.1 S.2.1 dX8_bringBack_179 hl (k := 1) rfl (iinc1 _) (by decide) rfl (fun ls hl => ?_)
      refine lv_goto (tgt := 162) S.1 S.2.1 dX8_bringBack_182 (by decide) ?_
      exact ih (i + 1) (by omega) _ _ _ ls (by rw [show 4 * n + 170 + (i + 1) = 4 * n + 170 + i + 1 by omega]; exact bb22) hw (lv_sub hl [1, 0] rfl)
  have loop4 : ∀ (n' : Nat) (i : Nat), i + n' = 20 → ∀ (M2 : Mem) (H : Heap) (locs : List Loc) (ls : Array Slot), BBi P n (4 * n + 150 + i) M M2 → Wd G N K ad M2 s H locs → lv_has ls 2 [(0, .ref (ad 34)), (1, .int (nI i))] → W p l e { frames := 1, cells := 0, slots := 0, locals := 20 } s m A below meth c H locs 0 0 (QmV G N K ad (fun M1 => BBi P n (4 * n + 373) M M1) below A s) (F0 m 138 ls []) := by
    intro n'
    induction n' with
    | zero =>
      intro i hi M2 H locs ls wd0 hw hl
      refine lv_iload_n S.1 S.2.1 dX8_bringBack_138 rfl (lv_at hl 1 rfl) ?_
      refine lv_bipush (v := nI 20) S.1 S.2.1 dX8_bringBack_139 (by decide) ?_
      refine n_ge (tgt := 160) S (by omega) (by omega) dX8_bringBack_141 (by decide) (fun c21 => ?_) (fun c21 => absurd c21 (by omega))
      refine lv_iconst (v := nI 0) S.1 S.2.1 dX8_bringBack_160 (by decide) ?_
      refine lv_istore_n (lv' := [(1, .int (nI 0)), (0, .ref (ad 34))]) S.1 S.2.1 dX8_bringBack_161 rfl hl (by decide) rfl (fun ls hl => ?_)
      exact loop5 200 0 (by omega) M2 _ _ ls (by rw [show 4 * n + 170 + 0 = 4 * n + 150 + i by omega]; exact wd0) hw (lv_sub hl [1, 0] rfl)
    | succ n' ih =>
      intro i hi M2 H locs ls wd0 hw hl
      refine lv_iload_n S.1 S.2.1 dX8_bringBack_138 rfl (lv_at hl 1 rfl) ?_
      refine lv_bipush (v := nI 20) S.1 S.2.1 dX8_bringBack_139 (by decide) ?_
      refine n_ge (tgt := 160) S (by omega) (by omega) dX8_bringBack_141 (by decide) (fun c21 => absurd c21 (by omega)) (fun c21 => ?_)
      refine lv_aload_n S.1 S.2.1 dX8_bringBack_144 rfl (lv_at hl 0 rfl) ?_
      refine m_getR 34 31 59 S hw (by omega) rfl rfl rfl in_X8 (by decide) wf_X8_93 dX8_bringBack_145 ?_
      refine lv_iload_n S.1 S.2.1 dX8_bringBack_148 rfl (lv_at hl 1 rfl) ?_
      refine lv_aload_n S.1 S.2.1 dX8_bringBack_149 rfl (lv_at hl 0 rfl) ?_
      refine m_VI (As := []) (rest := [.int (nI i), .ref (ad 59)]) 34 S hw (by omega) rfl rfl (c_X8_noted l G N K ad M2 h61 (900 * P + (4 * n + 150 + i)) wd0.1 (by omega)) mf_X8_noted wm_X8_142 ⟨by decide, by decide⟩ ⟨Nat.le_refl _, Nat.le_refl _⟩ hl.1 rfl (Nat.le_of_ble_eq_true rfl) dX8_bringBack_150 (fun r22 M22 H locs hp22 hw => ?_)
      obtain ⟨y1_22, y2_22⟩ := hp22
      refine n_ast 59 i S hw (by omega) rfl (by decide) (by omega) rfl dX8_bringBack_153 (fun M23 H locs eM23 hw => ?_)
      have bb22 : BBi P n (4 * n + 150 + i + 1) M M23 := BBi.row (k := 59) (rr := 12) (i := i) wd0 (by omega) y2_22 y1_22 eM23 (by unfold bkRow; decide) (fun X f q => modR_59 q) (fun _ => rfl) (pg_4 (n := n) (i := i) (by omega)).1 (pg_4 (n := n) (i := i) (by omega)).2
      refine lv_iinc (v := nI (i + 1)) (lv' := [(1, .int (nI (i + 1))), (0, .ref (ad 34))]) S.1 S.2.1 dX8_bringBack_154 hl (k := 1) rfl (iinc1 _) (by decide) rfl (fun ls hl => ?_)
      refine lv_goto (tgt := 138) S.1 S.2.1 dX8_bringBack_157 (by decide) ?_
      exact ih (i + 1) (by omega) _ _ _ ls (by rw [show 4 * n + 150 + (i + 1) = 4 * n + 150 + i + 1 by omega]; exact bb22) hw (lv_sub hl [1, 0] rfl)
  have loop3 : ∀ (n' : Nat) (i : Nat), i + n' = 6 → ∀ (M2 : Mem) (H : Heap) (locs : List Loc) (ls : Array Slot), BBi P n (4 * n + 144 + i) M M2 → Wd G N K ad M2 s H locs → lv_has ls 2 [(0, .ref (ad 34)), (1, .int (nI i))] → W p l e { frames := 1, cells := 0, slots := 0, locals := 20 } s m A below meth c H locs 0 0 (QmV G N K ad (fun M1 => BBi P n (4 * n + 373) M M1) below A s) (F0 m 114 ls []) := by
    intro n'
    induction n' with
    | zero =>
      intro i hi M2 H locs ls wd0 hw hl
      refine lv_iload_n S.1 S.2.1 dX8_bringBack_114 rfl (lv_at hl 1 rfl) ?_
      refine lv_bipush (v := nI 6) S.1 S.2.1 dX8_bringBack_115 (by decide) ?_
      refine n_ge (tgt := 136) S (by omega) (by omega) dX8_bringBack_117 (by decide) (fun c21 => ?_) (fun c21 => absurd c21 (by omega))
      refine lv_iconst (v := nI 0) S.1 S.2.1 dX8_bringBack_136 (by decide) ?_
      refine lv_istore_n (lv' := [(1, .int (nI 0)), (0, .ref (ad 34))]) S.1 S.2.1 dX8_bringBack_137 rfl hl (by decide) rfl (fun ls hl => ?_)
      exact loop4 20 0 (by omega) M2 _ _ ls (by rw [show 4 * n + 150 + 0 = 4 * n + 144 + i by omega]; exact wd0) hw (lv_sub hl [1, 0] rfl)
    | succ n' ih =>
      intro i hi M2 H locs ls wd0 hw hl
      refine lv_iload_n S.1 S.2.1 dX8_bringBack_114 rfl (lv_at hl 1 rfl) ?_
      refine lv_bipush (v := nI 6) S.1 S.2.1 dX8_bringBack_115 (by decide) ?_
      refine n_ge (tgt := 136) S (by omega) (by omega) dX8_bringBack_117 (by decide) (fun c21 => absurd c21 (by omega)) (fun c21 => ?_)
      refine lv_aload_n S.1 S.2.1 dX8_bringBack_120 rfl (lv_at hl 0 rfl) ?_
      refine m_getR 34 13 44 S hw (by omega) rfl rfl rfl in_X8 (by decide) wf_X8_47 dX8_bringBack_121 ?_
      refine lv_iload_n S.1 S.2.1 dX8_bringBack_124 rfl (lv_at hl 1 rfl) ?_
      refine lv_aload_n S.1 S.2.1 dX8_bringBack_125 rfl (lv_at hl 0 rfl) ?_
      refine m_VI (As := []) (rest := [.int (nI i), .ref (ad 44)]) 34 S hw (by omega) rfl rfl (c_X8_noted l G N K ad M2 h61 (900 * P + (4 * n + 144 + i)) wd0.1 (by omega)) mf_X8_noted wm_X8_142 ⟨by decide, by decide⟩ ⟨Nat.le_refl _, Nat.le_refl _⟩ hl.1 rfl (Nat.le_of_ble_eq_true rfl) dX8_bringBack_126 (fun r22 M22 H locs hp22 hw => ?_)
      obtain ⟨y1_22, y2_22⟩ := hp22
      refine n_ast 44 i S hw (by omega) rfl (by decide) (by omega) rfl dX8_bringBack_129 (fun M23 H locs eM23 hw => ?_)
      have bb22 : BBi P n (4 * n + 144 + i + 1) M M23 := BBi.row (k := 44) (rr := 10) (i := i) wd0 (by omega) y2_22 y1_22 eM23 (by unfold bkRow; decide) (fun X f q => modR_44 q) (fun _ => rfl) (pg_3 (n := n) (i := i) (by omega)).1 (pg_3 (n := n) (i := i) (by omega)).2
      refine lv_iinc (v := nI (i + 1)) (lv' := [(1, .int (nI (i + 1))), (0, .ref (ad 34))]) S.1 S.2.1 dX8_bringBack_130 hl (k := 1) rfl (iinc1 _) (by decide) rfl (fun ls hl => ?_)
      refine lv_goto (tgt := 114) S.1 S.2.1 dX8_bringBack_133 (by decide) ?_
      exact ih (i + 1) (by omega) _ _ _ ls (by rw [show 4 * n + 144 + (i + 1) = 4 * n + 144 + i + 1 by omega]; exact bb22) hw (lv_sub hl [1, 0] rfl)
  have loop2 : ∀ (n' : Nat) (i : Nat), i + n' = 48 → ∀ (M2 : Mem) (H : Heap) (locs : List Loc) (ls : Array Slot), BBi P n (4 * n + 3 * i) M M2 → Wd G N K ad M2 s H locs → lv_has ls 2 [(0, .ref (ad 34)), (1, .int (nI i))] → W p l e { frames := 1, cells := 0, slots := 0, locals := 20 } s m A below meth c H locs 0 0 (QmV G N K ad (fun M1 => BBi P n (4 * n + 373) M M1) below A s) (F0 m 70 ls []) := by
    intro n'
    induction n' with
    | zero =>
      intro i hi M2 H locs ls wd0 hw hl
      refine lv_iload_n S.1 S.2.1 dX8_bringBack_70 rfl (lv_at hl 1 rfl) ?_
      refine lv_bipush (v := nI 48) S.1 S.2.1 dX8_bringBack_71 (by decide) ?_
      refine n_ge (tgt := 112) S (by omega) (by omega) dX8_bringBack_73 (by decide) (fun c21 => ?_) (fun c21 => absurd c21 (by omega))
      refine lv_iconst (v := nI 0) S.1 S.2.1 dX8_bringBack_112 (by decide) ?_
      refine lv_istore_n (lv' := [(1, .int (nI 0)), (0, .ref (ad 34))]) S.1 S.2.1 dX8_bringBack_113 rfl hl (by decide) rfl (fun ls hl => ?_)
      exact loop3 6 0 (by omega) M2 _ _ ls (by rw [show 4 * n + 144 + 0 = 4 * n + 3 * i by omega]; exact wd0) hw (lv_sub hl [1, 0] rfl)
    | succ n' ih =>
      intro i hi M2 H locs ls wd0 hw hl
      refine lv_iload_n S.1 S.2.1 dX8_bringBack_70 rfl (lv_at hl 1 rfl) ?_
      refine lv_bipush (v := nI 48) S.1 S.2.1 dX8_bringBack_71 (by decide) ?_
      refine n_ge (tgt := 112) S (by omega) (by omega) dX8_bringBack_73 (by decide) (fun c21 => absurd c21 (by omega)) (fun c21 => ?_)
      refine lv_aload_n S.1 S.2.1 dX8_bringBack_76 rfl (lv_at hl 0 rfl) ?_
      refine m_getR 34 17 48 S hw (by omega) rfl rfl rfl in_X8 (by decide) wf_X8_60 dX8_bringBack_77 ?_
      refine lv_iload_n S.1 S.2.1 dX8_bringBack_80 rfl (lv_at hl 1 rfl) ?_
      refine lv_aload_n S.1 S.2.1 dX8_bringBack_81 rfl (lv_at hl 0 rfl) ?_
      refine m_VI (As := []) (rest := [.int (nI i), .ref (ad 48)]) 34 S hw (by omega) rfl rfl (c_X8_noted l G N K ad M2 h61 (900 * P + (4 * n + 3 * i + 0)) wd0.1 (by omega)) mf_X8_noted wm_X8_142 ⟨by decide, by decide⟩ ⟨Nat.le_refl _, Nat.le_refl _⟩ hl.1 rfl (Nat.le_of_ble_eq_true rfl) dX8_bringBack_82 (fun r22 M22 H locs hp22 hw => ?_)
      obtain ⟨y1_22, y2_22⟩ := hp22
      refine n_ast 48 i S hw (by omega) rfl (by decide) (by omega) rfl dX8_bringBack_85 (fun M23 H locs eM23 hw => ?_)
      have bb22 : BBi P n (4 * n + 3 * i + 0 + 1) M M23 := BBi.row (k := 48) (rr := 7) (i := i) wd0 (by omega) y2_22 y1_22 eM23 (by unfold bkRow; decide) (fun X f q => modR_48 q) (fun _ => rfl) (pg_2 (n := n) (i := i) (c := 0) (by omega) (by decide)).1 (pg_2 (n := n) (i := i) (c := 0) (by omega) (by decide)).2
      refine lv_aload_n S.1 S.2.1 dX8_bringBack_86 rfl (lv_at hl 0 rfl) ?_
      refine m_getR 34 18 49 S hw (by omega) rfl rfl rfl in_X8 (by decide) wf_X8_63 dX8_bringBack_87 ?_
      refine lv_iload_n S.1 S.2.1 dX8_bringBack_90 rfl (lv_at hl 1 rfl) ?_
      refine lv_aload_n S.1 S.2.1 dX8_bringBack_91 rfl (lv_at hl 0 rfl) ?_
      refine m_VI (As := []) (rest := [.int (nI i), .ref (ad 49)]) 34 S hw (by omega) rfl rfl (c_X8_noted l G N K ad M23 h61 (900 * P + (4 * n + 3 * i + 1)) bb22.1 (by omega)) mf_X8_noted wm_X8_142 ⟨by decide, by decide⟩ ⟨Nat.le_refl _, Nat.le_refl _⟩ hl.1 rfl (Nat.le_of_ble_eq_true rfl) dX8_bringBack_92 (fun r24 M24 H locs hp24 hw => ?_)
      obtain ⟨y1_24, y2_24⟩ := hp24
      refine n_ast 49 i S hw (by omega) rfl (by decide) (by omega) rfl dX8_bringBack_95 (fun M25 H locs eM25 hw => ?_)
      have bb24 : BBi P n (4 * n + 3 * i + 1 + 1) M M25 := BBi.row (k := 49) (rr := 8) (i := i) bb22 (by omega) y2_24 y1_24 eM25 (by unfold bkRow; decide) (fun X f q => modR_49 q) (fun _ => rfl) (pg_2 (n := n) (i := i) (c := 1) (by omega) (by decide)).1 (pg_2 (n := n) (i := i) (c := 1) (by omega) (by decide)).2
      refine lv_aload_n S.1 S.2.1 dX8_bringBack_96 rfl (lv_at hl 0 rfl) ?_
      refine m_getR 34 19 50 S hw (by omega) rfl rfl rfl in_X8 (by decide) wf_X8_66 dX8_bringBack_97 ?_
      refine lv_iload_n S.1 S.2.1 dX8_bringBack_100 rfl (lv_at hl 1 rfl) ?_
      refine lv_aload_n S.1 S.2.1 dX8_bringBack_101 rfl (lv_at hl 0 rfl) ?_
      refine m_VI (As := []) (rest := [.int (nI i), .ref (ad 50)]) 34 S hw (by omega) rfl rfl (c_X8_noted l G N K ad M25 h61 (900 * P + (4 * n + 3 * i + 2)) bb24.1 (by omega)) mf_X8_noted wm_X8_142 ⟨by decide, by decide⟩ ⟨Nat.le_refl _, Nat.le_refl _⟩ hl.1 rfl (Nat.le_of_ble_eq_true rfl) dX8_bringBack_102 (fun r26 M26 H locs hp26 hw => ?_)
      obtain ⟨y1_26, y2_26⟩ := hp26
      refine n_ast 50 i S hw (by omega) rfl (by decide) (by omega) rfl dX8_bringBack_105 (fun M27 H locs eM27 hw => ?_)
      have bb26 : BBi P n (4 * n + 3 * i + 2 + 1) M M27 := BBi.row (k := 50) (rr := 9) (i := i) bb24 (by omega) y2_26 y1_26 eM27 (by unfold bkRow; decide) (fun X f q => modR_50 q) (fun _ => rfl) (pg_2 (n := n) (i := i) (c := 2) (by omega) (by decide)).1 (pg_2 (n := n) (i := i) (c := 2) (by omega) (by decide)).2
      refine lv_iinc (v := nI (i + 1)) (lv' := [(1, .int (nI (i + 1))), (0, .ref (ad 34))]) S.1 S.2.1 dX8_bringBack_106 hl (k := 1) rfl (iinc1 _) (by decide) rfl (fun ls hl => ?_)
      refine lv_goto (tgt := 70) S.1 S.2.1 dX8_bringBack_109 (by decide) ?_
      exact ih (i + 1) (by omega) _ _ _ ls (by rw [show 4 * n + 3 * (i + 1) = 4 * n + 3 * i + 2 + 1 by omega]; exact bb26) hw (lv_sub hl [1, 0] rfl)
  have loop1 : ∀ (n' : Nat) (i : Nat), i + n' = n → ∀ (M2 : Mem) (H : Heap) (locs : List Loc) (ls : Array Slot), BBi P n (4 * i) M M2 → Wd G N K ad M2 s H locs → lv_has ls 2 [(0, .ref (ad 34)), (1, .int (nI i))] → W p l e { frames := 1, cells := 0, slots := 0, locals := 20 } s m A below meth c H locs 0 0 (QmV G N K ad (fun M1 => BBi P n (4 * n + 373) M M1) below A s) (F0 m 14 ls []) := by
    intro n'
    induction n' with
    | zero =>
      intro i hi M2 H locs ls wd0 hw hl
      have hn2 : M2 34 1 = nI n := (wd0.2.1 1 (by decide) (by decide) (by decide) (by decide)).trans hn
      refine lv_iload_n S.1 S.2.1 dX8_bringBack_14 rfl (lv_at hl 1 rfl) ?_
      refine lv_aload_n S.1 S.2.1 dX8_bringBack_15 rfl (lv_at hl 0 rfl) ?_
      refine m_getI 34 1 S hw (by omega) rfl rfl rfl in_X8 (by decide) wf_X8_13 dX8_bringBack_16 ?_
      refine m_top (show M2 34 1 = nI n from hn2) ?_
      refine n_ge (tgt := 68) S (by omega) (by omega) dX8_bringBack_19 (by decide) (fun c21 => ?_) (fun c21 => absurd c21 (by omega))
      refine lv_iconst (v := nI 0) S.1 S.2.1 dX8_bringBack_68 (by decide) ?_
      refine lv_istore_n (lv' := [(1, .int (nI 0)), (0, .ref (ad 34))]) S.1 S.2.1 dX8_bringBack_69 rfl hl (by decide) rfl (fun ls hl => ?_)
      exact loop2 48 0 (by omega) M2 _ _ ls (by rw [show 4 * n + 3 * 0 = 4 * i by omega]; exact wd0) hw (lv_sub hl [1, 0] rfl)
    | succ n' ih =>
      intro i hi M2 H locs ls wd0 hw hl
      have hn2 : M2 34 1 = nI n := (wd0.2.1 1 (by decide) (by decide) (by decide) (by decide)).trans hn
      refine lv_iload_n S.1 S.2.1 dX8_bringBack_14 rfl (lv_at hl 1 rfl) ?_
      refine lv_aload_n S.1 S.2.1 dX8_bringBack_15 rfl (lv_at hl 0 rfl) ?_
      refine m_getI 34 1 S hw (by omega) rfl rfl rfl in_X8 (by decide) wf_X8_13 dX8_bringBack_16 ?_
      refine m_top (show M2 34 1 = nI n from hn2) ?_
      refine n_ge (tgt := 68) S (by omega) (by omega) dX8_bringBack_19 (by decide) (fun c21 => absurd c21 (by omega)) (fun c21 => ?_)
      refine lv_aload_n S.1 S.2.1 dX8_bringBack_22 rfl (lv_at hl 0 rfl) ?_
      refine m_getR 34 2 35 S hw (by omega) rfl rfl rfl in_X8 (by decide) wf_X8_16 dX8_bringBack_23 ?_
      refine lv_iload_n S.1 S.2.1 dX8_bringBack_26 rfl (lv_at hl 1 rfl) ?_
      refine lv_aload_n S.1 S.2.1 dX8_bringBack_27 rfl (lv_at hl 0 rfl) ?_
      refine m_VI (As := []) (rest := [.int (nI i), .ref (ad 35)]) 34 S hw (by omega) rfl rfl (c_X8_noted l G N K ad M2 h61 (900 * P + (4 * i + 0)) wd0.1 (by omega)) mf_X8_noted wm_X8_142 ⟨by decide, by decide⟩ ⟨Nat.le_refl _, Nat.le_refl _⟩ hl.1 rfl (Nat.le_of_ble_eq_true rfl) dX8_bringBack_28 (fun r22 M22 H locs hp22 hw => ?_)
      obtain ⟨y1_22, y2_22⟩ := hp22
      refine n_ast 35 i S hw (by omega) rfl (by decide) (by omega) rfl dX8_bringBack_31 (fun M23 H locs eM23 hw => ?_)
      have bb22 : BBi P n (4 * i + 0 + 1) M M23 := BBi.row (k := 35) (rr := 2) (i := i) wd0 (by omega) y2_22 y1_22 eM23 (by unfold bkRow; decide) (fun X f q => modR_35 q) (fun _ => rfl) (pg_1 (n := n) (i := i) (c := 0) (by omega) (by decide)).1 (pg_1 (n := n) (i := i) (c := 0) (by omega) (by decide)).2
      refine lv_aload_n S.1 S.2.1 dX8_bringBack_32 rfl (lv_at hl 0 rfl) ?_
      refine m_getR 34 3 36 S hw (by omega) rfl rfl rfl in_X8 (by decide) wf_X8_20 dX8_bringBack_33 ?_
      refine lv_iload_n S.1 S.2.1 dX8_bringBack_36 rfl (lv_at hl 1 rfl) ?_
      refine lv_aload_n S.1 S.2.1 dX8_bringBack_37 rfl (lv_at hl 0 rfl) ?_
      refine m_VI (As := []) (rest := [.int (nI i), .ref (ad 36)]) 34 S hw (by omega) rfl rfl (c_X8_noted l G N K ad M23 h61 (900 * P + (4 * i + 1)) bb22.1 (by omega)) mf_X8_noted wm_X8_142 ⟨by decide, by decide⟩ ⟨Nat.le_refl _, Nat.le_refl _⟩ hl.1 rfl (Nat.le_of_ble_eq_true rfl) dX8_bringBack_38 (fun r24 M24 H locs hp24 hw => ?_)
      obtain ⟨y1_24, y2_24⟩ := hp24
      refine n_ast 36 i S hw (by omega) rfl (by decide) (by omega) rfl dX8_bringBack_41 (fun M25 H locs eM25 hw => ?_)
      have bb24 : BBi P n (4 * i + 1 + 1) M M25 := BBi.row (k := 36) (rr := 3) (i := i) bb22 (by omega) y2_24 y1_24 eM25 (by unfold bkRow; decide) (fun X f q => modR_36 q) (fun _ => rfl) (pg_1 (n := n) (i := i) (c := 1) (by omega) (by decide)).1 (pg_1 (n := n) (i := i) (c := 1) (by omega) (by decide)).2
      refine lv_aload_n S.1 S.2.1 dX8_bringBack_42 rfl (lv_at hl 0 rfl) ?_
      refine m_getR 34 4 37 S hw (by omega) rfl rfl rfl in_X8 (by decide) wf_X8_23 dX8_bringBack_43 ?_
      refine lv_iload_n S.1 S.2.1 dX8_bringBack_46 rfl (lv_at hl 1 rfl) ?_
      refine lv_aload_n S.1 S.2.1 dX8_bringBack_47 rfl (lv_at hl 0 rfl) ?_
      refine m_VI (As := []) (rest := [.int (nI i), .ref (ad 37)]) 34 S hw (by omega) rfl rfl (c_X8_noted l G N K ad M25 h61 (900 * P + (4 * i + 2)) bb24.1 (by omega)) mf_X8_noted wm_X8_142 ⟨by decide, by decide⟩ ⟨Nat.le_refl _, Nat.le_refl _⟩ hl.1 rfl (Nat.le_of_ble_eq_true rfl) dX8_bringBack_48 (fun r26 M26 H locs hp26 hw => ?_)
      obtain ⟨y1_26, y2_26⟩ := hp26
      refine n_ast 37 i S hw (by omega) rfl (by decide) (by omega) rfl dX8_bringBack_51 (fun M27 H locs eM27 hw => ?_)
      have bb26 : BBi P n (4 * i + 2 + 1) M M27 := BBi.row (k := 37) (rr := 4) (i := i) bb24 (by omega) y2_26 y1_26 eM27 (by unfold bkRow; decide) (fun X f q => modR_37 q) (fun _ => rfl) (pg_1 (n := n) (i := i) (c := 2) (by omega) (by decide)).1 (pg_1 (n := n) (i := i) (c := 2) (by omega) (by decide)).2
      refine lv_aload_n S.1 S.2.1 dX8_bringBack_52 rfl (lv_at hl 0 rfl) ?_
      refine m_getR 34 5 38 S hw (by omega) rfl rfl rfl in_X8 (by decide) wf_X8_26 dX8_bringBack_53 ?_
      refine lv_iload_n S.1 S.2.1 dX8_bringBack_56 rfl (lv_at hl 1 rfl) ?_
      refine lv_aload_n S.1 S.2.1 dX8_bringBack_57 rfl (lv_at hl 0 rfl) ?_
      refine m_VI (As := []) (rest := [.int (nI i), .ref (ad 38)]) 34 S hw (by omega) rfl rfl (c_X8_noted l G N K ad M27 h61 (900 * P + (4 * i + 3)) bb26.1 (by omega)) mf_X8_noted wm_X8_142 ⟨by decide, by decide⟩ ⟨Nat.le_refl _, Nat.le_refl _⟩ hl.1 rfl (Nat.le_of_ble_eq_true rfl) dX8_bringBack_58 (fun r28 M28 H locs hp28 hw => ?_)
      obtain ⟨y1_28, y2_28⟩ := hp28
      refine n_ast 38 i S hw (by omega) rfl (by decide) (by omega) rfl dX8_bringBack_61 (fun M29 H locs eM29 hw => ?_)
      have bb28 : BBi P n (4 * i + 3 + 1) M M29 := BBi.row (k := 38) (rr := 5) (i := i) bb26 (by omega) y2_28 y1_28 eM29 (by unfold bkRow; decide) (fun X f q => modR_38 q) (fun _ => rfl) (pg_1 (n := n) (i := i) (c := 3) (by omega) (by decide)).1 (pg_1 (n := n) (i := i) (c := 3) (by omega) (by decide)).2
      refine lv_iinc (v := nI (i + 1)) (lv' := [(1, .int (nI (i + 1))), (0, .ref (ad 34))]) S.1 S.2.1 dX8_bringBack_62 hl (k := 1) rfl (iinc1 _) (by decide) rfl (fun ls hl => ?_)
      refine lv_goto (tgt := 14) S.1 S.2.1 dX8_bringBack_65 (by decide) ?_
      exact ih (i + 1) (by omega) _ _ _ ls (by rw [show 4 * (i + 1) = 4 * i + 3 + 1 by omega]; exact bb28) hw (lv_sub hl [1, 0] rfl)
  refine lv_aload_n S.1 S.2.1 dX8_bringBack_0 rfl (lv_at hl 0 rfl) ?_
  refine lv_sipush (v := nI 900) S.1 S.2.1 dX8_bringBack_1 (by decide) ?_
  refine lv_aload_n S.1 S.2.1 dX8_bringBack_4 rfl (lv_at hl 0 rfl) ?_
  refine m_getI 34 33 S hw (by omega) rfl rfl rfl in_X8 (by decide) wf_X8_120 dX8_bringBack_5 ?_
  refine m_top (show M 34 33 = nI P from hP) ?_
  refine lv_imul S.1 S.2.1 dX8_bringBack_8 ?_
  refine m_top (show (nI 900) * (nI P) = nI (900 * P) from pk_mul _ _) ?_
  refine n_putI 34 34 S hw (by omega) rfl rfl rfl in_X8 tyX8_ok nmX8 (by decide) rfl rfl wf_X8_135 dX8_bringBack_9 (fun M1 H locs eM1 hw => ?_)
  refine lv_iconst (v := nI 0) S.1 S.2.1 dX8_bringBack_12 (by decide) ?_
  refine lv_istore_n (lv' := [(1, .int (nI 0)), (0, .ref (ad 34))]) S.1 S.2.1 dX8_bringBack_13 rfl hl (by decide) rfl (fun ls hl => ?_)
  have hq2 : M1 34 = upd (M 34) 34 (nI (900 * P)) := by rw [eM1, va_up_self]
  have e34 : M1 34 = upd (M 34) 34 (nI (900 * P)) := hq2
  exact loop1 n 0 (by omega) M1 _ _ ls ⟨by rw [e34, pk_us]; rfl, fun j hj _ _ _ => by rw [e34, pk_un hj], fun q hq => absurd hq (by omega), fun k hk => by rw [eM1]; exact va_up_ne _ _ hk.1⟩ hw (lv_sub hl [1, 0] rfl)
