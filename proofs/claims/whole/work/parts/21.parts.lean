set_option maxHeartbeats 4000000 in
set_option maxRecDepth 100000 in
/-- Arrays.fill -/
theorem c_J7_fill_53178 (l : Launch) (G : GT) (N K : Nat) (ad : Nat → Nat) (M : Mem) (q n : Nat) (hq : q < N) (hs : shp q = (0, n, [])) (hn : n < 2147483648) (v : Int32) : CmV l G N K ad yJ7_fill_53178 cJ7_fill_53178 4 0 0 [.ref (ad q), .int v] M (fun M1 => M1 q = (fun j => if j < n then v else M q j) ∧ Fr q (q + 1) M M1) := by
  refine cm_startV (by decide +kernel) (Nat.le_of_ble_eq_true rfl) ?_
  intro p e s m below meth c ls S hr hlocks hw hl
  have hl : lv_has ls 4 [(0, .ref (ad q)), (1, .int v)] := hl
  generalize hAv : List.toArray ([.ref (ad q), .int v] : List Value) = A at S ⊢
  have loop : ∀ (n' : Nat) (i : Nat), i + n' = n → ∀ (M2 : Mem) (H : Heap) (locs : List Loc) (ls : Array Slot), (M2 q = (fun j => if j < i then v else M q j) ∧ Fr q (q + 1) M M2) → Wd G N K ad M2 s H locs → lv_has ls 4 [(0, .ref (ad q)), (1, .int v), (2, .int (nI i)), (3, .int (nI n))] → W p l e { frames := 0, cells := 0, slots := 0, locals := 0 } s m A below meth c H locs 0 0 (QmV G N K ad (fun M1 => M1 q = (fun j => if j < n then v else M q j) ∧ Fr q (q + 1) M M1) below A s) (F0 m 5 ls []) := by
    intro n'
    induction n' with
    | zero =>
      intro i hi M2 H locs ls hv hw hl
      refine lv_iload_n S.1 S.2.1 dJ7_fill_53178_5 rfl (lv_at hl 2 rfl) ?_
      refine lv_iload_n S.1 S.2.1 dJ7_fill_53178_6 rfl (lv_at hl 3 rfl) ?_
      refine n_ge (tgt := 20) S (by omega) (by omega) dJ7_fill_53178_7 (by decide) (fun c1 => ?_) (fun c1 => absurd c1 (by omega))
      exact m_retv S hr hlocks hw dJ7_fill_53178_20 ⟨by rw [hv.1, show i = n by omega], hv.2⟩
    | succ n' ih =>
      intro i hi M2 H locs ls hv hw hl
      refine lv_iload_n S.1 S.2.1 dJ7_fill_53178_5 rfl (lv_at hl 2 rfl) ?_
      refine lv_iload_n S.1 S.2.1 dJ7_fill_53178_6 rfl (lv_at hl 3 rfl) ?_
      refine n_ge (tgt := 20) S (by omega) (by omega) dJ7_fill_53178_7 (by decide) (fun c11 => absurd c11 (by omega)) (fun c11 => ?_)
      refine lv_aload_n S.1 S.2.1 dJ7_fill_53178_10 rfl (lv_at hl 0 rfl) ?_
      refine lv_iload_n S.1 S.2.1 dJ7_fill_53178_11 rfl (lv_at hl 2 rfl) ?_
      refine lv_iload_n S.1 S.2.1 dJ7_fill_53178_12 rfl (lv_at hl 1 rfl) ?_
      refine n_ast q i S hw (by omega) hs hn (by omega) rfl dJ7_fill_53178_13 (fun M12 H locs eM12 hw => ?_)
      refine lv_iinc (v := nI (i + 1)) (lv' := [(2, .int (nI (i + 1))), (0, .ref (ad q)), (1, .int v), (3, .int (nI n))]) S.1 S.2.1 dJ7_fill_53178_14 hl (k := 2) rfl (iinc1 _) (by decide) rfl (fun ls hl => ?_)
      refine lv_goto (tgt := 5) S.1 S.2.1 dJ7_fill_53178_17 (by decide) ?_
      refine ih (i + 1) (by omega) _ _ _ ls ⟨?_, by rw [eM12]; exact Fr.up hv.2 (by omega) (by omega)⟩ hw (lv_sub hl [1, 2, 0, 3] rfl)
      rw [eM12, va_up_self, hv.1]
      funext j
      by_cases hj : j = i
      · subst hj; simp [upd]
      · simp only [upd, if_neg hj, show (j < i + 1) = (j < i) by simp; omega]
  refine lv_iconst (v := nI 0) S.1 S.2.1 dJ7_fill_53178_0 (by decide) ?_
  refine lv_istore_n (lv' := [(2, .int (nI 0)), (0, .ref (ad q)), (1, .int v)]) S.1 S.2.1 dJ7_fill_53178_1 rfl hl (by decide) rfl (fun ls hl => ?_)
  refine lv_aload_n S.1 S.2.1 dJ7_fill_53178_2 rfl (lv_at hl 1 rfl) ?_
  refine m_len q S hw (by omega) hs dJ7_fill_53178_3 ?_
  refine lv_istore_n (lv' := [(3, .int (nI n)), (2, .int (nI 0)), (0, .ref (ad q)), (1, .int v)]) S.1 S.2.1 dJ7_fill_53178_4 rfl hl (by decide) rfl (fun ls hl => ?_)
  exact loop n 0 (by omega) _ _ _ ls ⟨by simp, Fr.rf⟩ hw (lv_sub hl [2, 3, 1, 0] rfl)

theorem xor_pos {a : Nat} (h : a < 2 ^ 31) : 0 ≤ nI a ^^^ nI 24 := by
  have e : nI a ^^^ nI 24 = nI (a ^^^ 24) := by
    apply Int32.toBitVec_inj.mp
    simp only [nI, Int32.toBitVec_xor]
    show BitVec.ofNat 32 a ^^^ BitVec.ofNat 32 24 = BitVec.ofNat 32 (a ^^^ 24)
    rw [BitVec.ofNat_xor]
  rw [e]
  exact nI_pos' (Nat.xor_lt_two_pow h (by decide))

set_option maxHeartbeats 4000000 in
set_option maxRecDepth 100000 in
/-- Math.floorMod -/
theorem c_J9_floorMod_7cf53 (l : Launch) (G : GT) (N K : Nat) (ad : Nat → Nat) (M : Mem) (a : Nat) (ha : a < 2 ^ 31) : CrI l G N K ad yJ9_floorMod_7cf53 cJ9_floorMod_7cf53 3 .int 0 0 [.int (nI a), .int (nI 24)] M (nI (a % 24)) := by
  refine cm_startF (by decide +kernel) (Nat.le_of_ble_eq_true rfl) ?_
  intro p e s m below meth c ls S hr hlocks hw hl
  have hl : lv_has ls 3 [(0, .int (nI a)), (1, .int (nI 24))] := hl
  refine lv_iload_n S.1 S.2.1 dJ9_floorMod_7cf53_0 rfl (lv_at hl 0 rfl) ?_
  refine lv_iload_n S.1 S.2.1 dJ9_floorMod_7cf53_1 rfl (lv_at hl 1 rfl) ?_
  refine lv_irem S.1 S.2.1 dJ9_floorMod_7cf53_2 (by decide) ?_
  refine m_top (show (nI a) - (nI a) / (nI 24) * (nI 24) = nI (a % 24) from pk_rem ha (by decide) (by decide)) ?_
  refine lv_istore_n (lv' := [(2, .int (nI (a % 24))), (0, .int (nI a)), (1, .int (nI 24))]) S.1 S.2.1 dJ9_floorMod_7cf53_3 rfl hl (by decide) rfl (fun ls hl => ?_)
  refine lv_iload_n S.1 S.2.1 dJ9_floorMod_7cf53_4 rfl (lv_at hl 1 rfl) ?_
  refine lv_iload_n S.1 S.2.1 dJ9_floorMod_7cf53_5 rfl (lv_at hl 2 rfl) ?_
  refine lv_ixor S.1 S.2.1 dJ9_floorMod_7cf53_6 ?_
  refine lv_if_ge (tgt := 18) S.1 S.2.1 dJ9_floorMod_7cf53_7 (by decide) (fun c1 => ?_) (fun c1 => absurd c1 (fun z => z (xor_pos ha)))
  refine lv_iload_n S.1 S.2.1 dJ9_floorMod_7cf53_18 rfl (lv_at hl 0 rfl) ?_
  exact m_reti S hr hlocks hw dJ9_floorMod_7cf53_19 ⟨rfl, rfl⟩

set_option maxHeartbeats 4000000 in
set_option maxRecDepth 100000 in
/-- Tables.tellPair -/
theorem c_X5_tellPair (l : Launch) (G : GT) (N K : Nat) (ad : Nat → Nat) (M : Mem) (h34 : 34 ≤ N) (h f : Nat) (hh : h < 8) (hf : f < 8) (b : Bool) (x : Int32) : CmV l G N K ad yX5_tellPair cX5_tellPair 5 0 0 [.ref (ad 1), .int (nI h), .int (nI f), .int (b01 b), .int x] M (fun M1 => M1 2 = upd (M 2) (h * 8 + f) (b01 b) ∧ M1 3 = upd (M 3) (h * 8 + f) x ∧ M1 4 = M 4 ∧ M1 5 = M 5 ∧ Fr 1 6 M M1) := by
  refine cm_startV (by decide +kernel) (Nat.le_of_ble_eq_true rfl) ?_
  intro p e s m below meth c ls S hr hlocks hw hl
  have hl : lv_has ls 5 [(0, .ref (ad 1)), (1, .int (nI h)), (2, .int (nI f)), (3, .int (b01 b)), (4, .int x)] := hl
  refine lv_aload_n S.1 S.2.1 dX5_tellPair_0 rfl (lv_at hl 0 rfl) ?_
  refine m_getR 1 0 2 S hw (by omega) rfl rfl rfl in_X5 (by decide) wf_X5_9 dX5_tellPair_1 ?_
  refine lv_iload_n S.1 S.2.1 dX5_tellPair_4 rfl (lv_at hl 1 rfl) ?_
  refine lv_bipush (v := nI 8) S.1 S.2.1 dX5_tellPair_5 (by decide) ?_
  refine lv_imul S.1 S.2.1 dX5_tellPair_7 ?_
  refine m_top (show (nI h) * (nI 8) = nI (h * 8) from pk_mul _ _) ?_
  refine lv_iload_n S.1 S.2.1 dX5_tellPair_8 rfl (lv_at hl 2 rfl) ?_
  refine lv_iadd S.1 S.2.1 dX5_tellPair_9 ?_
  refine m_top (show (nI (h * 8)) + (nI f) = nI ((h * 8) + f) from nI_add _ _) ?_
  refine lv_iload_n S.1 S.2.1 dX5_tellPair_10 rfl (lv_at hl 3 rfl) ?_
  refine n_zst 2 ((h * 8) + f) S hw (by omega) rfl (by decide) (by omega) rfl (b01_v _) dX5_tellPair_11 (fun M1 H locs eM1 hw => ?_)
  refine lv_aload_n S.1 S.2.1 dX5_tellPair_12 rfl (lv_at hl 0 rfl) ?_
  refine m_getR 1 1 3 S hw (by omega) rfl rfl rfl in_X5 (by decide) wf_X5_15 dX5_tellPair_13 ?_
  refine lv_iload_n S.1 S.2.1 dX5_tellPair_16 rfl (lv_at hl 1 rfl) ?_
  refine lv_bipush (v := nI 8) S.1 S.2.1 dX5_tellPair_17 (by decide) ?_
  refine lv_imul S.1 S.2.1 dX5_tellPair_19 ?_
  refine m_top (show (nI h) * (nI 8) = nI (h * 8) from pk_mul _ _) ?_
  refine lv_iload_n S.1 S.2.1 dX5_tellPair_20 rfl (lv_at hl 2 rfl) ?_
  refine lv_iadd S.1 S.2.1 dX5_tellPair_21 ?_
  refine m_top (show (nI (h * 8)) + (nI f) = nI ((h * 8) + f) from nI_add _ _) ?_
  refine lv_iload S.1 S.2.1 dX5_tellPair_22 (lv_at hl 4 rfl) ?_
  refine n_ast 3 ((h * 8) + f) S hw (by omega) rfl (by decide) (by omega) rfl dX5_tellPair_24 (fun M2 H locs eM2 hw => ?_)
  have hq3 : M1 2 = upd (M 2) ((h * 8) + f) (b01 b) := by rw [eM1, va_up_self]
  have hq4 : M2 2 = upd (M 2) ((h * 8) + f) (b01 b) := by rw [eM2, va_up_ne _ _ (by omega), hq3]
  have hq5 : M1 3 = M 3 := by rw [eM1, va_up_ne _ _ (by omega)]
  have hq6 : M2 3 = upd (M 3) ((h * 8) + f) x := by rw [eM2, va_up_self, hq5]
  have hq7 : M1 4 = M 4 := by rw [eM1, va_up_ne _ _ (by omega)]
  have hq8 : M2 4 = M 4 := by rw [eM2, va_up_ne _ _ (by omega), hq7]
  have hq9 : M1 5 = M 5 := by rw [eM1, va_up_ne _ _ (by omega)]
  have hq10 : M2 5 = M 5 := by rw [eM2, va_up_ne _ _ (by omega), hq9]
  exact m_retv S hr hlocks hw dX5_tellPair_25 ⟨hq4, hq6, hq8, hq10, (by rw [eM2]; exact Fr.up (by rw [eM1]; exact Fr.up Fr.rf (by omega) (by omega)) (by omega) (by omega))⟩

set_option maxHeartbeats 4000000 in
set_option maxRecDepth 100000 in
/-- Tables.mayFollow -/
theorem c_X5_mayFollow (l : Launch) (G : GT) (N K : Nat) (ad : Nat → Nat) (M : Mem) (h34 : 34 ≤ N) (h f : Nat) (hh : h < 8) (hf : f < 8) (b : Bool) (hb : M 2 (h * 8 + f) = b01 b) : CrI l G N K ad yX5_mayFollow cX5_mayFollow 3 .boolean 0 0 [.ref (ad 1), .int (nI h), .int (nI f)] M (b01 b) := by
  refine cm_startI (by decide +kernel) (Nat.le_of_ble_eq_true rfl) ?_
  intro p e s m below meth c ls S hr hlocks hw hl
  have hl : lv_has ls 3 [(0, .ref (ad 1)), (1, .int (nI h)), (2, .int (nI f))] := hl
  refine lv_aload_n S.1 S.2.1 dX5_mayFollow_0 rfl (lv_at hl 0 rfl) ?_
  refine m_getR 1 0 2 S hw (by omega) rfl rfl rfl in_X5 (by decide) wf_X5_9 dX5_mayFollow_1 ?_
  refine lv_iload_n S.1 S.2.1 dX5_mayFollow_4 rfl (lv_at hl 1 rfl) ?_
  refine lv_bipush (v := nI 8) S.1 S.2.1 dX5_mayFollow_5 (by decide) ?_
  refine lv_imul S.1 S.2.1 dX5_mayFollow_7 ?_
  refine m_top (show (nI h) * (nI 8) = nI (h * 8) from pk_mul _ _) ?_
  refine lv_iload_n S.1 S.2.1 dX5_mayFollow_8 rfl (lv_at hl 2 rfl) ?_
  refine lv_iadd S.1 S.2.1 dX5_mayFollow_9 ?_
  refine m_top (show (nI (h * 8)) + (nI f) = nI ((h * 8) + f) from nI_add _ _) ?_
  refine m_zld 2 ((h * 8) + f) S hw (by omega) rfl (by decide) (by omega) rfl dX5_mayFollow_10 ?_
  refine m_top (show M 2 ((h * 8) + f) = b01 b from hb) ?_
  exact m_retz S hr hlocks hw dX5_mayFollow_11 (b01_n _) ⟨rfl, rfl⟩

set_option maxHeartbeats 4000000 in
set_option maxRecDepth 100000 in
/-- Tables.mixOf -/
theorem c_X5_mixOf (l : Launch) (G : GT) (N K : Nat) (ad : Nat → Nat) (M : Mem) (h34 : 34 ≤ N) (h f : Nat) (hh : h < 8) (hf : f < 8) : CrI l G N K ad yX5_mixOf cX5_mixOf 3 .int 0 0 [.ref (ad 1), .int (nI h), .int (nI f)] M (M 3 (h * 8 + f)) := by
  refine cm_startI (by decide +kernel) (Nat.le_of_ble_eq_true rfl) ?_
  intro p e s m below meth c ls S hr hlocks hw hl
  have hl : lv_has ls 3 [(0, .ref (ad 1)), (1, .int (nI h)), (2, .int (nI f))] := hl
  refine lv_aload_n S.1 S.2.1 dX5_mixOf_0 rfl (lv_at hl 0 rfl) ?_
  refine m_getR 1 1 3 S hw (by omega) rfl rfl rfl in_X5 (by decide) wf_X5_15 dX5_mixOf_1 ?_
  refine lv_iload_n S.1 S.2.1 dX5_mixOf_4 rfl (lv_at hl 1 rfl) ?_
  refine lv_bipush (v := nI 8) S.1 S.2.1 dX5_mixOf_5 (by decide) ?_
  refine lv_imul S.1 S.2.1 dX5_mixOf_7 ?_
  refine m_top (show (nI h) * (nI 8) = nI (h * 8) from pk_mul _ _) ?_
  refine lv_iload_n S.1 S.2.1 dX5_mixOf_8 rfl (lv_at hl 2 rfl) ?_
  refine lv_iadd S.1 S.2.1 dX5_mixOf_9 ?_
  refine m_top (show (nI (h * 8)) + (nI f) = nI ((h * 8) + f) from nI_add _ _) ?_
  refine m_ald 3 ((h * 8) + f) S hw (by omega) rfl (by decide) (by omega) rfl dX5_mixOf_10 ?_
  exact m_reti S hr hlocks hw dX5_mixOf_11 ⟨rfl, rfl⟩

set_option maxHeartbeats 4000000 in
set_option maxRecDepth 100000 in
/-- Tables.priceAt -/
theorem c_X5_priceAt (l : Launch) (G : GT) (N K : Nat) (ad : Nat → Nat) (M : Mem) (h34 : 34 ≤ N) (t : Nat) (ht : t < 2 ^ 31) : CrI l G N K ad yX5_priceAt cX5_priceAt 2 .int 1 22 [.ref (ad 1), .int (nI t)] M (M 5 (t % 24)) := by
  refine cm_startI (by decide +kernel) (Nat.le_of_ble_eq_true rfl) ?_
  intro p e s m below meth c ls S hr hlocks hw hl
  have hl : lv_has ls 2 [(0, .ref (ad 1)), (1, .int (nI t))] := hl
  refine lv_aload_n S.1 S.2.1 dX5_priceAt_0 rfl (lv_at hl 0 rfl) ?_
  refine m_getR 1 3 5 S hw (by omega) rfl rfl rfl in_X5 (by decide) wf_X5_22 dX5_priceAt_1 ?_
  refine lv_iload_n S.1 S.2.1 dX5_priceAt_4 rfl (lv_at hl 1 rfl) ?_
  refine lv_bipush (v := nI 24) S.1 S.2.1 dX5_priceAt_5 (by decide) ?_
  refine r_SI (As := [.int (nI t), .int (nI 24)]) (rest := [.ref (ad 5)]) S hw (c_J9_floorMod_7cf53 l G N K ad M t (by omega)) mf_J9_floorMod_7cf53 wm_X5_31 ⟨by decide, by decide⟩ ⟨Nat.le_refl _, Nat.le_refl _⟩ hl.1 rfl (Nat.le_of_ble_eq_true rfl) dX5_priceAt_7 (fun H locs hw => ?_)
  refine m_ald 5 (t % 24) S hw (by omega) rfl (by decide) (Nat.mod_lt _ (by decide)) rfl dX5_priceAt_10 ?_
  exact m_reti S hr hlocks hw dX5_priceAt_11 ⟨rfl, rfl⟩

set_option maxHeartbeats 4000000 in
set_option maxRecDepth 100000 in
/-- Stock.clear -/
theorem c_X4_clear (l : Launch) (G : GT) (N K : Nat) (ad : Nat → Nat) (M : Mem) (mb : Nat) (hm : IsM N K mb) : CmV l G N K ad yX4_clear cX4_clear 1 1 23 [.ref (ad (mb + 6))] M (fun M1 => M1 (mb + 7) = (M (mb + 7)) ∧ M1 (mb + 8) = (M (mb + 8)) ∧ M1 (mb + 9) = (M (mb + 9)) ∧ M1 (mb + 10) = (fun j => if j < 6 then nI 0 else M (mb + 10) j) ∧ Fr (mb + 6) (mb + 11) M M1) := by
  refine cm_startV (by decide +kernel) (Nat.le_of_ble_eq_true rfl) ?_
  intro p e s m below meth c ls S hr hlocks hw hl
  have hl : lv_has ls 1 [(0, .ref (ad (mb + 6)))] := hl
  have hlt_mb := hm.lt
  refine lv_aload_n S.1 S.2.1 dX4_clear_0 rfl (lv_at hl 0 rfl) ?_
  refine m_getR (mb + 6) 3 (mb + 10) S hw (by omega) hm.s6 rfl rfl in_X4 (by decide) wf_X4_21 dX4_clear_1 ?_
  refine lv_iconst (v := nI 0) S.1 S.2.1 dX4_clear_4 (by decide) ?_
  refine m_SV (As := [.ref (ad (mb + 10)), .int (nI 0)]) (rest := []) S hw (c_J7_fill_53178 l G N K ad M (mb + 10) 6 (by omega) hm.s10 (by decide) (nI 0)) mf_J7_fill_53178 wm_X4_24 ⟨by decide, by decide⟩ ⟨Nat.le_refl _, Nat.le_refl _⟩ hl.1 rfl (Nat.le_of_ble_eq_true rfl) dX4_clear_5 (fun M1 H locs hp1 hw => ?_)
  have emb_10_1 : M1 (mb + 10) = (fun j => if j < 6 then (nI 0) else M (mb + 10) j) := hp1.1
  have fr1 : Fr (mb + 10) (mb + 11) M M1 := hp1.2
  have hq2 : M1 (mb + 7) = M (mb + 7) := fr1 (mb + 7) (by omega)
  have hq3 : M1 (mb + 8) = M (mb + 8) := fr1 (mb + 8) (by omega)
  have hq4 : M1 (mb + 9) = M (mb + 9) := fr1 (mb + 9) (by omega)
  exact m_retv S hr hlocks hw dX4_clear_8 ⟨hq2, hq3, hq4, emb_10_1, (Fr.tr Fr.rf fr1 (by omega) (by omega))⟩

set_option maxHeartbeats 4000000 in
set_option maxRecDepth 100000 in
/-- Stock.copyFrom -/
theorem c_X4_copyFrom (l : Launch) (G : GT) (N K : Nat) (ad : Nat → Nat) (M : Mem) (mb : Nat) (hm : IsM N K mb) (mo : Nat) (ho : IsM N K mo) (hne : mo + 12 < mb ∨ mb + 12 < mo) : CmV l G N K ad yX4_copyFrom cX4_copyFrom 2 1 26 [.ref (ad (mb + 6)), .ref (ad (mo + 6))] M (fun M1 => M1 (mb + 7) = (va_cpy (M (mo + 7)) (M (mb + 7)) 0 0 48) ∧ M1 (mb + 8) = (va_cpy (M (mo + 8)) (M (mb + 8)) 0 0 48) ∧ M1 (mb + 9) = (va_cpy (M (mo + 9)) (M (mb + 9)) 0 0 48) ∧ M1 (mb + 10) = (va_cpy (M (mo + 10)) (M (mb + 10)) 0 0 6) ∧ Fr (mb + 6) (mb + 11) M M1) := by
  refine cm_startV (by decide +kernel) (Nat.le_of_ble_eq_true rfl) ?_
  intro p e s m below meth c ls S hr hlocks hw hl
  have hl : lv_has ls 2 [(0, .ref (ad (mb + 6))), (1, .ref (ad (mo + 6)))] := hl
  have hlt_mb := hm.lt
  have hlt_mo := ho.lt
  refine lv_aload_n S.1 S.2.1 dX4_copyFrom_0 rfl (lv_at hl 1 rfl) ?_
  refine m_getR (mo + 6) 0 (mo + 7) S hw (by omega) ho.s6 rfl rfl in_X4 (by decide) wf_X4_9 dX4_copyFrom_1 ?_
  refine lv_iconst (v := nI 0) S.1 S.2.1 dX4_copyFrom_4 (by decide) ?_
  refine lv_aload_n S.1 S.2.1 dX4_copyFrom_5 rfl (lv_at hl 0 rfl) ?_
  refine m_getR (mb + 6) 0 (mb + 7) S hw (by omega) hm.s6 rfl rfl in_X4 (by decide) wf_X4_9 dX4_copyFrom_6 ?_
  refine lv_iconst (v := nI 0) S.1 S.2.1 dX4_copyFrom_9 (by decide) ?_
  refine lv_bipush (v := nI 48) S.1 S.2.1 dX4_copyFrom_10 (by decide) ?_
  refine n_cpy (mo + 7) (mb + 7) 0 0 48 S hl.1 wm_X4_30 hw (by omega) (by omega) ho.s7 hm.s7 (by decide) (by decide) rfl rfl rfl (by omega) (by omega) (Nat.le_of_ble_eq_true rfl) (Nat.le_of_ble_eq_true rfl) dX4_copyFrom_12 (fun M1 H locs eM1 hw => ?_)
  refine lv_aload_n S.1 S.2.1 dX4_copyFrom_15 rfl (lv_at hl 1 rfl) ?_
  refine m_getR (mo + 6) 1 (mo + 8) S hw (by omega) ho.s6 rfl rfl in_X4 (by decide) wf_X4_15 dX4_copyFrom_16 ?_
  refine lv_iconst (v := nI 0) S.1 S.2.1 dX4_copyFrom_19 (by decide) ?_
  refine lv_aload_n S.1 S.2.1 dX4_copyFrom_20 rfl (lv_at hl 0 rfl) ?_
  refine m_getR (mb + 6) 1 (mb + 8) S hw (by omega) hm.s6 rfl rfl in_X4 (by decide) wf_X4_15 dX4_copyFrom_21 ?_
  refine lv_iconst (v := nI 0) S.1 S.2.1 dX4_copyFrom_24 (by decide) ?_
  refine lv_bipush (v := nI 48) S.1 S.2.1 dX4_copyFrom_25 (by decide) ?_
  refine n_cpy (mo + 8) (mb + 8) 0 0 48 S hl.1 wm_X4_30 hw (by omega) (by omega) ho.s8 hm.s8 (by decide) (by decide) rfl rfl rfl (by omega) (by omega) (Nat.le_of_ble_eq_true rfl) (Nat.le_of_ble_eq_true rfl) dX4_copyFrom_27 (fun M2 H locs eM2 hw => ?_)
  refine lv_aload_n S.1 S.2.1 dX4_copyFrom_30 rfl (lv_at hl 1 rfl) ?_
  refine m_getR (mo + 6) 2 (mo + 9) S hw (by omega) ho.s6 rfl rfl in_X4 (by decide) wf_X4_18 dX4_copyFrom_31 ?_
  refine lv_iconst (v := nI 0) S.1 S.2.1 dX4_copyFrom_34 (by decide) ?_
  refine lv_aload_n S.1 S.2.1 dX4_copyFrom_35 rfl (lv_at hl 0 rfl) ?_
  refine m_getR (mb + 6) 2 (mb + 9) S hw (by omega) hm.s6 rfl rfl in_X4 (by decide) wf_X4_18 dX4_copyFrom_36 ?_
  refine lv_iconst (v := nI 0) S.1 S.2.1 dX4_copyFrom_39 (by decide) ?_
  refine lv_bipush (v := nI 48) S.1 S.2.1 dX4_copyFrom_40 (by decide) ?_
  refine n_cpy (mo + 9) (mb + 9) 0 0 48 S hl.1 wm_X4_30 hw (by omega) (by omega) ho.s9 hm.s9 (by decide) (by decide) rfl rfl rfl (by omega) (by omega) (Nat.le_of_ble_eq_true rfl) (Nat.le_of_ble_eq_true rfl) dX4_copyFrom_42 (fun M3 H locs eM3 hw => ?_)
  refine lv_aload_n S.1 S.2.1 dX4_copyFrom_45 rfl (lv_at hl 1 rfl) ?_
  refine m_getR (mo + 6) 3 (mo + 10) S hw (by omega) ho.s6 rfl rfl in_X4 (by decide) wf_X4_21 dX4_copyFrom_46 ?_
  refine lv_iconst (v := nI 0) S.1 S.2.1 dX4_copyFrom_49 (by decide) ?_
  refine lv_aload_n S.1 S.2.1 dX4_copyFrom_50 rfl (lv_at hl 0 rfl) ?_
  refine m_getR (mb + 6) 3 (mb + 10) S hw (by omega) hm.s6 rfl rfl in_X4 (by decide) wf_X4_21 dX4_copyFrom_51 ?_
  refine lv_iconst (v := nI 0) S.1 S.2.1 dX4_copyFrom_54 (by decide) ?_
  refine lv_bipush (v := nI 6) S.1 S.2.1 dX4_copyFrom_55 (by decide) ?_
  refine n_cpy (mo + 10) (mb + 10) 0 0 6 S hl.1 wm_X4_30 hw (by omega) (by omega) ho.s10 hm.s10 (by decide) (by decide) rfl rfl rfl (by omega) (by omega) (Nat.le_of_ble_eq_true rfl) (Nat.le_of_ble_eq_true rfl) dX4_copyFrom_57 (fun M4 H locs eM4 hw => ?_)
  have hq5 : M1 (mb + 7) = va_cpy (M (mo + 7)) (M (mb + 7)) 0 0 48 := by rw [eM1, va_up_self]
  have hq6 : M2 (mb + 7) = va_cpy (M (mo + 7)) (M (mb + 7)) 0 0 48 := by rw [eM2, va_up_ne _ _ (by omega), hq5]
  have hq7 : M3 (mb + 7) = va_cpy (M (mo + 7)) (M (mb + 7)) 0 0 48 := by rw [eM3, va_up_ne _ _ (by omega), hq6]
  have hq8 : M4 (mb + 7) = va_cpy (M (mo + 7)) (M (mb + 7)) 0 0 48 := by rw [eM4, va_up_ne _ _ (by omega), hq7]
  have hq9 : M1 (mb + 8) = M (mb + 8) := by rw [eM1, va_up_ne _ _ (by omega)]
  have hq10 : M1 (mo + 8) = M (mo + 8) := by rw [eM1, va_up_ne _ _ (by omega)]
  have hq11 : M2 (mb + 8) = va_cpy (M (mo + 8)) (M (mb + 8)) 0 0 48 := by rw [eM2, va_up_self, hq10, hq9]
  have hq12 : M3 (mb + 8) = va_cpy (M (mo + 8)) (M (mb + 8)) 0 0 48 := by rw [eM3, va_up_ne _ _ (by omega), hq11]
  have hq13 : M4 (mb + 8) = va_cpy (M (mo + 8)) (M (mb + 8)) 0 0 48 := by rw [eM4, va_up_ne _ _ (by omega), hq12]
  have hq14 : M1 (mb + 9) = M (mb + 9) := by rw [eM1, va_up_ne _ _ (by omega)]
  have hq15 : M2 (mb + 9) = M (mb + 9) := by rw [eM2, va_up_ne _ _ (by omega), hq14]
  have hq16 : M1 (mo + 9) = M (mo + 9) := by rw [eM1, va_up_ne _ _ (by omega)]
  have hq17 : M2 (mo + 9) = M (mo + 9) := by rw [eM2, va_up_ne _ _ (by omega), hq16]
  have hq18 : M3 (mb + 9) = va_cpy (M (mo + 9)) (M (mb + 9)) 0 0 48 := by rw [eM3, va_up_self, hq17, hq15]
  have hq19 : M4 (mb + 9) = va_cpy (M (mo + 9)) (M (mb + 9)) 0 0 48 := by rw [eM4, va_up_ne _ _ (by omega), hq18]
  have hq20 : M1 (mb + 10) = M (mb + 10) := by rw [eM1, va_up_ne _ _ (by omega)]
  have hq21 : M2 (mb + 10) = M (mb + 10) := by rw [eM2, va_up_ne _ _ (by omega), hq20]
  have hq22 : M3 (mb + 10) = M (mb + 10) := by rw [eM3, va_up_ne _ _ (by omega), hq21]
  have hq23 : M1 (mo + 10) = M (mo + 10) := by rw [eM1, va_up_ne _ _ (by omega)]
  have hq24 : M2 (mo + 10) = M (mo + 10) := by rw [eM2, va_up_ne _ _ (by omega), hq23]
  have hq25 : M3 (mo + 10) = M (mo + 10) := by rw [eM3, va_up_ne _ _ (by omega), hq24]
  have hq26 : M4 (mb + 10) = va_cpy (M (mo + 10)) (M (mb + 10)) 0 0 6 := by rw [eM4, va_up_self, hq25, hq22]
  exact m_retv S hr hlocks hw dX4_copyFrom_60 ⟨hq8, hq13, hq19, hq26, (by rw [eM4]; exact Fr.up (by rw [eM3]; exact Fr.up (by rw [eM2]; exact Fr.up (by rw [eM1]; exact Fr.up Fr.rf (by omega) (by omega)) (by omega) (by omega)) (by omega) (by omega)) (by omega) (by omega))⟩

set_option maxHeartbeats 4000000 in
set_option maxRecDepth 100000 in
/-- Stock.fill -/
theorem c_X4_fill (l : Launch) (G : GT) (N K : Nat) (ad : Nat → Nat) (M : Mem) (mb : Nat) (hm : IsM N K mb) (t : Nat) (ht : t < 48) (x : Int32) : CmV l G N K ad yX4_fill cX4_fill 3 0 0 [.ref (ad (mb + 6)), .int (nI t), .int x] M (fun M1 => M1 (mb + 7) = (upd (M (mb + 7)) t x) ∧ M1 (mb + 8) = (upd (M (mb + 8)) t (nI 0)) ∧ M1 (mb + 9) = (upd (M (mb + 9)) t (nI 0)) ∧ M1 (mb + 10) = (M (mb + 10)) ∧ Fr (mb + 6) (mb + 11) M M1) := by
  refine cm_startV (by decide +kernel) (Nat.le_of_ble_eq_true rfl) ?_
  intro p e s m below meth c ls S hr hlocks hw hl
  have hl : lv_has ls 3 [(0, .ref (ad (mb + 6))), (1, .int (nI t)), (2, .int x)] := hl
  have hlt_mb := hm.lt
  refine lv_aload_n S.1 S.2.1 dX4_fill_0 rfl (lv_at hl 0 rfl) ?_
  refine m_getR (mb + 6) 0 (mb + 7) S hw (by omega) hm.s6 rfl rfl in_X4 (by decide) wf_X4_9 dX4_fill_1 ?_
  refine lv_iload_n S.1 S.2.1 dX4_fill_4 rfl (lv_at hl 1 rfl) ?_
  refine lv_iload_n S.1 S.2.1 dX4_fill_5 rfl (lv_at hl 2 rfl) ?_
  refine n_ast (mb + 7) t S hw (by omega) hm.s7 (by decide) (by omega) rfl dX4_fill_6 (fun M1 H locs eM1 hw => ?_)
  refine lv_aload_n S.1 S.2.1 dX4_fill_7 rfl (lv_at hl 0 rfl) ?_
  refine m_getR (mb + 6) 1 (mb + 8) S hw (by omega) hm.s6 rfl rfl in_X4 (by decide) wf_X4_15 dX4_fill_8 ?_
  refine lv_iload_n S.1 S.2.1 dX4_fill_11 rfl (lv_at hl 1 rfl) ?_
  refine lv_iconst (v := nI 0) S.1 S.2.1 dX4_fill_12 (by decide) ?_
  refine n_ast (mb + 8) t S hw (by omega) hm.s8 (by decide) (by omega) rfl dX4_fill_13 (fun M2 H locs eM2 hw => ?_)
  refine lv_aload_n S.1 S.2.1 dX4_fill_14 rfl (lv_at hl 0 rfl) ?_
  refine m_getR (mb + 6) 2 (mb + 9) S hw (by omega) hm.s6 rfl rfl in_X4 (by decide) wf_X4_18 dX4_fill_15 ?_
  refine lv_iload_n S.1 S.2.1 dX4_fill_18 rfl (lv_at hl 1 rfl) ?_
  refine lv_iconst (v := nI 0) S.1 S.2.1 dX4_fill_19 (by decide) ?_
  refine n_ast (mb + 9) t S hw (by omega) hm.s9 (by decide) (by omega) rfl dX4_fill_20 (fun M3 H locs eM3 hw => ?_)
  have hq4 : M1 (mb + 7) = upd (M (mb + 7)) t x := by rw [eM1, va_up_self]
  have hq5 : M2 (mb + 7) = upd (M (mb + 7)) t x := by rw [eM2, va_up_ne _ _ (by omega), hq4]
  have hq6 : M3 (mb + 7) = upd (M (mb + 7)) t x := by rw [eM3, va_up_ne _ _ (by omega), hq5]
  have hq7 : M1 (mb + 8) = M (mb + 8) := by rw [eM1, va_up_ne _ _ (by omega)]
  have hq8 : M2 (mb + 8) = upd (M (mb + 8)) t (nI 0) := by rw [eM2, va_up_self, hq7]
  have hq9 : M3 (mb + 8) = upd (M (mb + 8)) t (nI 0) := by rw [eM3, va_up_ne _ _ (by omega), hq8]
  have hq10 : M1 (mb + 9) = M (mb + 9) := by rw [eM1, va_up_ne _ _ (by omega)]
  have hq11 : M2 (mb + 9) = M (mb + 9) := by rw [eM2, va_up_ne _ _ (by omega), hq10]
  have hq12 : M3 (mb + 9) = upd (M (mb + 9)) t (nI 0) := by rw [eM3, va_up_self, hq11]
  have hq13 : M1 (mb + 10) = M (mb + 10) := by rw [eM1, va_up_ne _ _ (by omega)]
  have hq14 : M2 (mb + 10) = M (mb + 10) := by rw [eM2, va_up_ne _ _ (by omega), hq13]
  have hq15 : M3 (mb + 10) = M (mb + 10) := by rw [eM3, va_up_ne _ _ (by omega), hq14]
  exact m_retv S hr hlocks hw dX4_fill_21 ⟨hq6, hq9, hq12, hq15, (by rw [eM3]; exact Fr.up (by rw [eM2]; exact Fr.up (by rw [eM1]; exact Fr.up Fr.rf (by omega) (by omega)) (by omega) (by omega)) (by omega) (by omega))⟩

set_option maxHeartbeats 4000000 in
set_option maxRecDepth 100000 in
/-- Stock.bearsForeign -/
theorem c_X4_bearsForeign (l : Launch) (G : GT) (N K : Nat) (ad : Nat → Nat) (M : Mem) (mb : Nat) (hm : IsM N K mb) (t : Nat) (ht : t < 48) (g : Int32) : CrI l G N K ad yX4_bearsForeign cX4_bearsForeign 3 .boolean 0 0 [.ref (ad (mb + 6)), .int (nI t), .int g] M (b01 (bearB (M (mb + 8)) (M (mb + 7)) g t)) := by
  refine cm_startI (by decide +kernel) (Nat.le_of_ble_eq_true rfl) ?_
  intro p e s m below meth c ls S hr hlocks hw hl
  have hl : lv_has ls 3 [(0, .ref (ad (mb + 6))), (1, .int (nI t)), (2, .int g)] := hl
  have hlt_mb := hm.lt
  refine lv_aload_n S.1 S.2.1 dX4_bearsForeign_0 rfl (lv_at hl 0 rfl) ?_
  refine m_getR (mb + 6) 1 (mb + 8) S hw (by omega) hm.s6 rfl rfl in_X4 (by decide) wf_X4_15 dX4_bearsForeign_1 ?_
  refine lv_iload_n S.1 S.2.1 dX4_bearsForeign_4 rfl (lv_at hl 1 rfl) ?_
  refine m_ald (mb + 8) t S hw (by omega) hm.s8 (by decide) (by omega) rfl dX4_bearsForeign_5 ?_
  refine lv_iconst (v := nI 1) S.1 S.2.1 dX4_bearsForeign_6 (by decide) ?_
  refine lv_iadd S.1 S.2.1 dX4_bearsForeign_7 ?_
  refine lv_bipush (v := nI 100) S.1 S.2.1 dX4_bearsForeign_8 (by decide) ?_
  refine lv_imul S.1 S.2.1 dX4_bearsForeign_10 ?_
  refine lv_iload_n S.1 S.2.1 dX4_bearsForeign_11 rfl (lv_at hl 2 rfl) ?_
  refine lv_aload_n S.1 S.2.1 dX4_bearsForeign_12 rfl (lv_at hl 0 rfl) ?_
  refine m_getR (mb + 6) 0 (mb + 7) S hw (by omega) hm.s6 rfl rfl in_X4 (by decide) wf_X4_9 dX4_bearsForeign_13 ?_
  refine lv_iload_n S.1 S.2.1 dX4_bearsForeign_16 rfl (lv_at hl 1 rfl) ?_
  refine m_ald (mb + 7) t S hw (by omega) hm.s7 (by decide) (by omega) rfl dX4_bearsForeign_17 ?_
  refine lv_iconst (v := nI 1) S.1 S.2.1 dX4_bearsForeign_18 (by decide) ?_
  refine lv_iadd S.1 S.2.1 dX4_bearsForeign_19 ?_
  refine lv_imul S.1 S.2.1 dX4_bearsForeign_20 ?_
  refine lv_icmp_gt (tgt := 28) S.1 S.2.1 dX4_bearsForeign_21 (by decide) (fun c1 => ?_) (fun c1 => ?_)
  · refine lv_iconst (v := nI 0) S.1 S.2.1 dX4_bearsForeign_28 (by decide) ?_
    exact m_retz S hr hlocks hw dX4_bearsForeign_29 rfl ⟨b0_f (by simp only [bearB]; exact decide_eq_false (fun z => Int32.not_lt.mpr z c1)), rfl⟩
  · refine lv_iconst (v := nI 1) S.1 S.2.1 dX4_bearsForeign_24 (by decide) ?_
    refine lv_goto (tgt := 29) S.1 S.2.1 dX4_bearsForeign_25 (by decide) ?_
    exact m_retz S hr hlocks hw dX4_bearsForeign_29 rfl ⟨b1_t (by simp only [bearB]; exact decide_eq_true (Int32.not_lt.mp c1)), rfl⟩

set_option maxHeartbeats 4000000 in
set_option maxRecDepth 100000 in
/-- Stock.putOne -/
theorem c_X4_putOne (l : Launch) (G : GT) (N K : Nat) (ad : Nat → Nat) (M : Mem) (mb : Nat) (hm : IsM N K mb) (t : Nat) (ht : t < 48) (b : Bool) : CmV l G N K ad yX4_putOne cX4_putOne 3 0 0 [.ref (ad (mb + 6)), .int (nI t), .int (b01 b)] M (fun M1 => M1 (mb + 7) = (upd (M (mb + 7)) t (M (mb + 7) t + nI 1)) ∧ M1 (mb + 8) = (if b = true then upd (M (mb + 8)) t (M (mb + 8) t + nI 1) else M (mb + 8)) ∧ M1 (mb + 9) = (upd (M (mb + 9)) t (M (mb + 9) t + nI 1)) ∧ M1 (mb + 10) = (M (mb + 10)) ∧ Fr (mb + 6) (mb + 11) M M1) := by
  refine cm_startV (by decide +kernel) (Nat.le_of_ble_eq_true rfl) ?_
  intro p e s m below meth c ls S hr hlocks hw hl
  have hl : lv_has ls 3 [(0, .ref (ad (mb + 6))), (1, .int (nI t)), (2, .int (b01 b))] := hl
  have hlt_mb := hm.lt
  refine lv_aload_n S.1 S.2.1 dX4_putOne_0 rfl (lv_at hl 0 rfl) ?_
  refine m_getR (mb + 6) 0 (mb + 7) S hw (by omega) hm.s6 rfl rfl in_X4 (by decide) wf_X4_9 dX4_putOne_1 ?_
  refine lv_iload_n S.1 S.2.1 dX4_putOne_4 rfl (lv_at hl 1 rfl) ?_
  refine lv_dup2_11 S.1 S.2.1 dX4_putOne_5 rfl rfl ?_
  refine m_ald (mb + 7) t S hw (by omega) hm.s7 (by decide) (by omega) rfl dX4_putOne_6 ?_
  refine lv_iconst (v := nI 1) S.1 S.2.1 dX4_putOne_7 (by decide) ?_
  refine lv_iadd S.1 S.2.1 dX4_putOne_8 ?_
  refine n_ast (mb + 7) t S hw (by omega) hm.s7 (by decide) (by omega) rfl dX4_putOne_9 (fun M1 H locs eM1 hw => ?_)
  refine lv_aload_n S.1 S.2.1 dX4_putOne_10 rfl (lv_at hl 0 rfl) ?_
  refine m_getR (mb + 6) 2 (mb + 9) S hw (by omega) hm.s6 rfl rfl in_X4 (by decide) wf_X4_18 dX4_putOne_11 ?_
  refine lv_iload_n S.1 S.2.1 dX4_putOne_14 rfl (lv_at hl 1 rfl) ?_
  refine lv_dup2_11 S.1 S.2.1 dX4_putOne_15 rfl rfl ?_
  refine m_ald (mb + 9) t S hw (by omega) hm.s9 (by decide) (by omega) rfl dX4_putOne_16 ?_
  have hq2 : M1 (mb + 9) = M (mb + 9) := by rw [eM1, va_up_ne _ _ (by omega)]
  refine m_top (show M1 (mb + 9) t = M (mb + 9) t from congrFun hq2 t) ?_
  refine lv_iconst (v := nI 1) S.1 S.2.1 dX4_putOne_17 (by decide) ?_
  refine lv_iadd S.1 S.2.1 dX4_putOne_18 ?_
  refine n_ast (mb + 9) t S hw (by omega) hm.s9 (by decide) (by omega) rfl dX4_putOne_19 (fun M3 H locs eM3 hw => ?_)
  refine lv_iload_n S.1 S.2.1 dX4_putOne_20 rfl (lv_at hl 2 rfl) ?_
  refine b_eq (tgt := 34) S dX4_putOne_21 (by decide) (fun c4 => ?_) (fun c4 => ?_)
  · have hq5 : M1 (mb + 8) = M (mb + 8) := by rw [eM1, va_up_ne _ _ (by omega)]
    have hq6 : M3 (mb + 8) = M (mb + 8) := by rw [eM3, va_up_ne _ _ (by omega), hq5]
    have hq7 : M1 (mb + 7) = upd (M (mb + 7)) t ((M (mb + 7) t) + (nI 1)) := by rw [eM1, va_up_self]
    have hq8 : M3 (mb + 7) = upd (M (mb + 7)) t ((M (mb + 7) t) + (nI 1)) := by rw [eM3, va_up_ne _ _ (by omega), hq7]
    have hq9 : M3 (mb + 9) = upd (M (mb + 9)) t ((M (mb + 9) t) + (nI 1)) := by rw [eM3, va_up_self, hq2]
    have hq10 : M1 (mb + 10) = M (mb + 10) := by rw [eM1, va_up_ne _ _ (by omega)]
    have hq11 : M3 (mb + 10) = M (mb + 10) := by rw [eM3, va_up_ne _ _ (by omega), hq10]
    exact m_retv S hr hlocks hw dX4_putOne_34 ⟨hq8, (hq6).trans (by rw [if_neg (by rw [c4]; decide)]), hq9, hq11, (by rw [eM3]; exact Fr.up (by rw [eM1]; exact Fr.up Fr.rf (by omega) (by omega)) (by omega) (by omega))⟩
  · refine lv_aload_n S.1 S.2.1 dX4_putOne_24 rfl (lv_at hl 0 rfl) ?_
    refine m_getR (mb + 6) 1 (mb + 8) S hw (by omega) hm.s6 rfl rfl in_X4 (by decide) wf_X4_15 dX4_putOne_25 ?_
    refine lv_iload_n S.1 S.2.1 dX4_putOne_28 rfl (lv_at hl 1 rfl) ?_
    refine lv_dup2_11 S.1 S.2.1 dX4_putOne_29 rfl rfl ?_
    refine m_ald (mb + 8) t S hw (by omega) hm.s8 (by decide) (by omega) rfl dX4_putOne_30 ?_
    have hq12 : M1 (mb + 8) = M (mb + 8) := by rw [eM1, va_up_ne _ _ (by omega)]
    have hq13 : M3 (mb + 8) = M (mb + 8) := by rw [eM3, va_up_ne _ _ (by omega), hq12]
    refine m_top (show M3 (mb + 8) t = M (mb + 8) t from congrFun hq13 t) ?_
    refine lv_iconst (v := nI 1) S.1 S.2.1 dX4_putOne_31 (by decide) ?_
    refine lv_iadd S.1 S.2.1 dX4_putOne_32 ?_
    refine n_ast (mb + 8) t S hw (by omega) hm.s8 (by decide) (by omega) rfl dX4_putOne_33 (fun M14 H locs eM14 hw => ?_)
    have hq15 : M14 (mb + 8) = upd (M (mb + 8)) t ((M (mb + 8) t) + (nI 1)) := by rw [eM14, va_up_self, hq13]
    have hq16 : M1 (mb + 7) = upd (M (mb + 7)) t ((M (mb + 7) t) + (nI 1)) := by rw [eM1, va_up_self]
    have hq17 : M3 (mb + 7) = upd (M (mb + 7)) t ((M (mb + 7) t) + (nI 1)) := by rw [eM3, va_up_ne _ _ (by omega), hq16]
    have hq18 : M14 (mb + 7) = upd (M (mb + 7)) t ((M (mb + 7) t) + (nI 1)) := by rw [eM14, va_up_ne _ _ (by omega), hq17]
    have hq19 : M3 (mb + 9) = upd (M (mb + 9)) t ((M (mb + 9) t) + (nI 1)) := by rw [eM3, va_up_self, hq2]
    have hq20 : M14 (mb + 9) = upd (M (mb + 9)) t ((M (mb + 9) t) + (nI 1)) := by rw [eM14, va_up_ne _ _ (by omega), hq19]
    have hq21 : M1 (mb + 10) = M (mb + 10) := by rw [eM1, va_up_ne _ _ (by omega)]
    have hq22 : M3 (mb + 10) = M (mb + 10) := by rw [eM3, va_up_ne _ _ (by omega), hq21]
    have hq23 : M14 (mb + 10) = M (mb + 10) := by rw [eM14, va_up_ne _ _ (by omega), hq22]
    exact m_retv S hr hlocks hw dX4_putOne_34 ⟨hq18, by rw [hq15, if_pos c4], hq20, hq23, (by rw [eM14]; exact Fr.up (by rw [eM3]; exact Fr.up (by rw [eM1]; exact Fr.up Fr.rf (by omega) (by omega)) (by omega) (by omega)) (by omega) (by omega))⟩

set_option maxHeartbeats 4000000 in
set_option maxRecDepth 100000 in
/-- Stock.takeOne -/
theorem c_X4_takeOne (l : Launch) (G : GT) (N K : Nat) (ad : Nat → Nat) (M : Mem) (mb : Nat) (hm : IsM N K mb) (t : Nat) (ht : t < 48) : CmV l G N K ad yX4_takeOne cX4_takeOne 2 1 21 [.ref (ad (mb + 6)), .int (nI t)] M (fun M1 => M1 (mb + 7) = (upd (M (mb + 7)) t (M (mb + 7) t - nI 1)) ∧ M1 (mb + 8) = (upd (M (mb + 8)) t (if M (mb + 7) t - nI 1 < M (mb + 8) t then M (mb + 7) t - nI 1 else M (mb + 8) t)) ∧ M1 (mb + 9) = (M (mb + 9)) ∧ M1 (mb + 10) = (M (mb + 10)) ∧ Fr (mb + 6) (mb + 11) M M1) := by
  refine cm_startV (by decide +kernel) (Nat.le_of_ble_eq_true rfl) ?_
  intro p e s m below meth c ls S hr hlocks hw hl
  have hl : lv_has ls 2 [(0, .ref (ad (mb + 6))), (1, .int (nI t))] := hl
  have hlt_mb := hm.lt
  refine lv_aload_n S.1 S.2.1 dX4_takeOne_0 rfl (lv_at hl 0 rfl) ?_
  refine m_getR (mb + 6) 0 (mb + 7) S hw (by omega) hm.s6 rfl rfl in_X4 (by decide) wf_X4_9 dX4_takeOne_1 ?_
  refine lv_iload_n S.1 S.2.1 dX4_takeOne_4 rfl (lv_at hl 1 rfl) ?_
  refine lv_dup2_11 S.1 S.2.1 dX4_takeOne_5 rfl rfl ?_
  refine m_ald (mb + 7) t S hw (by omega) hm.s7 (by decide) (by omega) rfl dX4_takeOne_6 ?_
  refine lv_iconst (v := nI 1) S.1 S.2.1 dX4_takeOne_7 (by decide) ?_
  refine lv_isub S.1 S.2.1 dX4_takeOne_8 ?_
  refine n_ast (mb + 7) t S hw (by omega) hm.s7 (by decide) (by omega) rfl dX4_takeOne_9 (fun M1 H locs eM1 hw => ?_)
  refine lv_aload_n S.1 S.2.1 dX4_takeOne_10 rfl (lv_at hl 0 rfl) ?_
  refine m_getR (mb + 6) 1 (mb + 8) S hw (by omega) hm.s6 rfl rfl in_X4 (by decide) wf_X4_15 dX4_takeOne_11 ?_
  refine lv_iload_n S.1 S.2.1 dX4_takeOne_14 rfl (lv_at hl 1 rfl) ?_
  refine lv_aload_n S.1 S.2.1 dX4_takeOne_15 rfl (lv_at hl 0 rfl) ?_
  refine m_getR (mb + 6) 1 (mb + 8) S hw (by omega) hm.s6 rfl rfl in_X4 (by decide) wf_X4_15 dX4_takeOne_16 ?_
  refine lv_iload_n S.1 S.2.1 dX4_takeOne_19 rfl (lv_at hl 1 rfl) ?_
  refine m_ald (mb + 8) t S hw (by omega) hm.s8 (by decide) (by omega) rfl dX4_takeOne_20 ?_
  have hq2 : M1 (mb + 8) = M (mb + 8) := by rw [eM1, va_up_ne _ _ (by omega)]
  refine m_top (show M1 (mb + 8) t = M (mb + 8) t from congrFun hq2 t) ?_
  refine lv_aload_n S.1 S.2.1 dX4_takeOne_21 rfl (lv_at hl 0 rfl) ?_
  refine m_getR (mb + 6) 0 (mb + 7) S hw (by omega) hm.s6 rfl rfl in_X4 (by decide) wf_X4_9 dX4_takeOne_22 ?_
  refine lv_iload_n S.1 S.2.1 dX4_takeOne_25 rfl (lv_at hl 1 rfl) ?_
  refine m_ald (mb + 7) t S hw (by omega) hm.s7 (by decide) (by omega) rfl dX4_takeOne_26 ?_
  have hq3 : M1 (mb + 7) = upd (M (mb + 7)) t ((M (mb + 7) t) - (nI 1)) := by rw [eM1, va_up_self]
  refine m_top (show M1 (mb + 7) t = (upd (M (mb + 7)) t ((M (mb + 7) t) - (nI 1))) t from congrFun hq3 t) ?_
  refine m_top (show (upd (M (mb + 7)) t ((M (mb + 7) t) - (nI 1))) t = (M (mb + 7) t) - (nI 1) from pk_us) ?_
  refine va_mmin S.1 S.2.1 (S.2.2.1.trans hl.1.symm) S.2.2.2.1 (S.2.2.2.2 _ wm_X4_36) (S.2.2.2.2 _ wt_min) (S.2.2.2.2 _ wn_J9) (S.2.2.2.2 _ wc_min) (by decide) (Nat.le_of_ble_eq_true rfl) (by decide) (by decide) dX4_takeOne_27 ?_
  refine n_ast (mb + 8) t S hw (by omega) hm.s8 (by decide) (by omega) rfl dX4_takeOne_30 (fun M4 H locs eM4 hw => ?_)
  have hq5 : M4 (mb + 7) = upd (M (mb + 7)) t ((M (mb + 7) t) - (nI 1)) := by rw [eM4, va_up_ne _ _ (by omega), hq3]
  have hq6 : M4 (mb + 8) = upd (M (mb + 8)) t (if (M (mb + 7) t) - (nI 1) < M (mb + 8) t then (M (mb + 7) t) - (nI 1) else M (mb + 8) t) := by rw [eM4, va_up_self, hq2]
  have hq7 : M1 (mb + 9) = M (mb + 9) := by rw [eM1, va_up_ne _ _ (by omega)]
  have hq8 : M4 (mb + 9) = M (mb + 9) := by rw [eM4, va_up_ne _ _ (by omega), hq7]
  have hq9 : M1 (mb + 10) = M (mb + 10) := by rw [eM1, va_up_ne _ _ (by omega)]
  have hq10 : M4 (mb + 10) = M (mb + 10) := by rw [eM4, va_up_ne _ _ (by omega), hq9]
  exact m_retv S hr hlocks hw dX4_takeOne_31 ⟨hq5, hq6, hq8, hq10, (by rw [eM4]; exact Fr.up (by rw [eM1]; exact Fr.up Fr.rf (by omega) (by omega)) (by omega) (by omega))⟩

set_option maxHeartbeats 4000000 in
set_option maxRecDepth 100000 in
/-- Stock.slopOfAll -/
theorem c_X4_slopOfAll (l : Launch) (G : GT) (N K : Nat) (ad : Nat → Nat) (M : Mem) (mb : Nat) (hm : IsM N K mb) : CrI l G N K ad yX4_slopOfAll cX4_slopOfAll 3 .int 0 0 [.ref (ad (mb + 6))] M (sumI (M (mb + 10)) 6) := by
  refine cm_startI (by decide +kernel) (Nat.le_of_ble_eq_true rfl) ?_
  intro p e s m below meth c ls S hr hlocks hw hl
  have hl : lv_has ls 3 [(0, .ref (ad (mb + 6)))] := hl
  have hlt_mb := hm.lt
  generalize hAv : List.toArray ([.ref (ad (mb + 6))] : List Value) = A at S ⊢
  have loop : ∀ (n : Nat) (i : Nat), i + n = 6 → ∀ (H : Heap) (locs : List Loc) (ls : Array Slot), Wd G N K ad M s H locs → lv_has ls 3 [(0, .ref (ad (mb + 6))), (1, .int (sumI (M (mb + 10)) i)), (2, .int (nI i))] → W p l e { frames := 0, cells := 0, slots := 0, locals := 0 } s m A below meth c H locs 0 0 (QmI G N K ad (fun r M' => r = (sumI (M (mb + 10)) 6) ∧ M' = M) below A s) (F0 m 4 ls []) := by
    intro n
    induction n with
    | zero =>
      intro i hi H locs ls hw hl
      refine lv_iload_n S.1 S.2.1 dX4_slopOfAll_4 rfl (lv_at hl 2 rfl) ?_
      refine lv_bipush (v := nI 6) S.1 S.2.1 dX4_slopOfAll_5 (by decide) ?_
      refine n_ge (tgt := 25) S (by omega) (by omega) dX4_slopOfAll_7 (by decide) (fun c1 => ?_) (fun c1 => absurd c1 (by omega))
      refine lv_iload_n S.1 S.2.1 dX4_slopOfAll_25 rfl (lv_at hl 1 rfl) ?_
      exact m_reti S hr hlocks hw dX4_slopOfAll_26 ⟨by rw [show i = 6 by omega], rfl⟩
    | succ n ih =>
      intro i hi H locs ls hw hl
      refine lv_iload_n S.1 S.2.1 dX4_slopOfAll_4 rfl (lv_at hl 2 rfl) ?_
      refine lv_bipush (v := nI 6) S.1 S.2.1 dX4_slopOfAll_5 (by decide) ?_
      refine n_ge (tgt := 25) S (by omega) (by omega) dX4_slopOfAll_7 (by decide) (fun c1 => absurd c1 (by omega)) (fun c1 => ?_)
      refine lv_iload_n S.1 S.2.1 dX4_slopOfAll_10 rfl (lv_at hl 1 rfl) ?_
      refine lv_aload_n S.1 S.2.1 dX4_slopOfAll_11 rfl (lv_at hl 0 rfl) ?_
      refine m_getR (mb + 6) 3 (mb + 10) S hw (by omega) hm.s6 rfl rfl in_X4 (by decide) wf_X4_21 dX4_slopOfAll_12 ?_
      refine lv_iload_n S.1 S.2.1 dX4_slopOfAll_15 rfl (lv_at hl 2 rfl) ?_
      refine m_ald (mb + 10) i S hw (by omega) hm.s10 (by decide) (by omega) rfl dX4_slopOfAll_16 ?_
      refine lv_iadd S.1 S.2.1 dX4_slopOfAll_17 ?_
      refine lv_istore_n (lv' := [(1, .int ((sumI (M (mb + 10)) i) + (M (mb + 10) i))), (0, .ref (ad (mb + 6))), (2, .int (nI i))]) S.1 S.2.1 dX4_slopOfAll_18 rfl hl (by decide) rfl (fun ls hl => ?_)
      refine lv_iinc (v := nI (i + 1)) (lv' := [(2, .int (nI (i + 1))), (1, .int ((sumI (M (mb + 10)) i) + (M (mb + 10) i))), (0, .ref (ad (mb + 6)))]) S.1 S.2.1 dX4_slopOfAll_19 hl (k := 2) rfl (iinc1 _) (by decide) rfl (fun ls hl => ?_)
      refine lv_goto (tgt := 4) S.1 S.2.1 dX4_slopOfAll_22 (by decide) ?_
      exact ih (i + 1) (by omega) _ _ ls hw (lv_sub hl [2, 1, 0] rfl)
  refine lv_iconst (v := nI 0) S.1 S.2.1 dX4_slopOfAll_0 (by decide) ?_
  refine lv_istore_n (lv' := [(1, .int (nI 0)), (0, .ref (ad (mb + 6)))]) S.1 S.2.1 dX4_slopOfAll_1 rfl hl (by decide) rfl (fun ls hl => ?_)
  refine lv_iconst (v := nI 0) S.1 S.2.1 dX4_slopOfAll_2 (by decide) ?_
  refine lv_istore_n (lv' := [(2, .int (nI 0)), (1, .int (nI 0)), (0, .ref (ad (mb + 6)))]) S.1 S.2.1 dX4_slopOfAll_3 rfl hl (by decide) rfl (fun ls hl => ?_)
  exact loop 6 0 (by omega) _ _ ls hw (lv_sub hl [2, 1, 0] rfl)

set_option maxHeartbeats 4000000 in
set_option maxRecDepth 100000 in
/-- Plan.set -/
theorem c_X3_set (l : Launch) (G : GT) (N K : Nat) (ad : Nat → Nat) (M : Mem) (h34 : 34 ≤ N) (a b kd : Nat) (ha : a < 6) (hb : b < 6) : CmV l G N K ad yX3_set cX3_set 5 1 21 [.ref (ad 17), .int (nI a), .int (nI b), .int (nI kd), .ref (ad 6)] M (fun M1 => M1 17 0 = nI kd ∧ M1 17 1 = nI (a * 8 + kd) ∧ M1 17 2 = nI b ∧ M1 17 3 = M 7 a ∧ M1 17 4 = M 7 b ∧ Fr 17 18 M M1) := by
  refine cm_startV (by decide +kernel) (Nat.le_of_ble_eq_true rfl) ?_
  intro p e s m below meth c ls S hr hlocks hw hl
  have hl : lv_has ls 5 [(0, .ref (ad 17)), (1, .int (nI a)), (2, .int (nI b)), (3, .int (nI kd)), (4, .ref (ad 6))] := hl
  refine lv_aload_n S.1 S.2.1 dX3_set_0 rfl (lv_at hl 0 rfl) ?_
  refine lv_iload_n S.1 S.2.1 dX3_set_1 rfl (lv_at hl 3 rfl) ?_
  refine n_putI 17 0 S hw (by omega) rfl rfl rfl in_X3 tyX3_ok nmX3 (by decide) rfl rfl wf_X3_7 dX3_set_2 (fun M1 H locs eM1 hw => ?_)
  refine lv_aload_n S.1 S.2.1 dX3_set_5 rfl (lv_at hl 0 rfl) ?_
  refine lv_iload_n S.1 S.2.1 dX3_set_6 rfl (lv_at hl 1 rfl) ?_
  refine lv_iload_n S.1 S.2.1 dX3_set_7 rfl (lv_at hl 3 rfl) ?_
  refine r_NI (As := [.int (nI a), .int (nI kd)]) (rest := [.ref (ad 17)]) S hw (c_X7_tankNumber l G N K ad M1 a kd) mf_X7_tankNumber (List.mem_of_getElem? (i := 7) rfl) ⟨by decide, by decide⟩ ⟨Nat.le_refl _, Nat.le_refl _⟩ hl.1 rfl (Nat.le_of_ble_eq_true rfl) dX3_set_8 (fun H locs hw => ?_)
  refine n_putI 17 1 S hw (by omega) rfl rfl rfl in_X3 tyX3_ok nmX3 (by decide) rfl rfl wf_X3_13 dX3_set_11 (fun M2 H locs eM2 hw => ?_)
  refine lv_aload_n S.1 S.2.1 dX3_set_14 rfl (lv_at hl 0 rfl) ?_
  refine lv_iload_n S.1 S.2.1 dX3_set_15 rfl (lv_at hl 2 rfl) ?_
  refine n_putI 17 2 S hw (by omega) rfl rfl rfl in_X3 tyX3_ok nmX3 (by decide) rfl rfl wf_X3_16 dX3_set_16 (fun M3 H locs eM3 hw => ?_)
  refine lv_aload_n S.1 S.2.1 dX3_set_19 rfl (lv_at hl 0 rfl) ?_
  refine lv_aload S.1 S.2.1 dX3_set_20 (lv_at hl 4 rfl) ?_
  refine m_getR 6 1 7 S hw (by omega) rfl rfl rfl in_X0 (by decide) wf_X3_31 dX3_set_22 ?_
  refine lv_iload_n S.1 S.2.1 dX3_set_25 rfl (lv_at hl 1 rfl) ?_
  refine m_ald 7 a S hw (by omega) rfl (by decide) (by omega) rfl dX3_set_26 ?_
  have hq4 : M1 7 = M 7 := by rw [eM1, va_up_ne _ _ (by omega)]
  have hq5 : M2 7 = M 7 := by rw [eM2, va_up_ne _ _ (by omega), hq4]
  have hq6 : M3 7 = M 7 := by rw [eM3, va_up_ne _ _ (by omega), hq5]
  refine m_top (show M3 7 a = M 7 a from congrFun hq6 a) ?_
  refine n_putI 17 3 S hw (by omega) rfl rfl rfl in_X3 tyX3_ok nmX3 (by decide) rfl rfl wf_X3_19 dX3_set_27 (fun M7 H locs eM7 hw => ?_)
  refine lv_aload_n S.1 S.2.1 dX3_set_30 rfl (lv_at hl 0 rfl) ?_
  refine lv_aload S.1 S.2.1 dX3_set_31 (lv_at hl 4 rfl) ?_
  refine m_getR 6 1 7 S hw (by omega) rfl rfl rfl in_X0 (by decide) wf_X3_31 dX3_set_33 ?_
  refine lv_iload_n S.1 S.2.1 dX3_set_36 rfl (lv_at hl 2 rfl) ?_
  refine m_ald 7 b S hw (by omega) rfl (by decide) (by omega) rfl dX3_set_37 ?_
  have hq8 : M7 7 = M 7 := by rw [eM7, va_up_ne _ _ (by omega), hq6]
  refine m_top (show M7 7 b = M 7 b from congrFun hq8 b) ?_
  refine n_putI 17 4 S hw (by omega) rfl rfl rfl in_X3 tyX3_ok nmX3 (by decide) rfl rfl wf_X3_22 dX3_set_38 (fun M9 H locs eM9 hw => ?_)
  have hq10 : M1 17 = upd (M 17) 0 (nI kd) := by rw [eM1, va_up_self]
  have hq11 : M2 17 = upd (upd (M 17) 0 (nI kd)) 1 (nI (a * 8 + kd)) := by rw [eM2, va_up_self, hq10]
  have hq12 : M3 17 = upd (upd (upd (M 17) 0 (nI kd)) 1 (nI (a * 8 + kd))) 2 (nI b) := by rw [eM3, va_up_self, hq11]
  have hq13 : M7 17 = upd (upd (upd (upd (M 17) 0 (nI kd)) 1 (nI (a * 8 + kd))) 2 (nI b)) 3 (M 7 a) := by rw [eM7, va_up_self, hq12]
  have hq14 : M9 17 = upd (upd (upd (upd (upd (M 17) 0 (nI kd)) 1 (nI (a * 8 + kd))) 2 (nI b)) 3 (M 7 a)) 4 (M 7 b) := by rw [eM9, va_up_self, hq13]
  exact m_retv S hr hlocks hw dX3_set_41 ⟨(Eq.trans (congrFun hq14 0) ((pk_un (by decide)).trans ((pk_un (by decide)).trans ((pk_un (by decide)).trans ((pk_un (by decide)).trans pk_us))))), (Eq.trans (congrFun hq14 1) ((pk_un (by decide)).trans ((pk_un (by decide)).trans ((pk_un (by decide)).trans pk_us)))), (Eq.trans (congrFun hq14 2) ((pk_un (by decide)).trans ((pk_un (by decide)).trans pk_us))), (Eq.trans (congrFun hq14 3) ((pk_un (by decide)).trans pk_us)), (Eq.trans (congrFun hq14 4) pk_us), (by rw [eM9]; exact Fr.up (by rw [eM7]; exact Fr.up (by rw [eM3]; exact Fr.up (by rw [eM2]; exact Fr.up (by rw [eM1]; exact Fr.up Fr.rf (by omega) (by omega)) (by omega) (by omega)) (by omega) (by omega)) (by omega) (by omega)) (by omega) (by omega))⟩
