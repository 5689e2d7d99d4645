/-! THE LAW'S LOOP -/
set_option maxHeartbeats 4000000 in
set_option maxRecDepth 100000 in
/-- one call, out of the switch -/
theorem law_case {p : Program} {l : Launch} {e : Env} {s : State} {m : MethodId} {below : List Frame} {meth : Method} {c : Code} {H : Heap} {locs : List Loc} {cells slots : Nat} {Q : State → Prop} {ls : Array Slot} {G : GT} {K : Nat} {ad : Nat → Nat} {M : Mem} {b L i : Nat} {xs : Nat → Int32} (v : Int32) (hA : LA p s m c G b L i xs cells slots) (hw : Wd G (61 + 13 * K) K ad M s H locs) (hl : LL ls b i ad) (hI : Inv (1000 * i) K M) (kk : LK p l e s m below meth c G b i cells slots Q ls) : W p l e room_1 s m #[Value.ref b] below meth c H locs cells slots Q (F0 m 33 ls [.int v]) := by
  have S := hA.1
  rcases sw_cases v 18 with hsw | ⟨j, hj, hsw⟩
  · refine lv_tableOut (tgt := 791) S.1 S.2.1 dL_law_33 hsw (by decide) ?_
    obtain ⟨P, D, n, b0, Wn, h⟩ := hI
    exact W.widen (by omega) (by omega) (kk K ad M _ _ ⟨P, D, n, b0, Wn, h.up (by omega)⟩ hw hl)
  · rcases (show j = 0 ∨ j = 1 ∨ j = 2 ∨ j = 3 ∨ j = 4 ∨ j = 5 ∨ j = 6 ∨ j = 7 ∨ j = 8 ∨ j = 9 ∨ j = 10 ∨ j = 11 ∨ j = 12 ∨ j = 13 ∨ j = 14 ∨ j = 15 ∨ j = 16 ∨ j = 17 ∨ j = 18 by omega) with rfl | rfl | rfl | rfl | rfl | rfl | rfl | rfl | rfl | rfl | rfl | rfl | rfl | rfl | rfl | rfl | rfl | rfl | rfl
    · refine lv_tableIn (off := 91) (tgt := 124) S.1 S.2.1 dL_law_33 (by rw [hsw]; decide) (by rw [hsw]; decide) (by rw [hsw]; rfl) (by decide) ?_
      exact lc_line hA hw hl hI kk
    · refine lv_tableIn (off := 114) (tgt := 147) S.1 S.2.1 dL_law_33 (by rw [hsw]; decide) (by rw [hsw]; decide) (by rw [hsw]; rfl) (by decide) ?_
      exact lc_door hA hw hl hI kk
    · refine lv_tableIn (off := 137) (tgt := 170) S.1 S.2.1 dL_law_33 (by rw [hsw]; decide) (by rw [hsw]; decide) (by rw [hsw]; rfl) (by decide) ?_
      exact lc_tank hA hw hl hI kk
    · refine lv_tableIn (off := 200) (tgt := 233) S.1 S.2.1 dL_law_33 (by rw [hsw]; decide) (by rw [hsw]; decide) (by rw [hsw]; rfl) (by decide) ?_
      exact lc_follow hA hw hl hI kk
    · refine lv_tableIn (off := 253) (tgt := 286) S.1 S.2.1 dL_law_33 (by rw [hsw]; decide) (by rw [hsw]; decide) (by rw [hsw]; rfl) (by decide) ?_
      exact lc_grace hA hw hl hI kk
    · refine lv_tableIn (off := 286) (tgt := 319) S.1 S.2.1 dL_law_33 (by rw [hsw]; decide) (by rw [hsw]; decide) (by rw [hsw]; rfl) (by decide) ?_
      exact lc_rate hA hw hl hI kk
    · refine lv_tableIn (off := 319) (tgt := 352) S.1 S.2.1 dL_law_33 (by rw [hsw]; decide) (by rw [hsw]; decide) (by rw [hsw]; rfl) (by decide) ?_
      exact lc_price hA hw hl hI kk
    · refine lv_tableIn (off := 352) (tgt := 385) S.1 S.2.1 dL_law_33 (by rw [hsw]; decide) (by rw [hsw]; decide) (by rw [hsw]; rfl) (by decide) ?_
      exact lc_wish hA hw hl hI kk
    · refine lv_tableIn (off := 405) (tgt := 438) S.1 S.2.1 dL_law_33 (by rw [hsw]; decide) (by rw [hsw]; decide) (by rw [hsw]; rfl) (by decide) ?_
      exact lc_push hA hw hl hI kk
    · refine lv_tableIn (off := 458) (tgt := 491) S.1 S.2.1 dL_law_33 (by rw [hsw]; decide) (by rw [hsw]; decide) (by rw [hsw]; rfl) (by decide) ?_
      exact lc_trial hA hw hl hI kk
    · refine lv_tableIn (off := 511) (tgt := 544) S.1 S.2.1 dL_law_33 (by rw [hsw]; decide) (by rw [hsw]; decide) (by rw [hsw]; rfl) (by decide) ?_
      exact lc_undo hA hw hl hI kk
    · refine lv_tableIn (off := 524) (tgt := 557) S.1 S.2.1 dL_law_33 (by rw [hsw]; decide) (by rw [hsw]; decide) (by rw [hsw]; rfl) (by decide) ?_
      exact lc_wait hA hw hl hI kk
    · refine lv_tableIn (off := 547) (tgt := 580) S.1 S.2.1 dL_law_33 (by rw [hsw]; decide) (by rw [hsw]; decide) (by rw [hsw]; rfl) (by decide) ?_
      exact lc_at hA hw hl hI kk
    · refine lv_tableIn (off := 580) (tgt := 613) S.1 S.2.1 dL_law_33 (by rw [hsw]; decide) (by rw [hsw]; decide) (by rw [hsw]; rfl) (by decide) ?_
      exact lc_batch hA hw hl hI kk
    · refine lv_tableIn (off := 613) (tgt := 646) S.1 S.2.1 dL_law_33 (by rw [hsw]; decide) (by rw [hsw]; decide) (by rw [hsw]; rfl) (by decide) ?_
      exact lc_tankOf hA hw hl hI kk
    · refine lv_tableIn (off := 656) (tgt := 689) S.1 S.2.1 dL_law_33 (by rw [hsw]; decide) (by rw [hsw]; decide) (by rw [hsw]; rfl) (by decide) ?_
      exact lc_about hA hw hl hI kk
    · refine lv_tableIn (off := 689) (tgt := 722) S.1 S.2.1 dL_law_33 (by rw [hsw]; decide) (by rw [hsw]; decide) (by rw [hsw]; rfl) (by decide) ?_
      exact lc_wished hA hw hl hI kk
    · refine lv_tableIn (off := 722) (tgt := 755) S.1 S.2.1 dL_law_33 (by rw [hsw]; decide) (by rw [hsw]; decide) (by rw [hsw]; rfl) (by decide) ?_
      exact lc_count hA hw hl hI kk
    · refine lv_tableIn (off := 745) (tgt := 778) S.1 S.2.1 dL_law_33 (by rw [hsw]; decide) (by rw [hsw]; decide) (by rw [hsw]; rfl) (by decide) ?_
      exact lc_borders hA hw hl hI kk
set_option maxHeartbeats 4000000 in
set_option maxRecDepth 100000 in
theorem law_loop {p : Program} {l : Launch} {e : Env} {s : State} {m : MethodId} {below : List Frame} {meth : Method} {c : Code} {G : GT} {b L : Nat} {xs : Nat → Int32} (hL : L ≤ 3072) (C0 : lw_At p s m meth c b L xs) (hG : G.1 = s.heap.size) :
    ∀ (n i : Nat), i + n = 513 → i ≤ 512 → ∀ (K : Nat) (ad : Nat → Nat) (M : Mem) (H : Heap) (locs : List Loc) (ls : Array Slot), Inv (1000 * i) K M → Wd G (61 + 13 * K) K ad M s H locs → LL ls b i ad → W p l e room_1 s m #[Value.ref b] below meth c H locs (61 + 26 * i) (184472 + 1732 * i) (lw_Z below #[Value.ref b] s) (F0 m 18 ls []) := by
  obtain ⟨hx, hb, hr, hml, hown, hts, hX, hbl, hlocks, hgv⟩ := C0
  have S : CallFix p m c cL_law 4 s #[Value.ref b] TB RL := ⟨hx, hb, hml, hown, tb_sub hts⟩
  have hbA : ¬ (fun q : Nat => G.1 ≤ q) b := by
    show ¬ G.1 ≤ b
    omega
  intro n
  induction n with
  | zero =>
    intro i h1 h2
    exact absurd h1 (by omega)
  | succ n ih =>
    intro i h1 h2 K ad M H locs ls hI hw hl
    refine lv_iload_n hx hb dL_law_18 rfl (lv_at hl 3 rfl) ?_
    refine lv_aload_n hx hb dL_law_19 rfl (lv_at hl 0 rfl) ?_
    refine va_slen hx hb hX hbl hbA hw.2.2.1 dL_law_20 ?_
    refine m_top (y := nI L) rfl ?_
    refine lv_bipush (v := nI 6) hx hb dL_law_21 (by decide) ?_
    refine lv_isub hx hb dL_law_23 ?_
    have hcmp : nI L - nI 6 < nI (6 * i) ↔ L < 6 * i + 6 := by
      rw [Int32.lt_iff_toInt_lt, sub_int (by omega) (by omega), nI_toInt (by omega)]
      omega
    refine lv_icmp_gt (tgt := 797) hx hb dL_law_24 (by decide) (fun c1 => ?_) (fun c1 => ?_)
    · refine lv_iconst (v := 1) hx hb dL_law_797 (by decide) ?_
      refine va_forget (fun q hq => by rw [← hG]; exact hw.2.2.1.2.2 q hq) ?_
      refine W.widen (k := 600000) (n := 7302250) (by omega) (by omega) ?_
      exact lw_ret hx hb hr hlocks dL_law_798
    · have hlt : 6 * i + 6 ≤ L := Nat.not_lt.mp (fun z => c1 (hcmp.mpr z))
      refine lv_aload_n hx hb dL_law_27 rfl (lv_at hl 0 rfl) ?_
      refine lv_iload_n hx hb dL_law_28 rfl (lv_at hl 3 rfl) ?_
      refine va_sld hx hb hX hbl hbA hw.2.2.1 (vp_in_nI (by omega) (by omega)) dL_law_29 ?_
      refine lv_bipush (v := nI 31) hx hb dL_law_30 (by decide) ?_
      refine lv_iand hx hb dL_law_32 ?_
      refine law_case _ ⟨S, hX, hbl, hbA, by omega, hL, by omega, by omega⟩ hw hl hI ?_
      intro K1 ad1 M1 H1 locs1 hI1 hw1 hl1
      have hl1 : lv_has ls 4 [(0, .ref b), (1, .ref (ad1 0)), (2, .ref (ad1 34)), (3, .int (nI (6 * i)))] := hl1
      refine lv_iinc (v := nI (6 * (i + 1))) (lv' := [(3, .int (nI (6 * (i + 1)))), (0, .ref b), (1, .ref (ad1 0)), (2, .ref (ad1 34))]) hx hb dL_law_791 hl1 (k := 3) rfl ?_ (by decide) rfl (fun ls hl => ?_)
      · rw [show Int32.ofInt 6 = nI 6 by decide, nI_add]
        rfl
      refine lv_goto (tgt := 18) hx hb dL_law_794 (by decide) ?_
      refine W.widen (k := 61 + 26 * (i + 1)) (n := 184472 + 1732 * (i + 1)) (by omega) (by omega) ?_
      exact ih (i + 1) (by omega) (by omega) K1 ad1 M1 H1 locs1 ls (by rw [show 1000 * (i + 1) = 1000 * i + 1000 by omega]; exact hI1) hw1 (lv_sub hl [1, 2, 3, 0] rfl)
