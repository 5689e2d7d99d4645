/-! CALLS that may make a moment; moments that are the same -/
section KIT5
variable {p : Program} {l : Launch} {e : Env} {R : Room} {s : State} {m : MethodId} {args : Array Value} {below : List Frame} {meth : Method} {c : Code} {H : Heap} {locs : List Loc} {cells slots : Nat} {Q : State → Prop}
variable {cc : ByteArray} {pc nL : Nat} {ls : Array Slot} {rest st0 : List Value} {own : String} {G : GT} {K : Nat} {ad : Nat → Nat} {M : Mem}
theorem a_VR {y : MethodName} {cd : ByteArray} {mL fr lo mc ms index P : Nat} {rt : FieldType} {As : List Value} {post : Sa → Prop} (S : CallFix p m c cc nL s args TB own) (hw : Wd G (61 + 13 * K) K ad M s H locs) (hM : CaR l G K ad y cd mL rt fr lo mc ms (.ref (ad 0) :: As) M P post)
    (mf : MFv y cd mL (some rt) RX7 As.length) (hlk : Cond.methodLink own index y ∈ TB) (hR : fr + 1 ≤ R.frames ∧ 8 + (mL + 11) + lo ≤ R.locals) (hcs : cells + mc ≤ R.cells ∧ slots + ms ≤ R.slots) (hls : ls.size = nL) (hst : st0 = As.reverse ++ .ref (ad 0) :: rest) (hrest : (rest.map fun v => v.category).sum ≤ 8) (hdg : decode cc pc = .ok (.invokevirtual index, 3))
    (kk : ∀ (K1 : Nat) (ad1 : Nat → Nat) (M1 : Mem) (H1 : Heap) (locs1 : List Loc), post (K1, ad1, M1) → Wd G (61 + 13 * K1) K1 ad1 M1 s H1 locs1 → W p l e R s m args below meth c H1 locs1 (cells + mc) (slots + ms) Q (F0 m (pc + 3) ls (.ref (ad1 (61 + 13 * P)) :: rest))) : W p l e R s m args below meth c H locs cells slots Q (F0 m pc ls st0) := by
  subst hst
  refine va_callr (va_runV (As := As) (rest := rest) (b := ad 0) S hM ⟨c_B S mf.1 mf.2.2.2.1 mf.2.2.2.2 hlk hR, S.2.2.2.2 _ mf.2.1, S.2.2.2.2 _ mf.2.2.1⟩ ⟨blindG, g_recv hw 0 (by omega) (cell_O rfl) rfl, fun U hU hW => ⟨rfl, hw.at hU hW⟩⟩ rfl rfl hls rfl (lv_room hrest) hdg hcs) hw.2.2.1 (fun _ _ h => h) (fun _ h => h) (fun u ra t H1 locs1 ht hvm hp hB hz hk hS => ?_)
  obtain ⟨K1, ad1, M1⟩ := u
  rw [hB.1]
  exact kk K1 ad1 M1 H1 locs1 hp ⟨by rw [← ht]; exact hB.2.2.1, hB.2.2.2.1, hS, hw.2.2.2⟩
theorem a_VI {y : MethodName} {cd : ByteArray} {mL fr lo mc ms index : Nat} {ty : FieldType} {As : List Value} {post : Int32 → Sa → Prop} (S : CallFix p m c cc nL s args TB own) (hw : Wd G (61 + 13 * K) K ad M s H locs) (hM : CaI l G K ad y cd mL ty fr lo mc ms (.ref (ad 0) :: As) M post)
    (mf : MFv y cd mL (some ty) RX7 As.length) (hlk : Cond.methodLink own index y ∈ TB) (hR : fr + 1 ≤ R.frames ∧ 8 + (mL + 11) + lo ≤ R.locals) (hcs : cells + mc ≤ R.cells ∧ slots + ms ≤ R.slots) (hls : ls.size = nL) (hst : st0 = As.reverse ++ .ref (ad 0) :: rest) (hrest : (rest.map fun v => v.category).sum ≤ 8) (hdg : decode cc pc = .ok (.invokevirtual index, 3))
    (kk : ∀ (r : Int32) (K1 : Nat) (ad1 : Nat → Nat) (M1 : Mem) (H1 : Heap) (locs1 : List Loc), post r (K1, ad1, M1) → Wd G (61 + 13 * K1) K1 ad1 M1 s H1 locs1 → W p l e R s m args below meth c H1 locs1 (cells + mc) (slots + ms) Q (F0 m (pc + 3) ls (.int r :: rest))) : W p l e R s m args below meth c H locs cells slots Q (F0 m pc ls st0) :=
  g_cVI (SS := Sa) (fN := fun u => 61 + 13 * u.1) (fa := fun u => u.2.1) (fC := fun u => cellOf G u.1 u.2.1 u.2.2) S hw 0 (by omega) (cell_O rfl) rfl hM mf hlk hR hcs hls hst hrest hdg (fun r u H1 locs1 hp h => kk r u.1 u.2.1 u.2.2 H1 locs1 hp h)
theorem q_reti {post : Int32 → Sa → Prop} {v : Int32} {mc ms : Nat} (S : CallFix p m c cc nL s args TB own) (hr : meth.sig.returnType = some .int) (hlocks : meth.locks = false) (hw : Wd G (61 + 13 * K) K ad M s H locs) (hdg : decode cc pc = .ok (.ireturn, 1)) (hc : cells ≤ mc ∧ slots ≤ ms) (hp : post v (K, ad, M)) :
    W p l e R s m args below meth c H locs cells slots (MQ below (va_Qi post (HdA G) (fun q => G.1 ≤ q)) args s mc ms (fun q => G.1 ≤ q)) (F0 m pc ls [.int v]) :=
  a_reti S hr hlocks hw hc.1 hc.2 hdg hp
end KIT5
abbrev mom (M : Mem) (mb : Nat) : Mem := fun r => M (mb + r)
/-- R' says of a moment what R does, of n measures and bn batches -/
def MoA (n bn : Nat) (R R' : Mem) : Prop := R' 0 0 = R 0 0 ∧ R' 0 1 = R 0 1 ∧ R' 0 2 = nI bn ∧ R' 1 0 = nI n ∧ FA n (R' 2) (R 2) ∧ FA n (R' 3) (R 3) ∧ FA n (R' 4) (R 4) ∧ FA n (R' 5) (R 5) ∧ FA 48 (R' 7) (R 7) ∧ FA 48 (R' 8) (R 8) ∧ FA 48 (R' 9) (R 9) ∧ FA 6 (R' 10) (R 10) ∧ FA bn (R' 11) (R 11) ∧ FA 20 (R' 12) (R 12)
theorem fa_cpy (f g : Nat → Int32) (n : Nat) {h : Nat → Int32} (e : h = va_cpy f g 0 0 n) : FA n h f := fun j hj => by rw [e]; exact cpy_0 hj
theorem copy_mo {M M1 : Mem} {mb mo n bn : Nat} (h : M1 mb 0 = M mo 0 ∧ M1 mb 1 = M mo 1 ∧ M1 mb 2 = nI bn ∧ M1 (mb + 1) = (upd (M (mb + 1)) 0 (nI n)) ∧ M1 (mb + 2) = (va_cpy (M (mo + 2)) (M (mb + 2)) 0 0 n) ∧ M1 (mb + 3) = (va_cpy (M (mo + 3)) (M (mb + 3)) 0 0 n) ∧ M1 (mb + 4) = (va_cpy (M (mo + 4)) (M (mb + 4)) 0 0 n) ∧ M1 (mb + 5) = (va_cpy (M (mo + 5)) (M (mb + 5)) 0 0 n) ∧ M1 (mb + 7) = (va_cpy (M (mo + 7)) (M (mb + 7)) 0 0 48) ∧ M1 (mb + 8) = (va_cpy (M (mo + 8)) (M (mb + 8)) 0 0 48) ∧ M1 (mb + 9) = (va_cpy (M (mo + 9)) (M (mb + 9)) 0 0 48) ∧ M1 (mb + 10) = (va_cpy (M (mo + 10)) (M (mb + 10)) 0 0 6) ∧ M1 (mb + 11) = (va_cpy (M (mo + 11)) (M (mb + 11)) 0 0 bn) ∧ M1 (mb + 12) = (va_cpy (M (mo + 12)) (M (mb + 12)) 0 0 20) ∧ Fr mb (mb + 13) M M1) : MoA n bn (mom M mo) (mom M1 mb) := by
  obtain ⟨h0, h1, h2, h3, h4, h5, h6, h7, h8, h9, h10, h11, h12, h13, _⟩ := h
  exact ⟨h0, h1, h2, by show M1 (mb + 1) 0 = _; rw [h3, pk_us], fa_cpy _ _ _ h4, fa_cpy _ _ _ h5, fa_cpy _ _ _ h6, fa_cpy _ _ _ h7, fa_cpy _ _ _ h8, fa_cpy _ _ _ h9, fa_cpy _ _ _ h10, fa_cpy _ _ _ h11, fa_cpy _ _ _ h12, fa_cpy _ _ _ h13⟩
theorem FA.tr {n : Nat} {f g h : Nat → Int32} (a : FA n f g) (b : FA n g h) : FA n f h := fun j hj => (a j hj).trans (b j hj)
theorem FA.rf {n : Nat} {f : Nat → Int32} : FA n f f := fun _ _ => rfl
theorem FA.sy {n : Nat} {f g : Nat → Int32} (a : FA n f g) : FA n g f := fun j hj => (a j hj).symm
theorem FA.le {n m : Nat} {f g : Nat → Int32} (a : FA n f g) (h : m ≤ n) : FA m f g := fun j hj => a j (by omega)
theorem MoA.tr {n bn : Nat} {R R1 R2 : Mem} (a : MoA n bn R R1) (b : MoA n bn R1 R2) : MoA n bn R R2 := by
  obtain ⟨a0, a1, a2, a3, a4, a5, a6, a7, a8, a9, a10, a11, a12, a13⟩ := a
  obtain ⟨b0, b1, b2, b3, b4, b5, b6, b7, b8, b9, b10, b11, b12, b13⟩ := b
  exact ⟨b0.trans a0, b1.trans a1, b2, b3, b4.tr a4, b5.tr a5, b6.tr a6, b7.tr a7, b8.tr a8, b9.tr a9, b10.tr a10, b11.tr a11, b12.tr a12, b13.tr a13⟩
theorem MoA.to {n bn : Nat} {R R1 R2 R3 : Mem} (a : MoA n bn R R1) (h : ∀ r, r < 13 → R2 r = R r) (h' : ∀ r, r < 13 → R3 r = R1 r) : MoA n bn R2 R3 := by
  unfold MoA at a ⊢
  rw [h 0 (by decide), h 2 (by decide), h 3 (by decide), h 4 (by decide), h 5 (by decide), h 7 (by decide), h 8 (by decide), h 9 (by decide), h 10 (by decide), h 11 (by decide), h 12 (by decide), h' 0 (by decide), h' 1 (by decide), h' 2 (by decide), h' 3 (by decide), h' 4 (by decide), h' 5 (by decide), h' 7 (by decide), h' 8 (by decide), h' 9 (by decide), h' 10 (by decide), h' 11 (by decide), h' 12 (by decide)]
  exact a
theorem VR.rows {n a b : Nat} {R R' : Mem} (h : VR n a R) (hab : a ≤ b) (e2 : R' 2 = R 2) (e3 : R' 3 = R 3) (e4 : R' 4 = R 4) : VR n b R' := by
  have h := VR.mono h hab
  unfold VR at h ⊢
  rw [e2, e3, e4]
  exact h
theorem VK.none {n bn k : Nat} {R : Mem} (h : VR n bn R) (hb : bn ≤ 200) : VK n bn k R := fun j hj _ e => by
  have h2 := h.1 j hj
  rw [e, inB_nI (by omega)] at h2
  simp at h2
/-- a step looks at no other tables -/
theorem step_T {mf : (Nat → Int32) → (Nat → Int32) → Nat → Nat → Pst → Pst} {T T' : Mem} (h : ∀ i, i < 61 → T' i = T i) (lo hi src d k bn n : Nat) (R : Mem) : stepS mf T' lo hi src d k bn n R = stepS mf T lo hi src d k bn n R := by
  have e2 := h 2 (by decide)
  have e3 := h 3 (by decide)
  have e4 := h 4 (by decide)
  have e9 := h 9 (by decide)
  have e10 := h 10 (by decide)
  have e11 := h 11 (by decide)
  have hs : ∀ R d m, sinkS T' R d m = sinkS T R d m := fun R d m => by simp only [sinkS, e4, e9]
  have ho : ∀ R d m, outR T' R d m = outR T R d m := fun R d m => by funext r; simp only [outR, hs]
  have hm : ∀ lo hi R, mixR mf T' lo hi R = mixR mf T lo hi R := fun lo hi R => by funext r; simp only [mixR, e3]
  have hg : goR mf T' lo hi src d k bn R = goR mf T lo hi src d k bn R := by simp only [goR, ho, hm]
  have hd : dryB T' R src = dryB T R src := by simp only [dryB, e9, e10]
  have hf : ∀ s, fullB T' R s = fullB T R s := fun s => by cases s <;> simp only [fullB, e11]
  have hw : ∀ R, wrongB T' R n lo hi = wrongB T R n lo hi := fun R => by simp only [wrongB, e2]
  simp only [stepS, hs, hg, hd, hf, hw]
theorem flow_T {mf : (Nat → Int32) → (Nat → Int32) → Nat → Nat → Pst → Pst} {T T' : Mem} (h : ∀ i, i < 61 → T' i = T i) (lo hi src d k bn n : Nat) : ∀ (c : Nat) (R : Mem), flowS mf T' lo hi src d k bn n c R = flowS mf T lo hi src d k bn n c R
  | 0, R => rfl
  | c + 1, R => by rw [flowS, flowS, step_T h, flow_T h lo hi src d k bn n c]
