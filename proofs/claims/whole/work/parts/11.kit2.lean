/-! CALLS over the flat world -/
theorem blindG {G : GT} {N : Nat} {ad : Nat → Nat} {C : Nat → va_E} {av : List Value} : FrameBlind (va_Pc av (Hg G N ad C)) := fun _ _ _ _ q => ⟨q.1, q.2.blind⟩
section KIT2
variable {p : Program} {l : Launch} {e : Env} {R : Room} {s : State} {m : MethodId} {args : Array Value} {below : List Frame} {meth : Method} {c : Code} {H : Heap} {locs : List Loc} {cells slots : Nat} {Q : State → Prop}
variable {cc : ByteArray} {pc nL : Nat} {ls : Array Slot} {rest st0 : List Value} {own : String} {G : GT} {N : Nat} {ad : Nat → Nat} {C : Nat → va_E}
variable {SS : Type} {fN : SS → Nat} {fa : SS → Nat → Nat} {fC : SS → Nat → va_E} {y : MethodName} {cd : ByteArray} {mL fr lo mc ms index : Nat} {As : List Value}
theorem c_B {ret : Option FieldType} (S : CallFix p m c cc nL s args TB own) (hcode : Cond.code y cd mL ret ∈ TB) (hini : Cond.initialized y.cls ∈ TB) {n : Nat} (hd : y.cls ≠ "java/lang/invoke/MethodHandle" ∧ y.cls ≠ "java/lang/invoke/VarHandle" ∧ (parseMethodDescriptor y.desc).map (fun d => d.parameters.length) = some n) (hlk : Cond.methodLink own index y ∈ TB) (hR : fr + 1 ≤ R.frames ∧ 8 + (mL + 11) + lo ≤ R.locals) :
    CallB R s args own index y cd mL ret (Cond.code y cd mL ret :: TB) { frames := fr, cells := mc, slots := ms, locals := lo } mc ms n :=
  callB_of n S.2.2.2.2 (tbG hcode) rfl rfl rfl (S.2.2.2.2 _ hini) (S.2.2.2.2 _ hlk) hd hR
theorem c_N {ret : Option FieldType} (S : CallFix p m c cc nL s args TB own) (hn : NL s) (hcode : Cond.code y cd mL ret ∈ TB) (hini : Cond.initialized y.cls ∈ TB) {n : Nat} (hd : y.cls ≠ "java/lang/invoke/MethodHandle" ∧ y.cls ≠ "java/lang/invoke/VarHandle" ∧ (parseMethodDescriptor y.desc).map (fun d => d.parameters.length) = some n) (hlk : (own, index, y) ∈ nests) (hR : fr + 1 ≤ R.frames ∧ 8 + (mL + 11) + lo ≤ R.locals) :
    va_CN R s args own index y "OilLine" cd mL ret (Cond.code y cd mL ret :: TB) { frames := fr, cells := mc, slots := ms, locals := lo } mc ms n :=
  va_cnB n S.2.2.2.2 (tbG hcode) rfl rfl rfl (hn.1 _ hlk) (S.2.2.2.2 _ hini) hd hR
theorem g_goI {post : Int32 → SS → Prop} {a : Array Value} (hw : Wg G N ad C s H locs) (hr : va_Run p l e R s m args below meth c H locs cells slots mc ms (F0 m pc ls st0) rest (va_Qi post (fun u t => Hg G (fN u) (fa u) (fC u) t) (fun q => G.1 ≤ q) a) (fun q => G.1 ≤ q))
    (kk : ∀ (r : Int32) (u : SS) (H1 : Heap) (locs1 : List Loc), post r u → Wg G (fN u) (fa u) (fC u) s H1 locs1 → W p l e R s m args below meth c H1 locs1 (cells + mc) (slots + ms) Q (F0 m (pc + 3) ls (.int r :: rest))) : W p l e R s m args below meth c H locs cells slots Q (F0 m pc ls st0) :=
  va_calli hr hw.2.2.1 (fun _ _ h => h) (fun _ h => h) (fun r u t H1 locs1 ht hvm hp hB hz hk hS => kk r u H1 locs1 hp ⟨by rw [← ht]; exact hB.2.1, hB.2.2.1, hS, hw.2.2.2⟩)
theorem g_goV {post : SS → Prop} {a : Array Value} (hw : Wg G N ad C s H locs) (hr : va_Run p l e R s m args below meth c H locs cells slots mc ms (F0 m pc ls st0) rest (va_Qv post (fun u t => Hg G (fN u) (fa u) (fC u) t) (fun q => G.1 ≤ q) a) (fun q => G.1 ≤ q))
    (kk : ∀ (u : SS) (H1 : Heap) (locs1 : List Loc), post u → Wg G (fN u) (fa u) (fC u) s H1 locs1 → W p l e R s m args below meth c H1 locs1 (cells + mc) (slots + ms) Q (F0 m (pc + 3) ls rest)) : W p l e R s m args below meth c H locs cells slots Q (F0 m pc ls st0) :=
  va_callv hr hw.2.2.1 (fun _ _ h => h) (fun _ h => h) (fun u t H1 locs1 ht hvm hp hB hz hk hS => kk u H1 locs1 hp ⟨by rw [← ht]; exact hB.2.1, hB.2.2.1, hS, hw.2.2.2⟩)
theorem g_recv (hw : Wg G N ad C s H locs) (k : Nat) (hk : k < N) {ci : Nat} {fs : List Value} (hC : C k = .inr (ci, fs)) {Cn : String} {T : u_T} {NN : Nat} (hcl : vwCl[ci]? = some (Cn, T, NN)) : ∃ cell : Cell, H[ad k]? = some cell ∧ cell.vm.isStatics = false ∧ s.vm.findClass Cn = some cell.cls :=
  va_recv (q := (Cn, T, NN)) hw.2.2.2.1 hw.1 hcl (q0 := k) (fs := fs) (by rw [wl_get hk, hC])
/-- invokevirtual, an int back -/
theorem g_cVI {ty : FieldType} {post : Int32 → SS → Prop} (S : CallFix p m c cc nL s args TB own) (hw : Wg G N ad C s H locs) (k : Nat) (hk : k < N) {ci : Nat} {fs : List Value} (hC : C k = .inr (ci, fs)) {Cn : String} {T : u_T} {NN : Nat} (hcl : vwCl[ci]? = some (Cn, T, NN))
    (hM : Met l y (.code y cd mL (some ty) :: TB) { frames := fr, cells := mc, slots := ms, locals := lo } (va_Pc (.ref (ad k) :: As) (Hg G N ad C)) (va_Qi post (fun u t => Hg G (fN u) (fa u) (fC u) t) (fun q => G.1 ≤ q)) mc ms (fun q => G.1 ≤ q))
    (mf : MFv y cd mL (some ty) Cn As.length) (hlk : Cond.methodLink own index y ∈ TB) (hR : fr + 1 ≤ R.frames ∧ 8 + (mL + 11) + lo ≤ R.locals) (hcs : cells + mc ≤ R.cells ∧ slots + ms ≤ R.slots) (hls : ls.size = nL) (hst : st0 = As.reverse ++ .ref (ad k) :: rest) (hrest : (rest.map fun v => v.category).sum ≤ 8) (hdg : decode cc pc = .ok (.invokevirtual index, 3))
    (kk : ∀ (r : Int32) (u : SS) (H1 : Heap) (locs1 : List Loc), post r u → Wg G (fN u) (fa u) (fC u) s H1 locs1 → W p l e R s m args below meth c H1 locs1 (cells + mc) (slots + ms) Q (F0 m (pc + 3) ls (.int r :: rest))) : W p l e R s m args below meth c H locs cells slots Q (F0 m pc ls st0) := by
  subst hst
  exact g_goI hw (va_runV (As := As) (rest := rest) (b := ad k) S hM ⟨c_B S mf.1 mf.2.2.2.1 mf.2.2.2.2 hlk hR, S.2.2.2.2 _ mf.2.1, S.2.2.2.2 _ mf.2.2.1⟩ ⟨blindG, g_recv hw k hk hC hcl, fun U hU hW => ⟨rfl, hw.at hU hW⟩⟩ rfl rfl hls rfl (lv_room hrest) hdg hcs) kk
theorem g_cVV {post : SS → Prop} (S : CallFix p m c cc nL s args TB own) (hw : Wg G N ad C s H locs) (k : Nat) (hk : k < N) {ci : Nat} {fs : List Value} (hC : C k = .inr (ci, fs)) {Cn : String} {T : u_T} {NN : Nat} (hcl : vwCl[ci]? = some (Cn, T, NN))
    (hM : Met l y (.code y cd mL none :: TB) { frames := fr, cells := mc, slots := ms, locals := lo } (va_Pc (.ref (ad k) :: As) (Hg G N ad C)) (va_Qv post (fun u t => Hg G (fN u) (fa u) (fC u) t) (fun q => G.1 ≤ q)) mc ms (fun q => G.1 ≤ q))
    (mf : MFv y cd mL none Cn As.length) (hlk : Cond.methodLink own index y ∈ TB) (hR : fr + 1 ≤ R.frames ∧ 8 + (mL + 11) + lo ≤ R.locals) (hcs : cells + mc ≤ R.cells ∧ slots + ms ≤ R.slots) (hls : ls.size = nL) (hst : st0 = As.reverse ++ .ref (ad k) :: rest) (hrest : (rest.map fun v => v.category).sum ≤ 8) (hdg : decode cc pc = .ok (.invokevirtual index, 3))
    (kk : ∀ (u : SS) (H1 : Heap) (locs1 : List Loc), post u → Wg G (fN u) (fa u) (fC u) s H1 locs1 → W p l e R s m args below meth c H1 locs1 (cells + mc) (slots + ms) Q (F0 m (pc + 3) ls rest)) : W p l e R s m args below meth c H locs cells slots Q (F0 m pc ls st0) := by
  subst hst
  exact g_goV hw (va_runV (As := As) (rest := rest) (b := ad k) S hM ⟨c_B S mf.1 mf.2.2.2.1 mf.2.2.2.2 hlk hR, S.2.2.2.2 _ mf.2.1, S.2.2.2.2 _ mf.2.2.1⟩ ⟨blindG, g_recv hw k hk hC hcl, fun U hU hW => ⟨rfl, hw.at hU hW⟩⟩ rfl rfl hls rfl (lv_room hrest) hdg hcs) kk
/-- invokestatic -/
theorem g_cSI {ty : FieldType} {post : Int32 → SS → Prop} (S : CallFix p m c cc nL s args TB own) (hw : Wg G N ad C s H locs)
    (hM : Met l y (.code y cd mL (some ty) :: TB) { frames := fr, cells := mc, slots := ms, locals := lo } (va_Pc As (Hg G N ad C)) (va_Qi post (fun u t => Hg G (fN u) (fa u) (fC u) t) (fun q => G.1 ≤ q)) mc ms (fun q => G.1 ≤ q))
    (mf : MFs y cd mL (some ty) As.length) (hlk : Cond.methodLink own index y ∈ TB) (hR : fr + 1 ≤ R.frames ∧ 8 + (mL + 11) + lo ≤ R.locals) (hcs : cells + mc ≤ R.cells ∧ slots + ms ≤ R.slots) (hls : ls.size = nL) (hst : st0 = As.reverse ++ rest) (hrest : (rest.map fun v => v.category).sum ≤ 8) (hdg : decode cc pc = .ok (.invokestatic index, 3))
    (kk : ∀ (r : Int32) (u : SS) (H1 : Heap) (locs1 : List Loc), post r u → Wg G (fN u) (fa u) (fC u) s H1 locs1 → W p l e R s m args below meth c H1 locs1 (cells + mc) (slots + ms) Q (F0 m (pc + 3) ls (.int r :: rest))) : W p l e R s m args below meth c H locs cells slots Q (F0 m pc ls st0) := by
  subst hst
  exact g_goI hw (va_runS (As := As) (rest := rest) S hM ⟨c_B S mf.1 mf.2.2.1 mf.2.2.2 hlk hR, S.2.2.2.2 _ mf.2.1⟩ ⟨blindG, fun U hU hW => ⟨rfl, hw.at hU hW⟩⟩ rfl rfl hls rfl (lv_room hrest) hdg hcs) kk
theorem g_cSV {post : SS → Prop} (S : CallFix p m c cc nL s args TB own) (hw : Wg G N ad C s H locs)
    (hM : Met l y (.code y cd mL none :: TB) { frames := fr, cells := mc, slots := ms, locals := lo } (va_Pc As (Hg G N ad C)) (va_Qv post (fun u t => Hg G (fN u) (fa u) (fC u) t) (fun q => G.1 ≤ q)) mc ms (fun q => G.1 ≤ q))
    (mf : MFs y cd mL none As.length) (hlk : Cond.methodLink own index y ∈ TB) (hR : fr + 1 ≤ R.frames ∧ 8 + (mL + 11) + lo ≤ R.locals) (hcs : cells + mc ≤ R.cells ∧ slots + ms ≤ R.slots) (hls : ls.size = nL) (hst : st0 = As.reverse ++ rest) (hrest : (rest.map fun v => v.category).sum ≤ 8) (hdg : decode cc pc = .ok (.invokestatic index, 3))
    (kk : ∀ (u : SS) (H1 : Heap) (locs1 : List Loc), post u → Wg G (fN u) (fa u) (fC u) s H1 locs1 → W p l e R s m args below meth c H1 locs1 (cells + mc) (slots + ms) Q (F0 m (pc + 3) ls rest)) : W p l e R s m args below meth c H locs cells slots Q (F0 m pc ls st0) := by
  subst hst
  exact g_goV hw (va_runS (As := As) (rest := rest) S hM ⟨c_B S mf.1 mf.2.2.1 mf.2.2.2 hlk hR, S.2.2.2.2 _ mf.2.1⟩ ⟨blindG, fun U hU hW => ⟨rfl, hw.at hU hW⟩⟩ rfl rfl hls rfl (lv_room hrest) hdg hcs) kk
/-- invokestatic of a nest mate's private method -/
theorem g_cNI {ty : FieldType} {post : Int32 → SS → Prop} (S : CallFix p m c cc nL s args TB own) (hw : Wg G N ad C s H locs)
    (hM : Met l y (.code y cd mL (some ty) :: TB) { frames := fr, cells := mc, slots := ms, locals := lo } (va_Pc As (Hg G N ad C)) (va_Qi post (fun u t => Hg G (fN u) (fa u) (fC u) t) (fun q => G.1 ≤ q)) mc ms (fun q => G.1 ≤ q))
    (mf : MFs y cd mL (some ty) As.length) (hlk : (own, index, y) ∈ nests) (hR : fr + 1 ≤ R.frames ∧ 8 + (mL + 11) + lo ≤ R.locals) (hcs : cells + mc ≤ R.cells ∧ slots + ms ≤ R.slots) (hls : ls.size = nL) (hst : st0 = As.reverse ++ rest) (hrest : (rest.map fun v => v.category).sum ≤ 8) (hdg : decode cc pc = .ok (.invokestatic index, 3))
    (kk : ∀ (r : Int32) (u : SS) (H1 : Heap) (locs1 : List Loc), post r u → Wg G (fN u) (fa u) (fC u) s H1 locs1 → W p l e R s m args below meth c H1 locs1 (cells + mc) (slots + ms) Q (F0 m (pc + 3) ls (.int r :: rest))) : W p l e R s m args below meth c H locs cells slots Q (F0 m pc ls st0) := by
  subst hst
  exact g_goI hw (va_runSN (As := As) (rest := rest) S hM ⟨c_N S hw.2.2.2.2.1 mf.1 mf.2.2.1 mf.2.2.2 hlk hR, S.2.2.2.2 _ mf.2.1, trivial⟩ ⟨blindG, fun U hU hW => ⟨rfl, hw.at hU hW⟩⟩ rfl rfl hls rfl (lv_room hrest) hdg hcs) kk
/-- a constructor -/
theorem g_cI {post : SS → Prop} (S : CallFix p m c cc nL s args TB own) (hw : Wg G N ad C s H locs) {a : Nat}
    (hM : Met l y (.code y cd mL none :: TB) { frames := fr, cells := mc, slots := ms, locals := lo } (va_Pc (.ref a :: As) (Hg G N ad C)) (va_Qv post (fun u t => Hg G (fN u) (fa u) (fC u) t) (fun q => G.1 ≤ q)) mc ms (fun q => G.1 ≤ q))
    (mf : MFi y cd mL As.length) (hlk : Cond.methodLink own index y ∈ TB) (hR : fr + 1 ≤ R.frames ∧ 8 + (mL + 11) + lo ≤ R.locals) (hcs : cells + mc ≤ R.cells ∧ slots + ms ≤ R.slots) (hls : ls.size = nL) (hst : st0 = As.reverse ++ .ref a :: rest) (hrest : (rest.map fun v => v.category).sum ≤ 8) (hdg : decode cc pc = .ok (.invokespecial index, 3))
    (kk : ∀ (u : SS) (H1 : Heap) (locs1 : List Loc), post u → Wg G (fN u) (fa u) (fC u) s H1 locs1 → W p l e R s m args below meth c H1 locs1 (cells + mc) (slots + ms) Q (F0 m (pc + 3) ls rest)) : W p l e R s m args below meth c H locs cells slots Q (F0 m pc ls st0) := by
  subst hst
  exact g_goV hw (va_runI (As := As) (rest := rest) (b := a) S hM ⟨c_B S mf.1 mf.2.2.1 mf.2.2.2.2 hlk hR, mf.2.2.2.1, S.2.2.2.2 _ mf.2.1⟩ ⟨blindG, fun U hU hW => ⟨rfl, hw.at hU hW⟩⟩ rfl rfl hls rfl (lv_room hrest) hdg hcs) kk
theorem g_cIN {post : SS → Prop} (S : CallFix p m c cc nL s args TB own) (hw : Wg G N ad C s H locs) {a : Nat}
    (hM : Met l y (.code y cd mL none :: TB) { frames := fr, cells := mc, slots := ms, locals := lo } (va_Pc (.ref a :: As) (Hg G N ad C)) (va_Qv post (fun u t => Hg G (fN u) (fa u) (fC u) t) (fun q => G.1 ≤ q)) mc ms (fun q => G.1 ≤ q))
    (mf : MFi y cd mL As.length) (hlk : (own, index, y) ∈ nests) (hR : fr + 1 ≤ R.frames ∧ 8 + (mL + 11) + lo ≤ R.locals) (hcs : cells + mc ≤ R.cells ∧ slots + ms ≤ R.slots) (hls : ls.size = nL) (hst : st0 = As.reverse ++ .ref a :: rest) (hrest : (rest.map fun v => v.category).sum ≤ 8) (hdg : decode cc pc = .ok (.invokespecial index, 3))
    (kk : ∀ (u : SS) (H1 : Heap) (locs1 : List Loc), post u → Wg G (fN u) (fa u) (fC u) s H1 locs1 → W p l e R s m args below meth c H1 locs1 (cells + mc) (slots + ms) Q (F0 m (pc + 3) ls rest)) : W p l e R s m args below meth c H locs cells slots Q (F0 m pc ls st0) := by
  subst hst
  exact g_goV hw (va_runIN (As := As) (rest := rest) (b := a) S hM ⟨c_N S hw.2.2.2.2.1 mf.1 mf.2.2.1 mf.2.2.2.2 hlk hR, mf.2.2.2.1, S.2.2.2.2 _ mf.2.1⟩ ⟨blindG, fun U hU hW => ⟨rfl, hw.at hU hW⟩⟩ rfl rfl hls rfl (lv_room hrest) hdg hcs) kk
/-- makings -/
theorem g_new (S : CallFix p m c cc nL s args TB own) (hw : Wg G N ad C s H locs) {Cn : String} {T : u_T} {NN ci : Nat} (hcl : vwCl[ci]? = some (Cn, T, NN)) (hin : ∀ w ∈ u_ws Cn T NN, w ∈ TB) {ty : Nat → FieldType} (hty : ∀ k, k < NN → parseFieldDescriptor (T k).2.2.1 = some (ty k)) (hck : Cond.classLink own index Cn ∈ TB) (hinst : Cond.instantiable Cn NN ∈ TB) (hini : Cond.initialized Cn ∈ TB) {fs : List Value} (hfs : ∀ j, j < NN → defaultValue (ty j) = vp_V fs j) (hcells : cells + 1 ≤ R.cells) (hslots : slots + NN ≤ R.slots) (hdg : decode cc pc = .ok (.new index, 3))
    (kk : ∀ (q : Nat) (H1 : Heap), Wg G (N + 1) (va_up ad N q) (va_up C N (.inr (ci, fs))) s H1 locs → W p l e R s m args below meth c H1 locs (cells + 1) (slots + NN) Q (F0 m (pc + 3) ls (.ref q :: rest))) : W p l e R s m args below meth c H locs cells slots Q (F0 m pc ls rest) := by
  refine va_new (ci := ci) (fs := fs) (C := Cn) (T := T) (N := NN) S.1 S.2.1 S.2.2.2.2 hin ty hty S.2.2.2.1 (S.2.2.2.2 _ hck) (S.2.2.2.2 _ hinst) (S.2.2.2.2 _ hini) hw.2.2.2.1 hw.1 hw.2.1 hw.2.2.1 hw.hA hcl hfs hcells hslots hdg (fun q H1 hP hD hS => ?_)
  rw [wl_push] at hP hD
  exact kk q H1 ⟨hP, hD, hS, hw.2.2.2⟩
theorem g_newI (S : CallFix p m c cc nL s args TB own) (hw : Wg G N ad C s H locs) {n : Int32} {N' : Nat} (hn : ¬ n < 0) (hN : n.toNatClampNeg = N') (hbytes : N' * componentBytes .int ≤ 536870912) (hcells : cells + 1 ≤ R.cells) (hslots : slots + N' ≤ R.slots) {at_ : ArrayType} (hat : newarray.typeOf at_ = .int) (hdg : decode cc pc = .ok (.newarray at_, 2))
    (kk : ∀ (q : Nat) (H1 : Heap), Wg G (N + 1) (va_up ad N q) (va_up C N (.inl (G.2.2.1, N', .inl (fun _ => 0)))) s H1 locs → W p l e R s m args below meth c H1 locs (cells + 1) (slots + N') Q (F0 m (pc + 2) ls (.ref q :: rest))) : W p l e R s m args below meth c H locs cells slots Q (F0 m pc ls (.int n :: rest)) := by
  refine va_newa (a0 := (N', .inl (fun _ => 0))) (ty := .int) S.1 S.2.1 (by rw [hat]; exact S.2.2.2.2 _ wA_I) hat hw.2.2.2.1 hw.1 hw.2.1 hw.2.2.1 hw.hA (fun cA => rfl) hn hN hbytes hcells hslots hdg (fun q cA H1 hK hP hD hS => ?_)
  have e : cA = G.2.2.1 := by
    have h1 := (hK.2 3 (cA, .int) rfl).2
    have h2 := (hw.2.2.2.1.2 0 (G.2.2.1, .int) rfl).2
    exact Option.some.inj ((show s.vm.findClass _ = some cA from h1).symm.trans (show s.vm.findClass _ = some G.2.2.1 from h2))
  subst e
  rw [wl_push] at hP hD
  exact kk q H1 ⟨hP, hD, hS, hw.2.2.2⟩
theorem g_newZ (S : CallFix p m c cc nL s args TB own) (hw : Wg G N ad C s H locs) {n : Int32} {N' : Nat} (hn : ¬ n < 0) (hN : n.toNatClampNeg = N') (hbytes : N' * componentBytes .boolean ≤ 536870912) (hcells : cells + 1 ≤ R.cells) (hslots : slots + N' ≤ R.slots) {at_ : ArrayType} (hat : newarray.typeOf at_ = .boolean) (hdg : decode cc pc = .ok (.newarray at_, 2))
    (kk : ∀ (q : Nat) (H1 : Heap), Wg G (N + 1) (va_up ad N q) (va_up C N (.inl (G.2.2.2.1, N', .inl (fun _ => 0)))) s H1 locs → W p l e R s m args below meth c H1 locs (cells + 1) (slots + N') Q (F0 m (pc + 2) ls (.ref q :: rest))) : W p l e R s m args below meth c H locs cells slots Q (F0 m pc ls (.int n :: rest)) := by
  refine va_newa (a0 := (N', .inl (fun _ => 0))) (ty := .boolean) S.1 S.2.1 (by rw [hat]; exact S.2.2.2.2 _ wA_Z) hat hw.2.2.2.1 hw.1 hw.2.1 hw.2.2.1 hw.hA (fun cA => rfl) hn hN hbytes hcells hslots hdg (fun q cA H1 hK hP hD hS => ?_)
  have e : cA = G.2.2.2.1 := by
    have h1 := (hK.2 3 (cA, .boolean) rfl).2
    have h2 := (hw.2.2.2.1.2 1 (G.2.2.2.1, .boolean) rfl).2
    exact Option.some.inj ((show s.vm.findClass _ = some cA from h1).symm.trans (show s.vm.findClass _ = some G.2.2.2.1 from h2))
  subst e
  rw [wl_push] at hP hD
  exact kk q H1 ⟨hP, hD, hS, hw.2.2.2⟩
theorem g_newM (S : CallFix p m c cc nL s args TB own) (hw : Wg G N ad C s H locs) {n : Int32} {N' : Nat} (hck : Cond.classLink own index "OilLine$Moment" ∈ TB) (hn : ¬ n < 0) (hN : n.toNatClampNeg = N') (hbytes : N' * 4 ≤ 536870912) (hcells : cells + 1 ≤ R.cells) (hslots : slots + N' ≤ R.slots) (hdg : decode cc pc = .ok (.anewarray index, 3))
    (kk : ∀ (q : Nat) (H1 : Heap), Wg G (N + 1) (va_up ad N q) (va_up C N (.inl (G.2.2.2.2, N', .inr (.inr (.inr (.inr (fun _ => none))))))) s H1 locs → W p l e R s m args below meth c H1 locs (cells + 1) (slots + N') Q (F0 m (pc + 3) ls (.ref q :: rest))) : W p l e R s m args below meth c H locs cells slots Q (F0 m pc ls (.int n :: rest)) := by
  refine va_newq S.1 S.2.1 S.2.2.2.1 (S.2.2.2.2 _ hck) hw.2.2.2.2.1.2 hw.2.2.2.1 hw.1 hw.2.1 hw.2.2.1 hw.hA hn hN hbytes hcells hslots hdg (fun q cA H1 hK hP hD hS => ?_)
  have e : cA = G.2.2.2.2 := by
    obtain ⟨_, _, -, -, -, h1⟩ := (hK.2 3 (cA, .object "OilLine$Moment") rfl).2
    obtain ⟨_, _, -, -, -, h2⟩ := (hw.2.2.2.1.2 2 (G.2.2.2.2, .object "OilLine$Moment") rfl).2
    exact Option.some.inj (h1.symm.trans h2)
  subst e
  rw [wl_push] at hP hD
  exact kk q H1 ⟨hP, hD, hS, hw.2.2.2⟩
/-- the array of references -/
theorem g_qld (S : CallFix p m c cc nL s args TB own) (hw : Wg G N ad C s H locs) (k : Nat) (hk : k < N) {n : Nat} {f : Nat → Option Nat} (hC : C k = .inl (G.2.2.2.2, n, .inr (.inr (.inr (.inr f))))) {i : Int32} (hi : vp_in i n) (hdg : decode cc pc = .ok (.aaload, 1))
    (kk : W p l e R s m args below meth c H locs cells slots Q (F0 m (pc + 1) ls (va_rf (f i.toNatClampNeg) :: rest))) : W p l e R s m args below meth c H locs cells slots Q (F0 m pc ls (.int i :: .ref (ad k) :: rest)) :=
  va_aldq S.1 S.2.1 hw.2.2.2.1 hw.1 k 2 (by rw [wl_get hk, hC]) rfl hi hdg kk
theorem g_qst (S : CallFix p m c cc nL s args TB own) (hw : Wg G N ad C s H locs) (k : Nat) (hk : k < N) {n : Nat} {f : Nat → Option Nat} (hC : C k = .inl (G.2.2.2.2, n, .inr (.inr (.inr (.inr f))))) (t : Nat) (ht : t < N) {fs : List Value} (hCt : C t = .inr (1, fs)) {i : Int32} (hi : vp_in i n) (hdg : decode cc pc = .ok (.aastore, 1))
    (kk : ∀ (H1 : Heap) (locs1 : List Loc), Wg G N ad (va_up C k (.inl (G.2.2.2.2, n, .inr (.inr (.inr (.inr (va_up f i.toNatClampNeg (some (ad t))))))))) s H1 locs1 → W p l e R s m args below meth c H1 locs1 cells slots Q (F0 m (pc + 1) ls rest)) : W p l e R s m args below meth c H locs cells slots Q (F0 m pc ls (.ref (ad t) :: .int i :: .ref (ad k) :: rest)) := by
  refine va_astq (r := (RX1, TX1, 7)) S.1 S.2.1 hw.2.2.2.1 hw.1 hw.2.1 hw.2.2.1 k 2 t 1 (by rw [wl_get hk, hC]) rfl (by rw [wl_get ht, hCt]) rfl hi hdg (fun H1 locs1 hP hD hS => ?_)
  rw [wl_set _ hk] at hP hD
  exact kk H1 locs1 ⟨hP, hD, hS, hw.2.2.2⟩
/-- System.arraycopy of ints -/
theorem g_cpy (S : CallFix p m c cc nL s args TB own) (hls : ls.size = nL) (hlk : Cond.methodLink own index arraycopyName ∈ TB) (hw : Wg G N ad C s H locs) (k0 k1 : Nat) (hk0 : k0 < N) (hk1 : k1 < N) {n0 n1 : Nat} {f g : Nat → Int32} (hC0 : C k0 = .inl (G.2.2.1, n0, .inl f)) (hC1 : C k1 = .inl (G.2.2.1, n1, .inl g)) {sp dp n : Int32} (h1 : ¬ sp < 0) (h2 : ¬ dp < 0) (h3 : ¬ n < 0) (h4 : sp.toNatClampNeg + n.toNatClampNeg ≤ n0) (h5 : dp.toNatClampNeg + n.toNatClampNeg ≤ n1)
    (hframes : 1 ≤ R.frames) (hlocals : (rest.map fun v => v.category).sum + (nativeFrameWords "java/lang/System" "arraycopy" 5 + 11) ≤ R.locals) (hdg : decode cc pc = .ok (.invokestatic index, 3))
    (kk : ∀ (H1 : Heap) (locs1 : List Loc), Wg G N ad (va_up C k1 (.inl (G.2.2.1, n1, .inl (va_cpy f g sp.toNatClampNeg dp.toNatClampNeg n.toNatClampNeg)))) s H1 locs1 → W p l e R s m args below meth c H1 locs1 cells slots Q (F0 m (pc + 3) ls rest)) : W p l e R s m args below meth c H locs cells slots Q (F0 m pc ls (.int n :: .int dp :: .ref (ad k1) :: .int sp :: .ref (ad k0) :: rest)) := by
  refine va_copyi (ty := .int) S.1 S.2.1 (S.2.2.1.trans hls.symm) S.2.2.2.1 (S.2.2.2.2 _ hlk) (S.2.2.2.2 _ wa_acp) (S.2.2.2.2 _ wt_acp) (S.2.2.2.2 _ wn_J10) hw.2.2.2.1 hw.1 hw.2.1 hw.2.2.1 k0 k1 0 0 (by rw [wl_get hk0, hC0]) (by rw [wl_get hk1, hC1]) rfl rfl rfl h1 h2 h3 h4 h5 (fun _ _ => rfl) hframes hlocals hdg (fun H1 locs1 hP hD hS => ?_)
  rw [wl_set _ hk1] at hP hD
  exact kk H1 locs1 ⟨hP, hD, hS, hw.2.2.2⟩
end KIT2
