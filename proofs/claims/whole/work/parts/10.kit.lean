/-! THE FLAT WORLD: cells numbered in the order of their making; ad: their addresses; C: what they hold -/
abbrev Mem : Type := Nat → Nat → Int32
abbrev GT : Type := Nat × va_G × ClassId × ClassId × ClassId
def wl (N : Nat) (ad : Nat → Nat) (C : Nat → va_E) : va_W := (List.range N).map (fun i => (ad i, C i))
theorem wl_len (N : Nat) (ad : Nat → Nat) (C : Nat → va_E) : (wl N ad C).length = N := by simp [wl]
theorem wl_get {N k : Nat} {ad : Nat → Nat} {C : Nat → va_E} (h : k < N) : (wl N ad C)[k]? = some (ad k, C k) := by simp [wl, h]
theorem wl_set {N k : Nat} {ad : Nat → Nat} {C : Nat → va_E} (e : va_E) (h : k < N) : (wl N ad C).set k (ad k, e) = wl N ad (va_up C k e) := by
  apply List.ext_getElem?
  intro j
  by_cases hj : j = k
  · subst hj
    rw [List.getElem?_set_self (by rw [wl_len]; exact h), wl_get h, va_up_self]
  · rw [List.getElem?_set_ne (Ne.symm hj)]
    by_cases hN : j < N
    · rw [wl_get hN, wl_get hN, va_up_ne _ _ hj]
    · rw [List.getElem?_eq_none (by rw [wl_len]; omega), List.getElem?_eq_none (by rw [wl_len]; omega)]
theorem wl_push (N : Nat) (ad : Nat → Nat) (C : Nat → va_E) (q : Nat) (e : va_E) : wl N ad C ++ [(q, e)] = wl (N + 1) (va_up ad N q) (va_up C N e) := by
  apply List.ext_getElem?
  intro j
  by_cases hN : j < N
  · rw [List.getElem?_append_left (by rw [wl_len]; exact hN), wl_get hN, wl_get (by omega), va_up_ne _ _ (Nat.ne_of_lt hN), va_up_ne _ _ (Nat.ne_of_lt hN)]
  · rw [List.getElem?_append_right (by rw [wl_len]; omega), wl_len]
    by_cases hj : j = N
    · subst hj
      rw [wl_get (by omega), va_up_self, va_up_self, Nat.sub_self]
      rfl
    · rw [List.getElem?_eq_none (by simp; omega), List.getElem?_eq_none (by rw [wl_len]; omega)]
def tysG (G : GT) : List (ClassId × FieldType) := [(G.2.2.1, .int), (G.2.2.2.1, .boolean), (G.2.2.2.2, .object "OilLine$Moment")]
def nests : List (String × Nat × MethodName) := [(RX7, 18, yX0_init), (RX7, 25, yX6_init), (RX7, 32, yX3_init), (RX7, 46, yX1_init), (RX1, 23, yX2_init), (RX1, 30, yX4_init), (RX0, 32, yX7_within), (RX3, 25, yX7_tankNumber), (RX1, 141, yX7_tankNumber)]
def NL (U : State) : Prop := (∀ q ∈ nests, va_Nw (.methodLinkNest q.1 q.2.1 q.2.2 "OilLine") U) ∧ va_AO "OilLine$Moment" U
theorem NL.warm {s U : State} (hW : s.WarmedH U.vm) (h : NL s) : NL U := ⟨fun q hq => va_Nw.warmM hW (h.1 q hq), h.2.moved hW.alike⟩
theorem NL.same {s U : State} (hv : s.vm = U.vm) (h : NL s) : NL U := ⟨fun q hq => va_Nw.same rfl hv (h.1 q hq), h.2.moved (by rw [hv]; exact Vm.Alike.refl _)⟩
def Hg (G : GT) (N : Nat) (ad : Nat → Nat) (C : Nat → va_E) (U : State) : Prop := G.1 ≤ U.heap.size ∧ va_P G.2.1 vwCl (wl N ad C) U.heap ∧ va_D (fun q => G.1 ≤ q) (wl N ad C) ∧ va_K G.2.1 vwCl (tysG G) U ∧ NL U
def Wg (G : GT) (N : Nat) (ad : Nat → Nat) (C : Nat → va_E) (s : State) (H : Heap) (locs : List Loc) : Prop := va_P G.2.1 vwCl (wl N ad C) H ∧ va_D (fun q => G.1 ≤ q) (wl N ad C) ∧ va_S (fun q => G.1 ≤ q) s.heap H locs ∧ va_K G.2.1 vwCl (tysG G) s ∧ NL s ∧ G.1 ≤ s.heap.size
theorem Hg.start {G : GT} {N : Nat} {ad : Nat → Nat} {C : Nat → va_E} {s : State} (h : Hg G N ad C s) : Wg G N ad C s s.heap [] := ⟨h.2.1, h.2.2.1, va_S.rf, h.2.2.2.1, h.2.2.2.2, h.1⟩
theorem Wg.at {G : GT} {N : Nat} {ad : Nat → Nat} {C : Nat → va_E} {s U : State} {H : Heap} {locs : List Loc} (h : Wg G N ad C s H locs) (hU : U.heap = H) (hW : s.WarmedH U.vm) : Hg G N ad C U := ⟨by rw [hU]; exact Nat.le_trans h.2.2.2.2.2 h.2.2.1.1, by rw [hU]; exact h.1, h.2.1, va_K.moved hW.alike h.2.2.2.1, h.2.2.2.2.1.warm hW⟩
theorem Hg.blind {G : GT} {N : Nat} {ad : Nat → Nat} {C : Nat → va_E} {U : State} {g : JFrame} {mk : MethodId} {a : Array Value} (h : Hg G N ad C U) : Hg G N ad C (U.calling g mk a) := ⟨h.1, h.2.1, h.2.2.1, va_K.moved (u := U) (U := U.calling g mk a) (Vm.Alike.refl U.vm) h.2.2.2.1, h.2.2.2.2.same rfl⟩
theorem Wg.hA {G : GT} {N : Nat} {ad : Nat → Nat} {C : Nat → va_E} {s : State} {H : Heap} {locs : List Loc} (h : Wg G N ad C s H locs) : ∀ q, s.heap.size ≤ q → G.1 ≤ q := fun _ hq => Nat.le_trans h.2.2.2.2.2 hq
/-- another way to say the same content -/
theorem Wg.to {G : GT} {N N' : Nat} {ad ad' : Nat → Nat} {C C' : Nat → va_E} {s : State} {H : Heap} {locs : List Loc} (h : Wg G N ad C s H locs) (hN : N = N') (ha : ∀ i, i < N → ad i = ad' i) (hC : ∀ i, i < N → C i = C' i) : Wg G N' ad' C' s H locs := by
  subst hN
  have e : wl N ad C = wl N ad' C' := by
    unfold wl
    apply List.map_congr_left
    intro i hi
    have hi' := List.mem_range.mp hi
    rw [ha i hi', hC i hi']
  unfold Wg at h ⊢
  rw [← e]
  exact h
theorem Hg.to {G : GT} {N N' : Nat} {ad ad' : Nat → Nat} {C C' : Nat → va_E} {s : State} (h : Hg G N ad C s) (hN : N = N') (ha : ∀ i, i < N → ad i = ad' i) (hC : ∀ i, i < N → C i = C' i) : Hg G N' ad' C' s := by
  subst hN
  have e : wl N ad C = wl N ad' C' := by
    unfold wl
    apply List.map_congr_left
    intro i hi
    have hi' := List.mem_range.mp hi
    rw [ha i hi', hC i hi']
  unfold Hg at h ⊢
  rw [← e]
  exact h
/-- what a contract says: any state with the content, the arguments; it returns; the content then -/
abbrev St : Type := Nat × (Nat → Nat) × (Nat → va_E)
abbrev HgS (G : GT) (u : St) (t : State) : Prop := Hg G u.1 u.2.1 u.2.2 t
abbrev CgV (l : Launch) (G : GT) (y : MethodName) (cd : ByteArray) (mL fr lo mc ms : Nat) (av : List Value) (u : St) (post : St → Prop) : Prop := Met l y (.code y cd mL none :: TB) { frames := fr, cells := mc, slots := ms, locals := lo } (va_Pc av (HgS G u)) (va_Qv post (HgS G) (fun q => G.1 ≤ q)) mc ms (fun q => G.1 ≤ q)
abbrev CgI (l : Launch) (G : GT) (y : MethodName) (cd : ByteArray) (mL : Nat) (ty : FieldType) (fr lo mc ms : Nat) (av : List Value) (u : St) (post : Int32 → St → Prop) : Prop := Met l y (.code y cd mL (some ty) :: TB) { frames := fr, cells := mc, slots := ms, locals := lo } (va_Pc av (HgS G u)) (va_Qi post (HgS G) (fun q => G.1 ≤ q)) mc ms (fun q => G.1 ≤ q)
/-- what is the same for every call of a method: its words -/
def MFv (y : MethodName) (cd : ByteArray) (mL : Nat) (ret : Option FieldType) (C : String) (n : Nat) : Prop := Cond.code y cd mL ret ∈ TB ∧ Cond.instanceMethod y ∈ TB ∧ Cond.selects C y y ∈ TB ∧ Cond.initialized y.cls ∈ TB ∧ y.cls ≠ "java/lang/invoke/MethodHandle" ∧ y.cls ≠ "java/lang/invoke/VarHandle" ∧ (parseMethodDescriptor y.desc).map (fun d => d.parameters.length) = some n
def MFs (y : MethodName) (cd : ByteArray) (mL : Nat) (ret : Option FieldType) (n : Nat) : Prop := Cond.code y cd mL ret ∈ TB ∧ Cond.static y ∈ TB ∧ Cond.initialized y.cls ∈ TB ∧ y.cls ≠ "java/lang/invoke/MethodHandle" ∧ y.cls ≠ "java/lang/invoke/VarHandle" ∧ (parseMethodDescriptor y.desc).map (fun d => d.parameters.length) = some n
def MFi (y : MethodName) (cd : ByteArray) (mL : Nat) (n : Nat) : Prop := Cond.code y cd mL none ∈ TB ∧ Cond.instanceMethod y ∈ TB ∧ Cond.initialized y.cls ∈ TB ∧ y.name = "<init>" ∧ y.cls ≠ "java/lang/invoke/MethodHandle" ∧ y.cls ≠ "java/lang/invoke/VarHandle" ∧ (parseMethodDescriptor y.desc).map (fun d => d.parameters.length) = some n
section KIT
variable {p : Program} {l : Launch} {e : Env} {R : Room} {s : State} {m : MethodId} {args : Array Value} {below : List Frame} {meth : Method} {c : Code} {H : Heap} {locs : List Loc} {cells slots : Nat} {Q : State → Prop}
variable {cc : ByteArray} {pc nL : Nat} {ls : Array Slot} {rest st0 : List Value} {own : String} {G : GT} {N : Nat} {ad : Nat → Nat} {C : Nat → va_E}
/-- the beginning of a contract's walk -/
theorem cg_startI {y : MethodName} {cd : ByteArray} {mL fr lo mc ms : Nat} {ty : FieldType} {av : List Value} {u : St} {post : Int32 → St → Prop} (hy : plainName y.cls = true) (hn : (lg_sl av).length ≤ mL)
    (body : ∀ (p : Program) (e : Env) (s : State) (m : MethodId) (below : List Frame) (meth : Method) (c : Code) (ls : Array Slot), CallFix p m c cd mL s av.toArray TB y.cls → meth.sig.returnType = some ty → meth.locks = false → Wg G u.1 u.2.1 u.2.2 s s.heap [] → lv_has ls mL (lv_args 0 av) →
      W p l e { frames := fr, cells := mc, slots := ms, locals := lo } s m av.toArray below meth c s.heap [] 0 0 (MQ below (va_Qi post (HgS G) (fun q => G.1 ≤ q)) av.toArray s mc ms (fun q => G.1 ≤ q)) (F0 m 0 ls [])) : CgI l G y cd mL ty fr lo mc ms av u post := by
  refine Met.ofW (cc := cd) (maxL := mL) (ret := some ty) hy rfl ?_
  intro p e s m args below meth c s₁ B hml hv
  obtain ⟨rfl, hH⟩ := hv
  have hts := atoms_spec (ws := .code y cd mL (some ty) :: TB) B.pre
  have hl := lv_entry av (n := mL) hn
  rw [lg_entry_eq]
  exact body p e s m below meth c _ ⟨B.exec, B.bytes, hml, findClass_of_methodNamed B.named, fun w hw => hts w (List.mem_cons_of_mem _ hw)⟩ B.returns B.notSynchronized hH.start hl
theorem cg_startV {y : MethodName} {cd : ByteArray} {mL fr lo mc ms : Nat} {av : List Value} {u : St} {post : St → Prop} (hy : plainName y.cls = true) (hn : (lg_sl av).length ≤ mL)
    (body : ∀ (p : Program) (e : Env) (s : State) (m : MethodId) (below : List Frame) (meth : Method) (c : Code) (ls : Array Slot), CallFix p m c cd mL s av.toArray TB y.cls → meth.sig.returnType = none → meth.locks = false → meth.name = y.name → Wg G u.1 u.2.1 u.2.2 s s.heap [] → lv_has ls mL (lv_args 0 av) →
      W p l e { frames := fr, cells := mc, slots := ms, locals := lo } s m av.toArray below meth c s.heap [] 0 0 (MQ below (va_Qv post (HgS G) (fun q => G.1 ≤ q)) av.toArray s mc ms (fun q => G.1 ≤ q)) (F0 m 0 ls [])) : CgV l G y cd mL fr lo mc ms av u post := by
  refine Met.ofW (cc := cd) (maxL := mL) (ret := none) hy rfl ?_
  intro p e s m args below meth c s₁ B hml hv
  obtain ⟨rfl, hH⟩ := hv
  have hts := atoms_spec (ws := .code y cd mL none :: TB) B.pre
  have hl := lv_entry av (n := mL) hn
  rw [lg_entry_eq]
  exact body p e s m below meth c _ ⟨B.exec, B.bytes, hml, findClass_of_methodNamed B.named, fun w hw => hts w (List.mem_cons_of_mem _ hw)⟩ B.returns B.notSynchronized (name_of_methodNamed B.named B.method).1 hH.start hl
/-- its ends -/
theorem g_reti {post : Int32 → St → Prop} {v : Int32} (S : CallFix p m c cc nL s args TB own) (hr : meth.sig.returnType = some .int) (hlocks : meth.locks = false) (hw : Wg G N ad C s H locs) (hp : post v (N, ad, C)) (hdg : decode cc pc = .ok (.ireturn, 1)) :
    W p l e R s m args below meth c H locs cells slots (MQ below (va_Qi post (HgS G) (fun q => G.1 ≤ q)) args s cells slots (fun q => G.1 ≤ q)) (F0 m pc ls [.int v]) :=
  W.iret (v := v) S.1 S.2.1 hr (fun t ht hW => ⟨⟨v, (N, ad, C), rfl, hp, hw.at ht hW⟩, hw.2.2.1.F ht⟩) hw.2.2.1.2.2 hdg hlocks
theorem g_retz {post : Int32 → St → Prop} {v : Int32} (S : CallFix p m c cc nL s args TB own) (hr : meth.sig.returnType = some .boolean) (hlocks : meth.locks = false) (hw : Wg G N ad C s H locs) (hn : narrow .boolean (.int v) = .int v) (hp : post v (N, ad, C)) (hdg : decode cc pc = .ok (.ireturn, 1)) :
    W p l e R s m args below meth c H locs cells slots (MQ below (va_Qi post (HgS G) (fun q => G.1 ≤ q)) args s cells slots (fun q => G.1 ≤ q)) (F0 m pc ls [.int v]) :=
  W.zret (v := v) S.1 S.2.1 hr hn (fun t ht hW => ⟨⟨v, (N, ad, C), rfl, hp, hw.at ht hW⟩, hw.2.2.1.F ht⟩) hw.2.2.1.2.2 hdg hlocks
theorem g_retv {post : St → Prop} (S : CallFix p m c cc nL s args TB own) (hr : meth.sig.returnType = none) (hlocks : meth.locks = false) (hw : Wg G N ad C s H locs) (hp : post (N, ad, C)) (hdg : decode cc pc = .ok (.return_, 1)) :
    W p l e R s m args below meth c H locs cells slots (MQ below (va_Qv post (HgS G) (fun q => G.1 ≤ q)) args s cells slots (fun q => G.1 ≤ q)) (F0 m pc ls []) :=
  W.vret S.1 S.2.1 hr (fun t ht hW => ⟨⟨(N, ad, C), rfl, hp, hw.at ht hW⟩, hw.2.2.1.F ht⟩) hw.2.2.1.2.2 hdg hlocks
/-- fields -/
theorem g_get (S : CallFix p m c cc nL s args TB own) (hw : Wg G N ad C s H locs) (k : Nat) (hk : k < N) {ci : Nat} {fs : List Value} (hC : C k = .inr (ci, fs)) {Cn : String} {T : u_T} {NN : Nat} (hcl : vwCl[ci]? = some (Cn, T, NN)) (hin : ∀ w ∈ u_ws Cn T NN, w ∈ TB) (j : Nat) (hj : j < NN) {index : Nat} (hlk : Cond.fieldLink own index (T j).1 (T j).2.1 (T j).2.2.1 ∈ TB) {v : Value} (hv : fs[j]? = some v) (hdg : decode cc pc = .ok (.getfield index, 3))
    (kk : W p l e R s m args below meth c H locs cells slots Q (F0 m (pc + 3) ls (v :: rest))) : W p l e R s m args below meth c H locs cells slots Q (F0 m pc ls (.ref (ad k) :: rest)) :=
  va_get (D := G.2.1) (ci := ci) (v := v) (C := Cn) (T := T) (N := NN) S.1 S.2.1 S.2.2.2.2 hin S.2.2.2.1 hw.2.2.2.1 hw.1 k (by rw [wl_get hk, hC]) hcl j hj (S.2.2.2.2 _ hlk) (fun _ h9 => h9) hv hdg kk
theorem g_put (S : CallFix p m c cc nL s args TB own) (hw : Wg G N ad C s H locs) (k : Nat) (hk : k < N) {ci : Nat} {fs : List Value} (hC : C k = .inr (ci, fs)) {Cn : String} {T : u_T} {NN : Nat} (hcl : vwCl[ci]? = some (Cn, T, NN)) (hin : ∀ w ∈ u_ws Cn T NN, w ∈ TB) {ty0 : Nat → FieldType} (hty : ∀ k, k < NN → parseFieldDescriptor (T k).2.2.1 = some (ty0 k)) (hnm : ∀ a, a < NN → ∀ b, b < NN → a ≠ b → (T a).2.1 ≠ (T b).2.1) (j : Nat) (hj : j < NN) {index : Nat} (hlk : Cond.fieldLink own index (T j).1 (T j).2.1 (T j).2.2.1 ∈ TB) (hfin : (T j).2.2.2 = false) {v : Value} (hn : narrow (ty0 j) v = v) (hfit : fits (ty0 j) v = true) (hl : j < fs.length) (hdg : decode cc pc = .ok (.putfield index, 3))
    (kk : ∀ (H1 : Heap) (locs1 : List Loc), Wg G N ad (va_up C k (.inr (ci, fs.set j v))) s H1 locs1 → W p l e R s m args below meth c H1 locs1 cells slots Q (F0 m (pc + 3) ls rest)) : W p l e R s m args below meth c H locs cells slots Q (F0 m pc ls (v :: .ref (ad k) :: rest)) := by
  refine va_put (D := G.2.1) (ci := ci) (v := v) (ty := ty0 j) (C := Cn) (T := T) (N := NN) S.1 S.2.1 S.2.2.2.2 hin ty0 hty hnm S.2.2.2.1 hw.2.2.2.1 hw.1 hw.2.1 hw.2.2.1 k (by rw [wl_get hk, hC]) hcl j hj (S.2.2.2.2 _ hlk) (fun _ h9 => h9) hfin (hty j hj) hn hfit hl hdg (fun H1 locs1 hP hD hS => ?_)
  rw [wl_set _ hk] at hP hD
  exact kk H1 locs1 ⟨hP, hD, hS, hw.2.2.2⟩
theorem g_putF (S : CallFix p m c cc nL s args TB own) (hw : Wg G N ad C s H locs) (k : Nat) (hk : k < N) {ci : Nat} {fs : List Value} (hC : C k = .inr (ci, fs)) {Cn : String} {T : u_T} {NN : Nat} (hcl : vwCl[ci]? = some (Cn, T, NN)) (hin : ∀ w ∈ u_ws Cn T NN, w ∈ TB) {ty0 : Nat → FieldType} (hty : ∀ k, k < NN → parseFieldDescriptor (T k).2.2.1 = some (ty0 k)) (hnm : ∀ a, a < NN → ∀ b, b < NN → a ≠ b → (T a).2.1 ≠ (T b).2.1) (j : Nat) (hj : j < NN) {index : Nat} (hlk : Cond.fieldLink own index (T j).1 (T j).2.1 (T j).2.2.1 ∈ TB) (hfin : (T j).2.2.2 = true) (hini : meth.name = "<init>") (hdecl : (T j).1 = own) {v : Value} (hn : narrow (ty0 j) v = v) (hfit : fits (ty0 j) v = true) (hl : j < fs.length) (hdg : decode cc pc = .ok (.putfield index, 3))
    (kk : ∀ (H1 : Heap) (locs1 : List Loc), Wg G N ad (va_up C k (.inr (ci, fs.set j v))) s H1 locs1 → W p l e R s m args below meth c H1 locs1 cells slots Q (F0 m (pc + 3) ls rest)) : W p l e R s m args below meth c H locs cells slots Q (F0 m pc ls (v :: .ref (ad k) :: rest)) := by
  refine va_putF (D := G.2.1) (ci := ci) (v := v) (ty := ty0 j) (C := Cn) (T := T) (N := NN) S.1 S.2.1 S.2.2.2.2 hin ty0 hty hnm S.2.2.2.1 hw.2.2.2.1 hw.1 hw.2.1 hw.2.2.1 k (by rw [wl_get hk, hC]) hcl j hj (S.2.2.2.2 _ hlk) (fun _ h9 => h9) hfin hini hdecl (hty j hj) hn hfit hl hdg (fun H1 locs1 hP hD hS => ?_)
  rw [wl_set _ hk] at hP hD
  exact kk H1 locs1 ⟨hP, hD, hS, hw.2.2.2⟩
/-- arrays -/
theorem g_ald (S : CallFix p m c cc nL s args TB own) (hw : Wg G N ad C s H locs) (k : Nat) (hk : k < N) {n : Nat} {f : Nat → Int32} (hC : C k = .inl (G.2.2.1, n, .inl f)) {i : Int32} (hi : vp_in i n) (hdg : decode cc pc = .ok (.iaload, 1))
    (kk : W p l e R s m args below meth c H locs cells slots Q (F0 m (pc + 1) ls (.int (f i.toNatClampNeg) :: rest))) : W p l e R s m args below meth c H locs cells slots Q (F0 m pc ls (.int i :: .ref (ad k) :: rest)) :=
  va_iald S.1 S.2.1 hw.2.2.2.1 hw.1 k 0 (by rw [wl_get hk, hC]) rfl hi hdg kk
theorem g_zld (S : CallFix p m c cc nL s args TB own) (hw : Wg G N ad C s H locs) (k : Nat) (hk : k < N) {n : Nat} {f : Nat → Int32} (hC : C k = .inl (G.2.2.2.1, n, .inl f)) {i : Int32} (hi : vp_in i n) (hdg : decode cc pc = .ok (.baload, 1))
    (kk : W p l e R s m args below meth c H locs cells slots Q (F0 m (pc + 1) ls (.int (f i.toNatClampNeg) :: rest))) : W p l e R s m args below meth c H locs cells slots Q (F0 m pc ls (.int i :: .ref (ad k) :: rest)) :=
  va_zald S.1 S.2.1 hw.2.2.2.1 hw.1 k 1 (by rw [wl_get hk, hC]) rfl hi hdg kk
theorem g_ast (S : CallFix p m c cc nL s args TB own) (hw : Wg G N ad C s H locs) (k : Nat) (hk : k < N) {n : Nat} {f : Nat → Int32} (hC : C k = .inl (G.2.2.1, n, .inl f)) {i x : Int32} (hi : vp_in i n) (hdg : decode cc pc = .ok (.iastore, 1))
    (kk : ∀ (H1 : Heap) (locs1 : List Loc), Wg G N ad (va_up C k (.inl (G.2.2.1, n, .inl (upd f i.toNatClampNeg x)))) s H1 locs1 → W p l e R s m args below meth c H1 locs1 cells slots Q (F0 m (pc + 1) ls rest)) : W p l e R s m args below meth c H locs cells slots Q (F0 m pc ls (.int x :: .int i :: .ref (ad k) :: rest)) := by
  refine va_iast S.1 S.2.1 hw.2.2.2.1 hw.1 hw.2.1 hw.2.2.1 k 0 (by rw [wl_get hk, hC]) rfl hi hdg (fun H1 locs1 hP hD hS => ?_)
  rw [wl_set _ hk] at hP hD
  exact kk H1 locs1 ⟨hP, hD, hS, hw.2.2.2⟩
theorem g_zst (S : CallFix p m c cc nL s args TB own) (hw : Wg G N ad C s H locs) (k : Nat) (hk : k < N) {n : Nat} {f : Nat → Int32} (hC : C k = .inl (G.2.2.2.1, n, .inl f)) {i x : Int32} (hi : vp_in i n) (hx : vp_nar .boolean x = x) (hdg : decode cc pc = .ok (.bastore, 1))
    (kk : ∀ (H1 : Heap) (locs1 : List Loc), Wg G N ad (va_up C k (.inl (G.2.2.2.1, n, .inl (upd f i.toNatClampNeg x)))) s H1 locs1 → W p l e R s m args below meth c H1 locs1 cells slots Q (F0 m (pc + 1) ls rest)) : W p l e R s m args below meth c H locs cells slots Q (F0 m pc ls (.int x :: .int i :: .ref (ad k) :: rest)) := by
  refine va_zast S.1 S.2.1 hw.2.2.2.1 hw.1 hw.2.1 hw.2.2.1 k 1 (by rw [wl_get hk, hC]) rfl hi hdg (fun H1 locs1 hP hD hS => ?_)
  rw [wl_set _ hk, hx] at hP hD
  exact kk H1 locs1 ⟨hP, hD, hS, hw.2.2.2⟩
theorem g_len (S : CallFix p m c cc nL s args TB own) (hw : Wg G N ad C s H locs) (k : Nat) (hk : k < N) {cA : ClassId} {x : vp_A} (hC : C k = .inl (cA, x)) (t0 : Nat) {ty : FieldType} (ht : (tysG G)[t0]? = some (cA, ty)) (hdg : decode cc pc = .ok (.arraylength, 1))
    (kk : W p l e R s m args below meth c H locs cells slots Q (F0 m (pc + 1) ls (.int (nI x.1) :: rest))) : W p l e R s m args below meth c H locs cells slots Q (F0 m pc ls (.ref (ad k) :: rest)) :=
  va_alen S.1 S.2.1 hw.2.2.2.1 hw.1 k t0 (by rw [wl_get hk, hC]) ht rfl hdg kk
end KIT
