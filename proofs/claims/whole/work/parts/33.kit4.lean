/-! rows over the general world, with the address said apart -/
section KIT4
variable {p : Program} {l : Launch} {e : Env} {R : Room} {s : State} {m : MethodId} {args : Array Value} {below : List Frame} {meth : Method} {c : Code} {H : Heap} {locs : List Loc} {cells slots : Nat} {Q : State → Prop}
variable {cc : ByteArray} {pc nL : Nat} {ls : Array Slot} {rest st0 : List Value} {own : String} {G : GT} {N : Nat} {ad : Nat → Nat} {C : Nat → va_E}
theorem x_get (S : CallFix p m c cc nL s args TB own) (hw : Wg G N ad C s H locs) (k : Nat) {a : Nat} (ha : ad k = a) (hk : k < N) {ci : Nat} {fs : List Value} (hC : C k = .inr (ci, fs)) {Cn : String} {T : u_T} {NN : Nat} (hcl : vwCl[ci]? = some (Cn, T, NN)) (hin : ∀ w ∈ u_ws Cn T NN, w ∈ TB) (j : Nat) (hj : j < NN) {index : Nat} (hlk : Cond.fieldLink own index (T j).1 (T j).2.1 (T j).2.2.1 ∈ TB) {v : Value} (hv : fs[j]? = some v) (hdg : decode cc pc = .ok (.getfield index, 3))
    (kk : W p l e R s m args below meth c H locs cells slots Q (F0 m (pc + 3) ls (v :: rest))) : W p l e R s m args below meth c H locs cells slots Q (F0 m pc ls (.ref a :: rest)) := by
  subst ha
  exact g_get S hw k hk hC hcl hin j hj hlk hv hdg kk
theorem x_put (S : CallFix p m c cc nL s args TB own) (hw : Wg G N ad C s H locs) (k : Nat) {a : Nat} (ha : ad k = a) (hk : k < N) {ci : Nat} {fs : List Value} (hC : C k = .inr (ci, fs)) {Cn : String} {T : u_T} {NN : Nat} (hcl : vwCl[ci]? = some (Cn, T, NN)) (hin : ∀ w ∈ u_ws Cn T NN, w ∈ TB) {ty0 : Nat → FieldType} (hty : ∀ k, k < NN → parseFieldDescriptor (T k).2.2.1 = some (ty0 k)) (hnm : ∀ a, a < NN → ∀ b, b < NN → a ≠ b → (T a).2.1 ≠ (T b).2.1) (j : Nat) (hj : j < NN) {index : Nat} (hlk : Cond.fieldLink own index (T j).1 (T j).2.1 (T j).2.2.1 ∈ TB) (hfin : (T j).2.2.2 = false) {v : Value} (hn : narrow (ty0 j) v = v) (hfit : fits (ty0 j) v = true) {fs' : List Value} (hl : j < fs.length) (hfs : fs.set j v = fs') (hdg : decode cc pc = .ok (.putfield index, 3))
    (kk : ∀ (C1 : Nat → va_E) (H1 : Heap) (locs1 : List Loc), C1 = va_up C k (.inr (ci, fs')) → Wg G N ad C1 s H1 locs1 → W p l e R s m args below meth c H1 locs1 cells slots Q (F0 m (pc + 3) ls rest)) : W p l e R s m args below meth c H locs cells slots Q (F0 m pc ls (v :: .ref a :: rest)) := by
  subst ha
  subst hfs
  exact g_put S hw k hk hC hcl hin hty hnm j hj hlk hfin hn hfit hl hdg (fun H1 locs1 h => kk _ H1 locs1 rfl h)
theorem x_putF (S : CallFix p m c cc nL s args TB own) (hw : Wg G N ad C s H locs) (k : Nat) {a : Nat} (ha : ad k = a) (hk : k < N) {ci : Nat} {fs : List Value} (hC : C k = .inr (ci, fs)) {Cn : String} {T : u_T} {NN : Nat} (hcl : vwCl[ci]? = some (Cn, T, NN)) (hin : ∀ w ∈ u_ws Cn T NN, w ∈ TB) {ty0 : Nat → FieldType} (hty : ∀ k, k < NN → parseFieldDescriptor (T k).2.2.1 = some (ty0 k)) (hnm : ∀ a, a < NN → ∀ b, b < NN → a ≠ b → (T a).2.1 ≠ (T b).2.1) (j : Nat) (hj : j < NN) {index : Nat} (hlk : Cond.fieldLink own index (T j).1 (T j).2.1 (T j).2.2.1 ∈ TB) (hfin : (T j).2.2.2 = true) (hini : meth.name = "<init>") (hdecl : (T j).1 = own) {v : Value} (hn : narrow (ty0 j) v = v) (hfit : fits (ty0 j) v = true) {fs' : List Value} (hl : j < fs.length) (hfs : fs.set j v = fs') (hdg : decode cc pc = .ok (.putfield index, 3))
    (kk : ∀ (C1 : Nat → va_E) (H1 : Heap) (locs1 : List Loc), C1 = va_up C k (.inr (ci, fs')) → Wg G N ad C1 s H1 locs1 → W p l e R s m args below meth c H1 locs1 cells slots Q (F0 m (pc + 3) ls rest)) : W p l e R s m args below meth c H locs cells slots Q (F0 m pc ls (v :: .ref a :: rest)) := by
  subst ha
  subst hfs
  exact g_putF S hw k hk hC hcl hin hty hnm j hj hlk hfin hini hdecl hn hfit hl hdg (fun H1 locs1 h => kk _ H1 locs1 rfl h)
theorem x_zst (S : CallFix p m c cc nL s args TB own) (hw : Wg G N ad C s H locs) (k : Nat) {a : Nat} (ha : ad k = a) (hk : k < N) {n : Nat} {f : Nat → Int32} (hC : C k = .inl (G.2.2.2.1, n, .inl f)) (hn : n < 2 ^ 31) (j : Nat) (hj : j < n) {x : Int32} (hx : vp_nar .boolean x = x) (hdg : decode cc pc = .ok (.bastore, 1))
    (kk : ∀ (C1 : Nat → va_E) (H1 : Heap) (locs1 : List Loc), C1 = va_up C k (.inl (G.2.2.2.1, n, .inl (upd f j x))) → Wg G N ad C1 s H1 locs1 → W p l e R s m args below meth c H1 locs1 cells slots Q (F0 m (pc + 1) ls rest)) : W p l e R s m args below meth c H locs cells slots Q (F0 m pc ls (.int x :: .int (nI j) :: .ref a :: rest)) := by
  subst ha
  refine g_zst S hw k hk hC (vp_in_nI hj hn) hx hdg (fun H1 locs1 h => kk _ H1 locs1 rfl ?_)
  rw [nI_clamp (by omega)] at h
  exact h
theorem x_ast (S : CallFix p m c cc nL s args TB own) (hw : Wg G N ad C s H locs) (k : Nat) {a : Nat} (ha : ad k = a) (hk : k < N) {n : Nat} {f : Nat → Int32} (hC : C k = .inl (G.2.2.1, n, .inl f)) (hn : n < 2 ^ 31) (j : Nat) (hj : j < n) {x : Int32} (hdg : decode cc pc = .ok (.iastore, 1))
    (kk : ∀ (C1 : Nat → va_E) (H1 : Heap) (locs1 : List Loc), C1 = va_up C k (.inl (G.2.2.1, n, .inl (upd f j x))) → Wg G N ad C1 s H1 locs1 → W p l e R s m args below meth c H1 locs1 cells slots Q (F0 m (pc + 1) ls rest)) : W p l e R s m args below meth c H locs cells slots Q (F0 m pc ls (.int x :: .int (nI j) :: .ref a :: rest)) := by
  subst ha
  refine g_ast S hw k hk hC (vp_in_nI hj hn) hdg (fun H1 locs1 h => kk _ H1 locs1 rfl ?_)
  rw [nI_clamp (by omega)] at h
  exact h
theorem x_len (S : CallFix p m c cc nL s args TB own) (hw : Wg G N ad C s H locs) (k : Nat) {a : Nat} (ha : ad k = a) (hk : k < N) {cA : ClassId} {x : vp_A} (hC : C k = .inl (cA, x)) (t0 : Nat) {ty : FieldType} (ht : (tysG G)[t0]? = some (cA, ty)) (hdg : decode cc pc = .ok (.arraylength, 1))
    (kk : W p l e R s m args below meth c H locs cells slots Q (F0 m (pc + 1) ls (.int (nI x.1) :: rest))) : W p l e R s m args below meth c H locs cells slots Q (F0 m pc ls (.ref a :: rest)) := by
  subst ha
  exact g_len S hw k hk hC t0 ht hdg kk
theorem x_new (S : CallFix p m c cc nL s args TB own) (hw : Wg G N ad C s H locs) {Cn : String} {T : u_T} {NN ci index : Nat} (hcl : vwCl[ci]? = some (Cn, T, NN)) (hin : ∀ w ∈ u_ws Cn T NN, w ∈ TB) {ty : Nat → FieldType} (hty : ∀ k, k < NN → parseFieldDescriptor (T k).2.2.1 = some (ty k)) (hck : Cond.classLink own index Cn ∈ TB) (hinst : Cond.instantiable Cn NN ∈ TB) (hini : Cond.initialized Cn ∈ TB) {fs : List Value} (hfs : ∀ j, j < NN → defaultValue (ty j) = vp_V fs j) (hcells : cells + 1 ≤ R.cells) (hslots : slots + NN ≤ R.slots) (hdg : decode cc pc = .ok (.new index, 3))
    (kk : ∀ (q : Nat) (ad1 : Nat → Nat) (C1 : Nat → va_E) (H1 : Heap), ad1 = va_up ad N q → C1 = va_up C N (.inr (ci, fs)) → Wg G (N + 1) ad1 C1 s H1 locs → W p l e R s m args below meth c H1 locs (cells + 1) (slots + NN) Q (F0 m (pc + 3) ls (.ref q :: rest))) : W p l e R s m args below meth c H locs cells slots Q (F0 m pc ls rest) :=
  g_new S hw hcl hin hty hck hinst hini hfs hcells hslots hdg (fun q H1 h => kk q _ _ H1 rfl rfl h)
theorem x_newI (S : CallFix p m c cc nL s args TB own) (hw : Wg G N ad C s H locs) {n : Int32} {N' : Nat} (hn : ¬ n < 0) (hN : n.toNatClampNeg = N') (hbytes : N' * componentBytes .int ≤ 536870912) (hcells : cells + 1 ≤ R.cells) (hslots : slots + N' ≤ R.slots) {at_ : ArrayType} (hat : newarray.typeOf at_ = .int) (hdg : decode cc pc = .ok (.newarray at_, 2))
    (kk : ∀ (q : Nat) (ad1 : Nat → Nat) (C1 : Nat → va_E) (H1 : Heap), ad1 = va_up ad N q → C1 = va_up C N (.inl (G.2.2.1, N', .inl (fun _ => 0))) → Wg G (N + 1) ad1 C1 s H1 locs → W p l e R s m args below meth c H1 locs (cells + 1) (slots + N') Q (F0 m (pc + 2) ls (.ref q :: rest))) : W p l e R s m args below meth c H locs cells slots Q (F0 m pc ls (.int n :: rest)) :=
  g_newI S hw hn hN hbytes hcells hslots hat hdg (fun q H1 h => kk q _ _ H1 rfl rfl h)
theorem x_newZ (S : CallFix p m c cc nL s args TB own) (hw : Wg G N ad C s H locs) {n : Int32} {N' : Nat} (hn : ¬ n < 0) (hN : n.toNatClampNeg = N') (hbytes : N' * componentBytes .boolean ≤ 536870912) (hcells : cells + 1 ≤ R.cells) (hslots : slots + N' ≤ R.slots) {at_ : ArrayType} (hat : newarray.typeOf at_ = .boolean) (hdg : decode cc pc = .ok (.newarray at_, 2))
    (kk : ∀ (q : Nat) (ad1 : Nat → Nat) (C1 : Nat → va_E) (H1 : Heap), ad1 = va_up ad N q → C1 = va_up C N (.inl (G.2.2.2.1, N', .inl (fun _ => 0))) → Wg G (N + 1) ad1 C1 s H1 locs → W p l e R s m args below meth c H1 locs (cells + 1) (slots + N') Q (F0 m (pc + 2) ls (.ref q :: rest))) : W p l e R s m args below meth c H locs cells slots Q (F0 m pc ls (.int n :: rest)) :=
  g_newZ S hw hn hN hbytes hcells hslots hat hdg (fun q H1 h => kk q _ _ H1 rfl rfl h)
theorem x_newM (S : CallFix p m c cc nL s args TB own) (hw : Wg G N ad C s H locs) {n : Int32} {N' index : Nat} (hck : Cond.classLink own index "OilLine$Moment" ∈ TB) (hn : ¬ n < 0) (hN : n.toNatClampNeg = N') (hbytes : N' * 4 ≤ 536870912) (hcells : cells + 1 ≤ R.cells) (hslots : slots + N' ≤ R.slots) (hdg : decode cc pc = .ok (.anewarray index, 3))
    (kk : ∀ (q : Nat) (ad1 : Nat → Nat) (C1 : Nat → va_E) (H1 : Heap), ad1 = va_up ad N q → C1 = va_up C N (.inl (G.2.2.2.2, N', .inr (.inr (.inr (.inr (fun _ => none)))))) → Wg G (N + 1) ad1 C1 s H1 locs → W p l e R s m args below meth c H1 locs (cells + 1) (slots + N') Q (F0 m (pc + 3) ls (.ref q :: rest))) : W p l e R s m args below meth c H locs cells slots Q (F0 m pc ls (.int n :: rest)) :=
  g_newM S hw hck hn hN hbytes hcells hslots hdg (fun q H1 h => kk q _ _ H1 rfl rfl h)
theorem x_oi (S : CallFix p m c cc nL s args TB own) {idx : Nat} (hlk : Cond.methodLink own idx objectInit ∈ TB) (hls : ls.size = nL) {a : Nat} (hdg : decode cc pc = .ok (.invokespecial idx, 3)) (hf : 1 ≤ R.frames) (hlo : (rest.map fun v => v.category).sum + 12 ≤ R.locals)
    (kk : W p l e R s m args below meth c H locs cells slots Q (F0 m (pc + 3) ls rest)) : W p l e R s m args below meth c H locs cells slots Q (F0 m pc ls (.ref a :: rest)) :=
  W.objInit S.1 S.2.1 S.2.2.2.1 (S.2.2.2.2 _ hlk) (S.2.2.2.2 _ wi_oi) (S.2.2.2.2 _ wc_oi) rfl (hls.trans S.2.2.1.symm) rfl hdg hf (by show 2 * 0 + _ + 12 ≤ _; omega) kk
end KIT4
