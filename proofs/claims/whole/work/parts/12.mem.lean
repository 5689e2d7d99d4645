/-! THE SYSTEM'S CELLS BY NUMBER: 0..33 the class, 20..32 its moment 'now', 34..60 the reference, from 61 on the moments of 'earlier', 13 cells each. A shape: (0, n) ints, (1, n) booleans, (2, n) moments, (3, class, fields: none an int, some t the cell t) -/
def mshp (mb r : Nat) : Nat × Nat × List (Option Nat) := match r with
  | 0 => (3, 1, [none, none, none, some (mb + 1), some (mb + 6), some (mb + 11), some (mb + 12)])
  | 1 => (3, 2, [none, some (mb + 2), some (mb + 3), some (mb + 4), some (mb + 5)])
  | 6 => (3, 4, [some (mb + 7), some (mb + 8), some (mb + 9), some (mb + 10)])
  | 7 => (0, 48, [])
  | 8 => (0, 48, [])
  | 9 => (0, 48, [])
  | 10 => (0, 6, [])
  | 11 => (0, 200, [])
  | 12 => (0, 20, [])
  | _ => (0, 120, [])
def stab : List (Nat × Nat × List (Option Nat)) := [
  (3, 7, [some 1, some 6, some 12, some 17, some 18, some 19, some 20, some 33, none]),
  (3, 5, [some 2, some 3, some 4, some 5]), (1, 64, []), (0, 64, []), (0, 8, []), (0, 24, []),
  (3, 0, [none, some 7, some 8, some 9, some 10, some 11]), (0, 6, []), (0, 6, []), (1, 48, []), (0, 48, []), (0, 48, []),
  (3, 6, [none, some 13, some 14, some 15, some 16]), (0, 20, []), (0, 20, []), (0, 20, []), (0, 20, []),
  (3, 3, [none, none, none, none, none]), (0, 200, []), (0, 200, []),
  mshp 20 0, mshp 20 1, mshp 20 2, mshp 20 3, mshp 20 4, mshp 20 5, mshp 20 6, mshp 20 7, mshp 20 8, mshp 20 9, mshp 20 10, mshp 20 11, mshp 20 12,
  (2, 200, []),
  (3, 8, [none, none, some 35, some 36, some 37, some 38, none, some 39, some 40, some 41, none, some 42, some 43, some 44, some 45, some 46, some 47, some 48, some 49, some 50, some 51, some 52, some 53, some 54, none, none, none, some 55, some 56, some 57, some 58, some 59, some 60, none, none]),
  (0, 120, []), (0, 120, []), (0, 120, []), (0, 120, []), (0, 200, []), (0, 200, []), (0, 200, []),
  (0, 6, []), (0, 6, []), (0, 6, []), (1, 48, []), (0, 48, []), (0, 48, []), (0, 48, []), (0, 48, []), (0, 48, []),
  (1, 64, []), (0, 64, []), (0, 8, []), (0, 24, []), (0, 20, []), (0, 20, []), (0, 20, []), (0, 20, []), (0, 20, []), (0, 180900, [])]
def shp (i : Nat) : Nat × Nat × List (Option Nat) := if i < 61 then stab.getD i (0, 0, []) else mshp (61 + 13 * ((i - 61) / 13)) ((i - 61) % 13)
/-- mb is the first cell of a moment, all of whose cells are there -/
def IsM (N K mb : Nat) : Prop := (mb = 20 ∨ ∃ j, j < K ∧ mb = 61 + 13 * j) ∧ mb + 12 < N
theorem IsM.lt {N K mb : Nat} (h : IsM N K mb) : mb + 12 < N := h.2
theorem isM20 {N K : Nat} (h : 33 ≤ N) : IsM N K 20 := ⟨Or.inl rfl, by omega⟩
theorem isMj {K j : Nat} (h : j < K) : IsM (61 + 13 * K) K (61 + 13 * j) := ⟨Or.inr ⟨j, h, rfl⟩, by omega⟩
theorem IsM.sh {N K mb : Nat} (h : IsM N K mb) (r : Nat) (hr : r < 13) : shp (mb + r) = mshp mb r := by
  rcases h.1 with rfl | ⟨j, hj, rfl⟩
  · rcases (show r = 0 ∨ r = 1 ∨ r = 2 ∨ r = 3 ∨ r = 4 ∨ r = 5 ∨ r = 6 ∨ r = 7 ∨ r = 8 ∨ r = 9 ∨ r = 10 ∨ r = 11 ∨ r = 12 by omega) with rfl | rfl | rfl | rfl | rfl | rfl | rfl | rfl | rfl | rfl | rfl | rfl | rfl <;> rfl
  · unfold shp
    rw [if_neg (by omega), show (61 + 13 * j + r - 61) / 13 = j by omega, show (61 + 13 * j + r - 61) % 13 = r by omega]
def flds (ad : Nat → Nat) (f : Nat → Int32) (l : List (Option Nat)) : List Value := l.zipIdx.map (fun q => match q.1 with
  | none => Value.int (f q.2)
  | some t => Value.ref (ad t))
theorem flds_len (ad : Nat → Nat) (f : Nat → Int32) (l : List (Option Nat)) : (flds ad f l).length = l.length := by simp [flds]
theorem flds_I {ad : Nat → Nat} {f : Nat → Int32} {l : List (Option Nat)} {j : Nat} (h : l[j]? = some none) : (flds ad f l)[j]? = some (.int (f j)) := by
  simp [flds, List.getElem?_zipIdx, h]
theorem flds_R {ad : Nat → Nat} {f : Nat → Int32} {l : List (Option Nat)} {j t : Nat} (h : l[j]? = some (some t)) : (flds ad f l)[j]? = some (.ref (ad t)) := by
  simp [flds, List.getElem?_zipIdx, h]
theorem flds_set {ad : Nat → Nat} {f : Nat → Int32} {l : List (Option Nat)} {j : Nat} (x : Int32) (h : l[j]? = some none) : (flds ad f l).set j (.int x) = flds ad (upd f j x) l := by
  have hl : j < l.length := (List.getElem?_eq_some_iff.mp h).1
  apply List.ext_getElem?
  intro i
  by_cases hi : i = j
  · subst hi
    rw [List.getElem?_set_self (by rw [flds_len]; exact hl), flds_I h]
    simp [upd]
  · rw [List.getElem?_set_ne (Ne.symm hi)]
    by_cases hl2 : i < l.length
    · cases hv : l[i]? with
      | none => rw [List.getElem?_eq_none_iff] at hv; omega
      | some o =>
        cases o with
        | none => rw [flds_I hv, flds_I hv]; simp [upd, hi]
        | some t => rw [flds_R hv, flds_R hv]
    · rw [List.getElem?_eq_none (by rw [flds_len]; omega), List.getElem?_eq_none (by rw [flds_len]; omega)]
def cellOf (G : GT) (K : Nat) (ad : Nat → Nat) (M : Mem) (i : Nat) : va_E :=
  if (shp i).1 = 0 then .inl (G.2.2.1, (shp i).2.1, .inl (M i))
  else if (shp i).1 = 1 then .inl (G.2.2.2.1, (shp i).2.1, .inl (M i))
  else if (shp i).1 = 2 then .inl (G.2.2.2.2, (shp i).2.1, .inr (.inr (.inr (.inr (fun j => if j < K then some (ad (61 + 13 * j)) else none)))))
  else .inr ((shp i).2.1, flds ad (M i) (shp i).2.2)
theorem cell_I {G : GT} {K : Nat} {ad : Nat → Nat} {M : Mem} {k n : Nat} {l : List (Option Nat)} (h : shp k = (0, n, l)) : cellOf G K ad M k = .inl (G.2.2.1, n, .inl (M k)) := by simp [cellOf, h]
theorem cell_Z {G : GT} {K : Nat} {ad : Nat → Nat} {M : Mem} {k n : Nat} {l : List (Option Nat)} (h : shp k = (1, n, l)) : cellOf G K ad M k = .inl (G.2.2.2.1, n, .inl (M k)) := by simp [cellOf, h]
theorem cell_Q {G : GT} {K : Nat} {ad : Nat → Nat} {M : Mem} {k n : Nat} {l : List (Option Nat)} (h : shp k = (2, n, l)) : cellOf G K ad M k = .inl (G.2.2.2.2, n, .inr (.inr (.inr (.inr (fun j => if j < K then some (ad (61 + 13 * j)) else none))))) := by simp [cellOf, h]
theorem cell_O {G : GT} {K : Nat} {ad : Nat → Nat} {M : Mem} {k n : Nat} {l : List (Option Nat)} (h : shp k = (3, n, l)) : cellOf G K ad M k = .inr (n, flds ad (M k) l) := by simp [cellOf, h]
theorem cell_up (G : GT) (K : Nat) (ad : Nat → Nat) (M : Mem) (k : Nat) (g : Nat → Int32) {x : va_E} (hx : cellOf G K ad (va_up M k g) k = x) : va_up (cellOf G K ad M) k x = cellOf G K ad (va_up M k g) := by
  funext i
  by_cases hi : i = k
  · subst hi
    rw [va_up_self, hx]
  · rw [va_up_ne _ _ hi]
    simp only [cellOf, va_up_ne _ _ hi]
abbrev HdM (G : GT) (N K : Nat) (ad : Nat → Nat) (M : Mem) (U : State) : Prop := Hg G N ad (cellOf G K ad M) U
abbrev Wd (G : GT) (N K : Nat) (ad : Nat → Nat) (M : Mem) (s : State) (H : Heap) (locs : List Loc) : Prop := Wg G N ad (cellOf G K ad M) s H locs
/-- contracts of methods that make nothing -/
abbrev CmI (l : Launch) (G : GT) (N K : Nat) (ad : Nat → Nat) (y : MethodName) (cd : ByteArray) (mL : Nat) (ty : FieldType) (fr lo : Nat) (av : List Value) (M : Mem) (post : Int32 → Mem → Prop) : Prop := Met l y (.code y cd mL (some ty) :: TB) { frames := fr, cells := 0, slots := 0, locals := lo } (va_Pc av (HdM G N K ad M)) (va_Qi post (fun u t => HdM G N K ad u t) (fun q => G.1 ≤ q)) 0 0 (fun q => G.1 ≤ q)
abbrev CmV (l : Launch) (G : GT) (N K : Nat) (ad : Nat → Nat) (y : MethodName) (cd : ByteArray) (mL : Nat) (fr lo : Nat) (av : List Value) (M : Mem) (post : Mem → Prop) : Prop := Met l y (.code y cd mL none :: TB) { frames := fr, cells := 0, slots := 0, locals := lo } (va_Pc av (HdM G N K ad M)) (va_Qv post (fun u t => HdM G N K ad u t) (fun q => G.1 ≤ q)) 0 0 (fun q => G.1 ≤ q)
/-- a walk's end, in a method that makes nothing -/
abbrev QmI (G : GT) (N K : Nat) (ad : Nat → Nat) (post : Int32 → Mem → Prop) (below : List Frame) (args : Array Value) (s : State) : State → Prop := MQ below (va_Qi post (fun u t => HdM G N K ad u t) (fun q => G.1 ≤ q)) args s 0 0 (fun q => G.1 ≤ q)
abbrev QmV (G : GT) (N K : Nat) (ad : Nat → Nat) (post : Mem → Prop) (below : List Frame) (args : Array Value) (s : State) : State → Prop := MQ below (va_Qv post (fun u t => HdM G N K ad u t) (fun q => G.1 ≤ q)) args s 0 0 (fun q => G.1 ≤ q)
section MEM
variable {p : Program} {l : Launch} {e : Env} {R : Room} {s : State} {m : MethodId} {args : Array Value} {below : List Frame} {meth : Method} {c : Code} {H : Heap} {locs : List Loc} {cells slots : Nat} {Q : State → Prop}
variable {cc : ByteArray} {pc nL : Nat} {ls : Array Slot} {rest st0 : List Value} {own : String} {G : GT} {N K : Nat} {ad : Nat → Nat} {M : Mem}
theorem cm_startI {y : MethodName} {cd : ByteArray} {mL fr lo : Nat} {ty : FieldType} {av : List Value} {post : Int32 → Mem → Prop} (hy : plainName y.cls = true) (hn : (lg_sl av).length ≤ mL)
    (body : ∀ (p : Program) (e : Env) (s : State) (m : MethodId) (below : List Frame) (meth : Method) (c : Code) (ls : Array Slot), CallFix p m c cd mL s av.toArray TB y.cls → meth.sig.returnType = some ty → meth.locks = false → Wd G N K ad M s s.heap [] → lv_has ls mL (lv_args 0 av) →
      W p l e { frames := fr, cells := 0, slots := 0, locals := lo } s m av.toArray below meth c s.heap [] 0 0 (QmI G N K ad post below av.toArray s) (F0 m 0 ls [])) : CmI l G N K ad y cd mL ty fr lo av M post := by
  refine Met.ofW (cc := cd) (maxL := mL) (ret := some ty) hy rfl ?_
  intro p e s m args below meth c s₁ B hml hv
  obtain ⟨rfl, hH⟩ := hv
  have hts := atoms_spec (ws := .code y cd mL (some ty) :: TB) B.pre
  have hl := lv_entry av (n := mL) hn
  rw [lg_entry_eq]
  exact body p e s m below meth c _ ⟨B.exec, B.bytes, hml, findClass_of_methodNamed B.named, fun w hw => hts w (List.mem_cons_of_mem _ hw)⟩ B.returns B.notSynchronized hH.start hl
theorem cm_startV {y : MethodName} {cd : ByteArray} {mL fr lo : Nat} {av : List Value} {post : Mem → Prop} (hy : plainName y.cls = true) (hn : (lg_sl av).length ≤ mL)
    (body : ∀ (p : Program) (e : Env) (s : State) (m : MethodId) (below : List Frame) (meth : Method) (c : Code) (ls : Array Slot), CallFix p m c cd mL s av.toArray TB y.cls → meth.sig.returnType = none → meth.locks = false → Wd G N K ad M s s.heap [] → lv_has ls mL (lv_args 0 av) →
      W p l e { frames := fr, cells := 0, slots := 0, locals := lo } s m av.toArray below meth c s.heap [] 0 0 (QmV G N K ad post below av.toArray s) (F0 m 0 ls [])) : CmV l G N K ad y cd mL fr lo av M post := by
  refine Met.ofW (cc := cd) (maxL := mL) (ret := none) hy rfl ?_
  intro p e s m args below meth c s₁ B hml hv
  obtain ⟨rfl, hH⟩ := hv
  have hts := atoms_spec (ws := .code y cd mL none :: TB) B.pre
  have hl := lv_entry av (n := mL) hn
  rw [lg_entry_eq]
  exact body p e s m below meth c _ ⟨B.exec, B.bytes, hml, findClass_of_methodNamed B.named, fun w hw => hts w (List.mem_cons_of_mem _ hw)⟩ B.returns B.notSynchronized hH.start hl
theorem m_reti {post : Int32 → Mem → Prop} {v : Int32} (S : CallFix p m c cc nL s args TB own) (hr : meth.sig.returnType = some .int) (hlocks : meth.locks = false) (hw : Wd G N K ad M s H locs) (hdg : decode cc pc = .ok (.ireturn, 1)) (hp : post v M) :
    W p l e R s m args below meth c H locs 0 0 (QmI G N K ad post below args s) (F0 m pc ls [.int v]) :=
  W.iret (v := v) S.1 S.2.1 hr (fun t ht hW => ⟨⟨v, M, rfl, hp, hw.at ht hW⟩, hw.2.2.1.F ht⟩) hw.2.2.1.2.2 hdg hlocks
theorem m_retz {post : Int32 → Mem → Prop} {v : Int32} (S : CallFix p m c cc nL s args TB own) (hr : meth.sig.returnType = some .boolean) (hlocks : meth.locks = false) (hw : Wd G N K ad M s H locs) (hdg : decode cc pc = .ok (.ireturn, 1)) (hn : narrow .boolean (.int v) = .int v) (hp : post v M) :
    W p l e R s m args below meth c H locs 0 0 (QmI G N K ad post below args s) (F0 m pc ls [.int v]) :=
  W.zret (v := v) S.1 S.2.1 hr hn (fun t ht hW => ⟨⟨v, M, rfl, hp, hw.at ht hW⟩, hw.2.2.1.F ht⟩) hw.2.2.1.2.2 hdg hlocks
theorem m_retv {post : Mem → Prop} (S : CallFix p m c cc nL s args TB own) (hr : meth.sig.returnType = none) (hlocks : meth.locks = false) (hw : Wd G N K ad M s H locs) (hdg : decode cc pc = .ok (.return_, 1)) (hp : post M) :
    W p l e R s m args below meth c H locs 0 0 (QmV G N K ad post below args s) (F0 m pc ls []) :=
  W.vret S.1 S.2.1 hr (fun t ht hW => ⟨⟨M, rfl, hp, hw.at ht hW⟩, hw.2.2.1.F ht⟩) hw.2.2.1.2.2 hdg hlocks
theorem m_getI (k j : Nat) (S : CallFix p m c cc nL s args TB own) (hw : Wd G N K ad M s H locs) (hk : k < N) {ci : Nat} {fl : List (Option Nat)} (hsh : shp k = (3, ci, fl)) (hfl : fl[j]? = some none) {Cn : String} {T : u_T} {NN : Nat} (hcl : vwCl[ci]? = some (Cn, T, NN)) (hin : ∀ w ∈ u_ws Cn T NN, w ∈ TB) (hj : j < NN) {index : Nat} (hlk : Cond.fieldLink own index (T j).1 (T j).2.1 (T j).2.2.1 ∈ TB) (hdg : decode cc pc = .ok (.getfield index, 3))
    (kk : W p l e R s m args below meth c H locs cells slots Q (F0 m (pc + 3) ls (.int (M k j) :: rest))) : W p l e R s m args below meth c H locs cells slots Q (F0 m pc ls (.ref (ad k) :: rest)) :=
  g_get S hw k hk (cell_O hsh) hcl hin j hj hlk (flds_I hfl) hdg kk
theorem m_getR (k j t : Nat) (S : CallFix p m c cc nL s args TB own) (hw : Wd G N K ad M s H locs) (hk : k < N) {ci : Nat} {fl : List (Option Nat)} (hsh : shp k = (3, ci, fl)) (hfl : fl[j]? = some (some t)) {Cn : String} {T : u_T} {NN : Nat} (hcl : vwCl[ci]? = some (Cn, T, NN)) (hin : ∀ w ∈ u_ws Cn T NN, w ∈ TB) (hj : j < NN) {index : Nat} (hlk : Cond.fieldLink own index (T j).1 (T j).2.1 (T j).2.2.1 ∈ TB) (hdg : decode cc pc = .ok (.getfield index, 3))
    (kk : W p l e R s m args below meth c H locs cells slots Q (F0 m (pc + 3) ls (.ref (ad t) :: rest))) : W p l e R s m args below meth c H locs cells slots Q (F0 m pc ls (.ref (ad k) :: rest)) :=
  g_get S hw k hk (cell_O hsh) hcl hin j hj hlk (flds_R hfl) hdg kk
theorem m_putI (k j : Nat) (S : CallFix p m c cc nL s args TB own) (hw : Wd G N K ad M s H locs) (hk : k < N) {ci : Nat} {fl : List (Option Nat)} (hsh : shp k = (3, ci, fl)) (hfl : fl[j]? = some none) {Cn : String} {T : u_T} {NN : Nat} (hcl : vwCl[ci]? = some (Cn, T, NN)) (hin : ∀ w ∈ u_ws Cn T NN, w ∈ TB) {ty0 : Nat → FieldType} (hty : ∀ k, k < NN → parseFieldDescriptor (T k).2.2.1 = some (ty0 k)) (hnm : ∀ a, a < NN → ∀ b, b < NN → a ≠ b → (T a).2.1 ≠ (T b).2.1) (hj : j < NN) (hti : ty0 j = .int) (hfin : (T j).2.2.2 = false) {index : Nat} (hlk : Cond.fieldLink own index (T j).1 (T j).2.1 (T j).2.2.1 ∈ TB) {x : Int32} (hdg : decode cc pc = .ok (.putfield index, 3))
    (kk : ∀ (H1 : Heap) (locs1 : List Loc), Wd G N K ad (va_up M k (upd (M k) j x)) s H1 locs1 → W p l e R s m args below meth c H1 locs1 cells slots Q (F0 m (pc + 3) ls rest)) : W p l e R s m args below meth c H locs cells slots Q (F0 m pc ls (.int x :: .ref (ad k) :: rest)) := by
  refine g_put S hw k hk (cell_O hsh) hcl hin hty hnm j hj hlk hfin (by rw [hti]; rfl) (by rw [hti]; rfl) (by rw [flds_len]; exact (List.getElem?_eq_some_iff.mp hfl).1) hdg (fun H1 locs1 h => kk H1 locs1 ?_)
  rw [flds_set x hfl] at h
  rw [cell_up G K ad M k (upd (M k) j x) (by rw [cell_O hsh, va_up_self])] at h
  exact h
theorem m_ald (k j : Nat) (S : CallFix p m c cc nL s args TB own) (hw : Wd G N K ad M s H locs) (hk : k < N) {n : Nat} (hsh : shp k = (0, n, [])) (hn : n < 2 ^ 31) (hj : j < n) {i : Int32} (hi : i = nI j) (hdg : decode cc pc = .ok (.iaload, 1))
    (kk : W p l e R s m args below meth c H locs cells slots Q (F0 m (pc + 1) ls (.int (M k j) :: rest))) : W p l e R s m args below meth c H locs cells slots Q (F0 m pc ls (.int i :: .ref (ad k) :: rest)) := by
  subst hi
  refine g_ald S hw k hk (cell_I hsh) (vp_in_nI hj hn) hdg ?_
  rw [nI_clamp (by omega)]
  exact kk
theorem m_zld (k j : Nat) (S : CallFix p m c cc nL s args TB own) (hw : Wd G N K ad M s H locs) (hk : k < N) {n : Nat} (hsh : shp k = (1, n, [])) (hn : n < 2 ^ 31) (hj : j < n) {i : Int32} (hi : i = nI j) (hdg : decode cc pc = .ok (.baload, 1))
    (kk : W p l e R s m args below meth c H locs cells slots Q (F0 m (pc + 1) ls (.int (M k j) :: rest))) : W p l e R s m args below meth c H locs cells slots Q (F0 m pc ls (.int i :: .ref (ad k) :: rest)) := by
  subst hi
  refine g_zld S hw k hk (cell_Z hsh) (vp_in_nI hj hn) hdg ?_
  rw [nI_clamp (by omega)]
  exact kk
theorem m_ast (k j : Nat) (S : CallFix p m c cc nL s args TB own) (hw : Wd G N K ad M s H locs) (hk : k < N) {n : Nat} (hsh : shp k = (0, n, [])) (hn : n < 2 ^ 31) (hj : j < n) {i x : Int32} (hi : i = nI j) (hdg : decode cc pc = .ok (.iastore, 1))
    (kk : ∀ (H1 : Heap) (locs1 : List Loc), Wd G N K ad (va_up M k (upd (M k) j x)) s H1 locs1 → W p l e R s m args below meth c H1 locs1 cells slots Q (F0 m (pc + 1) ls rest)) : W p l e R s m args below meth c H locs cells slots Q (F0 m pc ls (.int x :: .int i :: .ref (ad k) :: rest)) := by
  subst hi
  refine g_ast S hw k hk (cell_I hsh) (vp_in_nI hj hn) hdg (fun H1 locs1 h => kk H1 locs1 ?_)
  rw [nI_clamp (by omega), cell_up G K ad M k (upd (M k) j x) (by rw [cell_I hsh, va_up_self])] at h
  exact h
theorem m_zst (k j : Nat) (S : CallFix p m c cc nL s args TB own) (hw : Wd G N K ad M s H locs) (hk : k < N) {n : Nat} (hsh : shp k = (1, n, [])) (hn : n < 2 ^ 31) (hj : j < n) {i x : Int32} (hi : i = nI j) (hx : vp_nar .boolean x = x) (hdg : decode cc pc = .ok (.bastore, 1))
    (kk : ∀ (H1 : Heap) (locs1 : List Loc), Wd G N K ad (va_up M k (upd (M k) j x)) s H1 locs1 → W p l e R s m args below meth c H1 locs1 cells slots Q (F0 m (pc + 1) ls rest)) : W p l e R s m args below meth c H locs cells slots Q (F0 m pc ls (.int x :: .int i :: .ref (ad k) :: rest)) := by
  subst hi
  refine g_zst S hw k hk (cell_Z hsh) (vp_in_nI hj hn) hx hdg (fun H1 locs1 h => kk H1 locs1 ?_)
  rw [nI_clamp (by omega), cell_up G K ad M k (upd (M k) j x) (by rw [cell_Z hsh, va_up_self])] at h
  exact h
theorem m_cpy (k0 k1 sp dp n : Nat) {index : Nat} (S : CallFix p m c cc nL s args TB own) (hls : ls.size = nL) (hlk : Cond.methodLink own index arraycopyName ∈ TB) (hw : Wd G N K ad M s H locs) (hk0 : k0 < N) (hk1 : k1 < N) {n0 n1 : Nat} (hs0 : shp k0 = (0, n0, [])) (hs1 : shp k1 = (0, n1, [])) (hn0 : n0 < 2 ^ 31) (hn1 : n1 < 2 ^ 31) {isp idp i : Int32} (h1 : isp = nI sp) (h2 : idp = nI dp) (h3 : i = nI n) (h4 : sp + n ≤ n0) (h5 : dp + n ≤ n1)
    (hframes : 1 ≤ R.frames) (hlocals : (rest.map fun v => v.category).sum + (nativeFrameWords "java/lang/System" "arraycopy" 5 + 11) ≤ R.locals) (hdg : decode cc pc = .ok (.invokestatic index, 3))
    (kk : ∀ (H1 : Heap) (locs1 : List Loc), Wd G N K ad (va_up M k1 (va_cpy (M k0) (M k1) sp dp n)) s H1 locs1 → W p l e R s m args below meth c H1 locs1 cells slots Q (F0 m (pc + 3) ls rest)) : W p l e R s m args below meth c H locs cells slots Q (F0 m pc ls (.int i :: .int idp :: .ref (ad k1) :: .int isp :: .ref (ad k0) :: rest)) := by
  subst h1 h2 h3
  refine g_cpy S hls hlk hw k0 k1 hk0 hk1 (cell_I hs0) (cell_I hs1) (nI_pos (by omega)) (nI_pos (by omega)) (nI_pos (by omega)) (by rw [nI_clamp (by omega), nI_clamp (by omega)]; exact h4) (by rw [nI_clamp (by omega), nI_clamp (by omega)]; exact h5) hframes hlocals hdg (fun H1 locs1 h => kk H1 locs1 ?_)
  rw [nI_clamp (by omega), nI_clamp (by omega), nI_clamp (by omega), cell_up G K ad M k1 (va_cpy (M k0) (M k1) sp dp n) (by rw [cell_I hs1, va_up_self])] at h
  exact h
theorem m_len (k : Nat) (S : CallFix p m c cc nL s args TB own) (hw : Wd G N K ad M s H locs) (hk : k < N) {n : Nat} (hsh : shp k = (0, n, [])) (hdg : decode cc pc = .ok (.arraylength, 1))
    (kk : W p l e R s m args below meth c H locs cells slots Q (F0 m (pc + 1) ls (.int (nI n) :: rest))) : W p l e R s m args below meth c H locs cells slots Q (F0 m pc ls (.ref (ad k) :: rest)) :=
  g_len S hw k hk (cell_I hsh) 0 rfl hdg kk
/-- calls of methods that make nothing -/
theorem m_VI (k : Nat) {y : MethodName} {cd : ByteArray} {mL fr lo index : Nat} {ty : FieldType} {As : List Value} {post : Int32 → Mem → Prop} (S : CallFix p m c cc nL s args TB own) (hw : Wd G N K ad M s H locs) (hk : k < N) {ci : Nat} {fl : List (Option Nat)} (hsh : shp k = (3, ci, fl)) {Cn : String} {T : u_T} {NN : Nat} (hcl : vwCl[ci]? = some (Cn, T, NN)) (hM : CmI l G N K ad y cd mL ty fr lo (.ref (ad k) :: As) M post)
    (mf : MFv y cd mL (some ty) Cn As.length) (hlk : Cond.methodLink own index y ∈ TB) (hR : fr + 1 ≤ R.frames ∧ 8 + (mL + 11) + lo ≤ R.locals) (hcs : cells ≤ R.cells ∧ slots ≤ R.slots) (hls : ls.size = nL) (hst : st0 = As.reverse ++ .ref (ad k) :: rest) (hrest : (rest.map fun v => v.category).sum ≤ 8) (hdg : decode cc pc = .ok (.invokevirtual index, 3))
    (kk : ∀ (r : Int32) (M1 : Mem) (H1 : Heap) (locs1 : List Loc), post r M1 → Wd G N K ad M1 s H1 locs1 → W p l e R s m args below meth c H1 locs1 cells slots Q (F0 m (pc + 3) ls (.int r :: rest))) : W p l e R s m args below meth c H locs cells slots Q (F0 m pc ls st0) :=
  g_cVI S hw k hk (cell_O hsh) hcl hM mf hlk hR hcs hls hst hrest hdg kk
theorem m_VV (k : Nat) {y : MethodName} {cd : ByteArray} {mL fr lo index : Nat} {As : List Value} {post : Mem → Prop} (S : CallFix p m c cc nL s args TB own) (hw : Wd G N K ad M s H locs) (hk : k < N) {ci : Nat} {fl : List (Option Nat)} (hsh : shp k = (3, ci, fl)) {Cn : String} {T : u_T} {NN : Nat} (hcl : vwCl[ci]? = some (Cn, T, NN)) (hM : CmV l G N K ad y cd mL fr lo (.ref (ad k) :: As) M post)
    (mf : MFv y cd mL none Cn As.length) (hlk : Cond.methodLink own index y ∈ TB) (hR : fr + 1 ≤ R.frames ∧ 8 + (mL + 11) + lo ≤ R.locals) (hcs : cells ≤ R.cells ∧ slots ≤ R.slots) (hls : ls.size = nL) (hst : st0 = As.reverse ++ .ref (ad k) :: rest) (hrest : (rest.map fun v => v.category).sum ≤ 8) (hdg : decode cc pc = .ok (.invokevirtual index, 3))
    (kk : ∀ (M1 : Mem) (H1 : Heap) (locs1 : List Loc), post M1 → Wd G N K ad M1 s H1 locs1 → W p l e R s m args below meth c H1 locs1 cells slots Q (F0 m (pc + 3) ls rest)) : W p l e R s m args below meth c H locs cells slots Q (F0 m pc ls st0) :=
  g_cVV S hw k hk (cell_O hsh) hcl hM mf hlk hR hcs hls hst hrest hdg kk
theorem m_SI {y : MethodName} {cd : ByteArray} {mL fr lo index : Nat} {ty : FieldType} {As : List Value} {post : Int32 → Mem → Prop} (S : CallFix p m c cc nL s args TB own) (hw : Wd G N K ad M s H locs) (hM : CmI l G N K ad y cd mL ty fr lo As M post)
    (mf : MFs y cd mL (some ty) As.length) (hlk : Cond.methodLink own index y ∈ TB) (hR : fr + 1 ≤ R.frames ∧ 8 + (mL + 11) + lo ≤ R.locals) (hcs : cells ≤ R.cells ∧ slots ≤ R.slots) (hls : ls.size = nL) (hst : st0 = As.reverse ++ rest) (hrest : (rest.map fun v => v.category).sum ≤ 8) (hdg : decode cc pc = .ok (.invokestatic index, 3))
    (kk : ∀ (r : Int32) (M1 : Mem) (H1 : Heap) (locs1 : List Loc), post r M1 → Wd G N K ad M1 s H1 locs1 → W p l e R s m args below meth c H1 locs1 cells slots Q (F0 m (pc + 3) ls (.int r :: rest))) : W p l e R s m args below meth c H locs cells slots Q (F0 m pc ls st0) :=
  g_cSI S hw hM mf hlk hR hcs hls hst hrest hdg kk
theorem m_SV {y : MethodName} {cd : ByteArray} {mL fr lo index : Nat} {As : List Value} {post : Mem → Prop} (S : CallFix p m c cc nL s args TB own) (hw : Wd G N K ad M s H locs) (hM : CmV l G N K ad y cd mL fr lo As M post)
    (mf : MFs y cd mL none As.length) (hlk : Cond.methodLink own index y ∈ TB) (hR : fr + 1 ≤ R.frames ∧ 8 + (mL + 11) + lo ≤ R.locals) (hcs : cells ≤ R.cells ∧ slots ≤ R.slots) (hls : ls.size = nL) (hst : st0 = As.reverse ++ rest) (hrest : (rest.map fun v => v.category).sum ≤ 8) (hdg : decode cc pc = .ok (.invokestatic index, 3))
    (kk : ∀ (M1 : Mem) (H1 : Heap) (locs1 : List Loc), post M1 → Wd G N K ad M1 s H1 locs1 → W p l e R s m args below meth c H1 locs1 cells slots Q (F0 m (pc + 3) ls rest)) : W p l e R s m args below meth c H locs cells slots Q (F0 m pc ls st0) :=
  g_cSV S hw hM mf hlk hR hcs hls hst hrest hdg kk
theorem m_NI {y : MethodName} {cd : ByteArray} {mL fr lo index : Nat} {ty : FieldType} {As : List Value} {post : Int32 → Mem → Prop} (S : CallFix p m c cc nL s args TB own) (hw : Wd G N K ad M s H locs) (hM : CmI l G N K ad y cd mL ty fr lo As M post)
    (mf : MFs y cd mL (some ty) As.length) (hlk : (own, index, y) ∈ nests) (hR : fr + 1 ≤ R.frames ∧ 8 + (mL + 11) + lo ≤ R.locals) (hcs : cells ≤ R.cells ∧ slots ≤ R.slots) (hls : ls.size = nL) (hst : st0 = As.reverse ++ rest) (hrest : (rest.map fun v => v.category).sum ≤ 8) (hdg : decode cc pc = .ok (.invokestatic index, 3))
    (kk : ∀ (r : Int32) (M1 : Mem) (H1 : Heap) (locs1 : List Loc), post r M1 → Wd G N K ad M1 s H1 locs1 → W p l e R s m args below meth c H1 locs1 cells slots Q (F0 m (pc + 3) ls (.int r :: rest))) : W p l e R s m args below meth c H locs cells slots Q (F0 m pc ls st0) :=
  g_cNI S hw hM mf hlk hR hcs hls hst hrest hdg kk
end MEM
