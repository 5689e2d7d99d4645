theorem cm_startF {l : Launch} {G : GT} {N K : Nat} {ad : Nat → Nat} {M : Mem} {y : MethodName} {cd : ByteArray} {mL fr lo : Nat} {ty : FieldType} {av : List Value} {post : Int32 → Mem → Prop} (hy : plainFor y = true) (hn : (lg_sl av).length ≤ mL)
    (body : ∀ (p : Program) (e : Env) (s : State) (m : MethodId) (below : List Frame) (meth : Method) (c : Code) (ls : Array Slot), CallFix p m c cd mL s av.toArray TB y.cls → meth.sig.returnType = some ty → meth.locks = false → Wd G N K ad M s s.heap [] → lv_has ls mL (lv_args 0 av) →
      W p l e { frames := fr, cells := 0, slots := 0, locals := lo } s m av.toArray below meth c s.heap [] 0 0 (QmI G N K ad post below av.toArray s) (F0 m 0 ls [])) : CmI l G N K ad y cd mL ty fr lo av M post := by
  refine va_MetF (cc := cd) (maxL := mL) (ret := some ty) hy rfl ?_
  intro p e s m args below meth c s₁ B hml hv
  obtain ⟨rfl, hH⟩ := hv
  have hts := atoms_spec (ws := .code y cd mL (some ty) :: TB) B.pre
  have hl := lv_entry av (n := mL) hn
  rw [lg_entry_eq]
  exact body p e s m below meth c _ ⟨B.exec, B.bytes, hml, findClass_of_methodNamed B.named, fun w hw => hts w (List.mem_cons_of_mem _ hw)⟩ B.returns B.notSynchronized hH.start hl
