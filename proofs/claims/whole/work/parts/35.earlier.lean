/-! A MOMENT MORE: the world with one more row of 'earlier' -/
theorem stab_tgt : ∀ i, i < 61 → ∀ t, t ∈ (stab.getD i (0, 0, [])).2.2.filterMap id → t < 61 := by decide
theorem mem_some {l : List (Option Nat)} {t : Nat} (h : some t ∈ l) : t ∈ l.filterMap id := List.mem_filterMap.mpr ⟨some t, h, rfl⟩
theorem mshp_tgt (mb r t : Nat) (h : some t ∈ (mshp mb r).2.2) : t < mb + 13 := by
  have hr : r = 0 ∨ r = 1 ∨ r = 6 ∨ (mshp mb r).2.2 = [] := by
    unfold mshp
    split <;> simp
  rcases hr with rfl | rfl | rfl | hr
  · simp [mshp] at h; omega
  · simp [mshp] at h; omega
  · simp [mshp] at h; omega
  · rw [hr] at h; simp at h
theorem shp_tgt {K i t : Nat} (hi : i < 61 + 13 * K) (h : some t ∈ (shp i).2.2) : t < 61 + 13 * K := by
  unfold shp at h
  by_cases c : i < 61
  · rw [if_pos c] at h
    have := stab_tgt i c t (mem_some h)
    omega
  · rw [if_neg c] at h
    have h2 := mshp_tgt _ _ _ h
    have h3 : (i - 61) / 13 < K := by omega
    omega
theorem flds_ext {ad ad2 : Nat → Nat} {f : Nat → Int32} {l : List (Option Nat)} (h : ∀ t, some t ∈ l → ad t = ad2 t) : flds ad f l = flds ad2 f l := by
  unfold flds
  apply List.map_congr_left
  intro q hq
  obtain ⟨o, j⟩ := q
  cases o with
  | none => rfl
  | some t =>
    have hm : some t ∈ l := by
      have := List.mem_zipIdx hq
      simp at this
      obtain ⟨h1, h2⟩ := this
      rw [h2]
      exact List.getElem_mem h1
    show Value.ref (ad t) = Value.ref (ad2 t)
    rw [h t hm]
theorem shp_2 {i : Nat} (h : (shp i).1 = 2) : i = 33 := by
  unfold shp at h
  by_cases c : i < 61
  · rw [if_pos c] at h
    have key : ∀ i, i < 61 → (stab.getD i (0, 0, [])).1 = 2 → i = 33 := by decide
    exact key i c h
  · rw [if_neg c] at h
    exfalso
    have : ∀ mb r, (mshp mb r).1 ≠ 2 := by
      intro mb r
      unfold mshp
      split <;> simp
    exact this _ _ h
theorem cell_ext {G : GT} {K K2 : Nat} {ad ad2 : Nat → Nat} {M M2 : Mem} {i : Nat} (hi : i < 61 + 13 * K) (h33 : i ≠ 33) (ha : ∀ t, t < 61 + 13 * K → ad t = ad2 t) (hM : M i = M2 i) : cellOf G K ad M i = cellOf G K2 ad2 M2 i := by
  unfold cellOf
  rw [hM, flds_ext (fun t ht => ha t (shp_tgt hi ht))]
  by_cases c0 : (shp i).1 = 0
  · rw [if_pos c0, if_pos c0]
  · rw [if_neg c0, if_neg c0]
    by_cases c1 : (shp i).1 = 1
    · rw [if_pos c1, if_pos c1]
    · rw [if_neg c1, if_neg c1]
      by_cases c2 : (shp i).1 = 2
      · exact absurd (shp_2 c2) h33
      · rw [if_neg c2, if_neg c2]
/-- the memory with a new moment's cells -/
def newM (K : Nat) (M : Mem) : Mem := fun i => if i < 61 + 13 * K then M i else if i = 61 + 13 * K then (fun j => if j = 2 then nI 1 else nI 0) else fun _ => 0
theorem newM_lt {K i : Nat} {M : Mem} (h : i < 61 + 13 * K) : newM K M i = M i := by simp [newM, h]
theorem newM_at {K : Nat} {M : Mem} : newM K M (61 + 13 * K) = fun j => if j = 2 then nI 1 else nI 0 := by simp [newM]
theorem newM_gt {K i : Nat} {M : Mem} (h : 61 + 13 * K < i) : newM K M i = fun _ => 0 := by
  unfold newM
  rw [if_neg (by omega), if_neg (by omega)]
theorem isMk {K : Nat} : IsM (61 + 13 * (K + 1)) (K + 1) (61 + 13 * K) := isMj (Nat.lt_succ_self K)
section Q35
variable {p : Program} {l : Launch} {e : Env} {R : Room} {s : State} {m : MethodId} {args : Array Value} {below : List Frame} {meth : Method} {c : Code} {H : Heap} {locs : List Loc} {cells slots : Nat} {Q : State → Prop}
variable {cc : ByteArray} {pc nL : Nat} {ls : Array Slot} {rest st0 : List Value} {own : String} {G : GT} {N K : Nat} {ad : Nat → Nat} {C : Nat → va_E} {M : Mem}
theorem x_qst (S : CallFix p m c cc nL s args TB own) (hw : Wg G N ad C s H locs) (k t : Nat) {a b : Nat} (ha : ad k = a) (hb : ad t = b) (hk : k < N) {n : Nat} {f : Nat → Option Nat} (hC : C k = .inl (G.2.2.2.2, n, .inr (.inr (.inr (.inr f))))) (ht : t < N) {fs : List Value} (hCt : C t = .inr (1, fs)) (hn : n < 2 ^ 31) (j : Nat) (hj : j < n) (hdg : decode cc pc = .ok (.aastore, 1))
    (kk : ∀ (C1 : Nat → va_E) (H1 : Heap) (locs1 : List Loc), C1 = va_up C k (.inl (G.2.2.2.2, n, .inr (.inr (.inr (.inr (va_up f j (some b))))))) → Wg G N ad C1 s H1 locs1 → W p l e R s m args below meth c H1 locs1 cells slots Q (F0 m (pc + 1) ls rest)) : W p l e R s m args below meth c H locs cells slots Q (F0 m pc ls (.ref b :: .int (nI j) :: .ref a :: rest)) := by
  subst ha
  subst hb
  refine g_qst S hw k hk hC t ht hCt (vp_in_nI hj hn) hdg (fun H1 locs1 h => kk _ H1 locs1 rfl ?_)
  rw [nI_clamp (by omega)] at h
  exact h
theorem m_qld (S : CallFix p m c cc nL s args TB own) (hw : Wd G N K ad M s H locs) (hk : 33 < N) (j : Nat) (hj : j < K) (hK : j < 200) (hdg : decode cc pc = .ok (.aaload, 1))
    (kk : W p l e R s m args below meth c H locs cells slots Q (F0 m (pc + 1) ls (.ref (ad (61 + 13 * j)) :: rest))) : W p l e R s m args below meth c H locs cells slots Q (F0 m pc ls (.int (nI j) :: .ref (ad 33) :: rest)) := by
  refine g_qld S hw 33 hk (cell_Q (n := 200) (l := []) rfl) (vp_in_nI hK (by decide)) hdg ?_
  rw [nI_clamp (by omega), if_pos hj]
  exact kk
theorem m_qldN (S : CallFix p m c cc nL s args TB own) (hw : Wd G N K ad M s H locs) (hk : 33 < N) (j : Nat) (hj : ¬ j < K) (hK : j < 200) (hdg : decode cc pc = .ok (.aaload, 1))
    (kk : W p l e R s m args below meth c H locs cells slots Q (F0 m (pc + 1) ls (.null :: rest))) : W p l e R s m args below meth c H locs cells slots Q (F0 m pc ls (.int (nI j) :: .ref (ad 33) :: rest)) := by
  refine g_qld S hw 33 hk (cell_Q (n := 200) (l := []) rfl) (vp_in_nI hK (by decide)) hdg ?_
  rw [nI_clamp (by omega), if_neg hj]
  exact kk
end Q35
theorem i32_min {a b : Nat} (ha : a < 2 ^ 31) (hb : b < 2 ^ 31) : (if nI b < nI a then nI b else nI a) = nI (min a b) := by
  by_cases c : b < a
  · rw [if_pos ((nI_ltI hb ha).mpr c), Nat.min_eq_right (by omega)]
  · rw [if_neg (fun z => c ((nI_ltI hb ha).mp z)), Nat.min_eq_left (by omega)]
theorem i32_max {a b : Nat} (ha : a < 2 ^ 31) (hb : b < 2 ^ 31) : (if nI a < nI b then nI b else nI a) = nI (max a b) := by
  by_cases c : a < b
  · rw [if_pos ((nI_ltI ha hb).mpr c), Nat.max_eq_right (by omega)]
  · rw [if_neg (fun z => c ((nI_ltI ha hb).mp z)), Nat.max_eq_left (by omega)]
/-- states of a method that may make a moment: how many there are, addresses, memory -/
abbrev Sa : Type := Nat × (Nat → Nat) × Mem
abbrev HdA (G : GT) (u : Sa) (t : State) : Prop := HdM G (61 + 13 * u.1) u.1 u.2.1 u.2.2 t
/-- older cells stay where they are -/
def Ext (K : Nat) (ad : Nat → Nat) (u : Sa) : Prop := K ≤ u.1 ∧ ∀ i, i < 61 + 13 * K → u.2.1 i = ad i
abbrev CaI (l : Launch) (G : GT) (K : Nat) (ad : Nat → Nat) (y : MethodName) (cd : ByteArray) (mL : Nat) (ty : FieldType) (fr lo mc ms : Nat) (av : List Value) (M : Mem) (post : Int32 → Sa → Prop) : Prop := Met l y (.code y cd mL (some ty) :: TB) { frames := fr, cells := mc, slots := ms, locals := lo } (va_Pc av (HdM G (61 + 13 * K) K ad M)) (va_Qi post (HdA G) (fun q => G.1 ≤ q)) mc ms (fun q => G.1 ≤ q)
abbrev CaR (l : Launch) (G : GT) (K : Nat) (ad : Nat → Nat) (y : MethodName) (cd : ByteArray) (mL : Nat) (ty : FieldType) (fr lo mc ms : Nat) (av : List Value) (M : Mem) (P : Nat) (post : Sa → Prop) : Prop := Met l y (.code y cd mL (some ty) :: TB) { frames := fr, cells := mc, slots := ms, locals := lo } (va_Pc av (HdM G (61 + 13 * K) K ad M)) (va_Qr post (fun u a t => a = u.2.1 (61 + 13 * P) ∧ HdA G u t) (fun q => G.1 ≤ q)) mc ms (fun q => G.1 ≤ q)
theorem ca_start {l : Launch} {G : GT} {K : Nat} {ad : Nat → Nat} {M : Mem} {y : MethodName} {cd : ByteArray} {mL fr lo mc ms : Nat} {ty : FieldType} {av : List Value} {Qc : Array Value → State → Outcome → State → Prop} (hy : plainName y.cls = true) (hn : (lg_sl av).length ≤ mL)
    (body : ∀ (p : Program) (e : Env) (s : State) (m : MethodId) (below : List Frame) (meth : Method) (c : Code) (ls : Array Slot), CallFix p m c cd mL s av.toArray TB y.cls → meth.sig.returnType = some ty → meth.locks = false → Wd G (61 + 13 * K) K ad M s s.heap [] → lv_has ls mL (lv_args 0 av) →
      W p l e { frames := fr, cells := mc, slots := ms, locals := lo } s m av.toArray below meth c s.heap [] 0 0 (MQ below Qc av.toArray s mc ms (fun q => G.1 ≤ q)) (F0 m 0 ls [])) : Met l y (.code y cd mL (some ty) :: TB) { frames := fr, cells := mc, slots := ms, locals := lo } (va_Pc av (HdM G (61 + 13 * K) K ad M)) Qc mc ms (fun q => G.1 ≤ q) := by
  refine Met.ofW (cc := cd) (maxL := mL) (ret := some ty) hy rfl ?_
  intro p e s m args below meth c s₁ B hml hv
  obtain ⟨rfl, hH⟩ := hv
  have hts := atoms_spec (ws := .code y cd mL (some ty) :: TB) B.pre
  have hl := lv_entry av (n := mL) hn
  rw [lg_entry_eq]
  exact body p e s m below meth c _ ⟨B.exec, B.bytes, hml, findClass_of_methodNamed B.named, fun w hw => hts w (List.mem_cons_of_mem _ hw)⟩ B.returns B.notSynchronized hH.start hl
section Q36
variable {p : Program} {l : Launch} {e : Env} {R : Room} {s : State} {m : MethodId} {args : Array Value} {below : List Frame} {meth : Method} {c : Code} {H : Heap} {locs : List Loc} {cells slots : Nat}
variable {cc : ByteArray} {pc nL : Nat} {ls : Array Slot} {own : String} {G : GT} {K : Nat} {ad : Nat → Nat} {M : Mem}
theorem a_reti {post : Int32 → Sa → Prop} {v : Int32} {mc ms : Nat} (S : CallFix p m c cc nL s args TB own) (hr : meth.sig.returnType = some .int) (hlocks : meth.locks = false) (hw : Wd G (61 + 13 * K) K ad M s H locs) (hc : cells ≤ mc) (hs : slots ≤ ms) (hdg : decode cc pc = .ok (.ireturn, 1)) (hp : post v (K, ad, M)) :
    W p l e R s m args below meth c H locs cells slots (MQ below (va_Qi post (HdA G) (fun q => G.1 ≤ q)) args s mc ms (fun q => G.1 ≤ q)) (F0 m pc ls [.int v]) :=
  W.widen hc hs (W.iret (v := v) S.1 S.2.1 hr (fun t ht hW => ⟨⟨v, (K, ad, M), rfl, hp, hw.at ht hW⟩, hw.2.2.1.F ht⟩) hw.2.2.1.2.2 hdg hlocks)
theorem a_retr {post : Sa → Prop} {P : Nat} {C : String} {mc ms a : Nat} (S : CallFix p m c cc nL s args TB own) (hr : meth.sig.returnType = some (.object C)) (hlocks : meth.locks = false) (hw : Wd G (61 + 13 * K) K ad M s H locs) (hc : cells ≤ mc) (hs : slots ≤ ms) (hdg : decode cc pc = .ok (.areturn, 1)) (ha : a = ad (61 + 13 * P)) (hp : post (K, ad, M)) :
    W p l e R s m args below meth c H locs cells slots (MQ below (va_Qr post (fun u a t => a = u.2.1 (61 + 13 * P) ∧ HdA G u t) (fun q => G.1 ≤ q)) args s mc ms (fun q => G.1 ≤ q)) (F0 m pc ls [.ref a]) :=
  W.widen hc hs (W.aret (v := .ref a) (rt := .object C) S.1 S.2.1 hr (Or.inl ⟨C, rfl⟩) (Or.inr ⟨a, rfl⟩) (fun t ht hW => ⟨⟨(K, ad, M), a, rfl, hp, ha, hw.at ht hW⟩, hw.2.2.1.F ht⟩) hw.2.2.1.2.2 hdg hlocks)
end Q36
