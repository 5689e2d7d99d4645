/-! CALLS THAT ONLY READ: class and reference answer alike -/
theorem lst_cg {p q : Nat → Bool} : ∀ {n : Nat}, (∀ i, i < n → p i = q i) → lstB p n = lstB q n
  | 0, _ => rfl
  | n + 1, h => by rw [lstB, lstB, h n (by omega), lst_cg (fun i hi => h i (by omega))]
theorem fst_cg {p q : Nat → Bool} : ∀ {c j : Nat}, (∀ i, i < j + c → p i = q i) → fstE p c j = fstE q c j
  | 0, _, _ => rfl
  | c + 1, j, h => by rw [fstE, fstE, h j (by omega), fst_cg (c := c) (j := j + 1) (fun i hi => h i (by omega))]
theorem ifA_eq {c : Bool} {a b z : Int32} (h : c = true → a = b) : ifA c a z = ifA c b z := by
  cases c
  · rfl
  · exact h rfl
theorem sumI_ext {f : Nat → Int32} {D : Nat} : ∀ (c : Nat), (∀ e, D ≤ e → e < D + c → f e = nI 0) → sumI f (D + c) = sumI f D
  | 0, _ => rfl
  | c + 1, h => by
    rw [show D + (c + 1) = (D + c) + 1 by omega, sumI, h (D + c) (by omega) (by omega), sumI_ext c (fun e h1 h2 => h e h1 (by omega))]
    exact Int32.add_zero _
section READS
variable {B K P D n b0 Wn : Nat} {M : Mem}
theorem st_at (h : Rel B K P D n b0 Wn M) (x y : Int32) : ifA (inB x n) (swA y [M 22 (tn x), M 23 (tn x), M 24 (tn x), ifA (bord (M 24) (M 23) (tn x)).isSome (M 25 (tn x)) (nI 0)]) (-1) = ifA (inB x n) (swA y [M 35 (tn x), M 36 (tn x), M 37 (tn x), ifA (bord (M 37) (M 36) (tn x)).isSome (M 38 (tn x)) (nI 0)]) (-1) := by
  obtain ⟨ha, ht, hd, hw, hb, hm, hs⟩ := h
  obtain ⟨m1, m2, -, m4, m5, m6, m7, ⟨f1, f2, f3, f4⟩, m9, m10, m11, m12, m13, m14⟩ := hm.un
  have hn := ha.b.2.1
  refine ifA_eq (fun e => ?_)
  have hx := (tn_lt e (by omega)).1
  rw [f1 _ hx, f2 _ hx, f3 _ hx, f4 _ hx, bord_cg f3 f2 hx]
theorem st_batch (h : Rel B K P D n b0 Wn M) (x y : Int32) : ifA (inB x (b0 + P)) (swA y [M 18 (tn x), nI (cntB (fun j => eqB (M 22 j) x) n), enc (fstE (fun j => eqB (M 22 j) x) n 0), enc (lstB (fun j => eqB (M 22 j) x) n), M 31 (tn x), M 19 (tn x)]) (-1) = ifA (inB x (b0 + P)) (swA y [M 39 (tn x), nI (cntB (fun j => eqB (M 35 j) x) n), enc (fstE (fun j => eqB (M 35 j) x) n 0), enc (lstB (fun j => eqB (M 35 j) x) n), M 41 (tn x), M 40 (tn x)]) (-1) := by
  obtain ⟨ha, ht, hd, hw, ⟨b1, b2, -, -⟩, hm, hs⟩ := h
  obtain ⟨m1, m2, -, m4, m5, m6, m7, ⟨f1, f2, f3, f4⟩, m9, m10, m11, m12, m13, m14⟩ := hm.un
  have hb2 := ha.b.2.2.2.1
  refine ifA_eq (fun e => ?_)
  have hx := (tn_lt e (by omega)).1
  have k : ∀ i, i < n → (fun j => eqB (M 22 j) x) i = (fun j => eqB (M 35 j) x) i := fun i hi => by
    show eqB (M 22 i) x = eqB (M 35 i) x
    rw [f1 i hi]
  rw [b1 _ hx, b2 _ hx, m11 _ hx, cntB_congr k, lst_cg k, fst_cg (c := n) (j := 0) (fun i hi => k i (by omega))]
theorem st_tankOf (h : Rel B K P D n b0 Wn M) (x y z : Int32) : ifA (inB x D && (inB y 8 && !eqB (M 9 (tn x * 8 + tn y)) 0)) (swA z [M 27 (tn x * 8 + tn y), M 28 (tn x * 8 + tn y), M 10 (tn x * 8 + tn y), M 11 (tn x * 8 + tn y), M 29 (tn x * 8 + tn y)]) (-1) = ifA (inB x D && (inB y 8 && !eqB (M 45 (tn x * 8 + tn y)) 0)) (swA z [M 48 (tn x * 8 + tn y), M 49 (tn x * 8 + tn y), M 46 (tn x * 8 + tn y), M 47 (tn x * 8 + tn y), M 50 (tn x * 8 + tn y)]) (-1) := by
  obtain ⟨ha, ht, hd, hw, hb, hm, hs⟩ := h
  obtain ⟨m1, m2, -, m4, m5, m6, m7, m8, m9, m10, m11, m12, m13, m14⟩ := hm.un
  obtain ⟨g2, g3, g4, g9⟩ := TG.un ht.1
  have hD6 := ha.b.1
  have eq : (inB x D && (inB y 8 && !eqB (M 9 (tn x * 8 + tn y)) 0)) = (inB x D && (inB y 8 && !eqB (M 45 (tn x * 8 + tn y)) 0)) := by
    cases hx : inB x D
    · rfl
    cases hy : inB y 8
    · rfl
    have hx := tn_lt hx (by omega)
    have hy := tn_lt hy (by decide)
    have e : eqB (M 9 (tn x * 8 + tn y)) 0 = eqB (M 45 (tn x * 8 + tn y)) 0 := decide_eq_decide.mpr (g9 (tn x * 8 + tn y) (by omega)).1
    rw [e]
  rw [← eq]
  refine ifA_eq (fun e => ?_)
  have hx := tn_lt (and2 e).1 (by omega)
  have hy := tn_lt (and2 (and2 e).2).1 (by decide)
  have n9 : ¬ M 9 (tn x * 8 + tn y) = 0 := by
    have := (and2 (and2 e).2).2
    simpa [eqB] using this
  obtain ⟨k1, k2, k3⟩ := m9 (tn x * 8 + tn y) (by omega) n9
  obtain ⟨k4, k5⟩ := (g9 (tn x * 8 + tn y) (by omega)).2 n9
  rw [k1, k2, k3, k4, k5]
theorem st_about (h : Rel B K P D n b0 Wn M) (x y : Int32) : ifA (inB x D) (swA y [M 7 (tn x), M 8 (tn x), M 30 (tn x)]) (-1) = ifA (inB x D) (swA y [M 42 (tn x), M 43 (tn x), M 44 (tn x)]) (-1) := by
  obtain ⟨ha, ht, ⟨d1, d2, d3, d4⟩, hw, hb, hm, hs⟩ := h
  obtain ⟨m1, m2, -, m4, m5, m6, m7, m8, m9, m10, m11, m12, m13, m14⟩ := hm.un
  have hD6 := ha.b.1
  refine ifA_eq (fun e => ?_)
  have hx := (tn_lt e (by omega)).1
  rw [d1 _ hx, d2 _ hx, m10 _ hx]
theorem late_eq (h : Rel B K P D n b0 Wn M) (w : Nat) (hwn : w < Wn) : lateS (M 32) (M 15) (M 20 0) w = lateS (M 59) (M 57) (M 34 24) w := by
  obtain ⟨ha, ht, hd, ⟨w1, w2, w3, w4, w5⟩, hb, hm, hs⟩ := h
  obtain ⟨m1, m2, -, m4, m5, m6, m7, m8, m9, m10, m11, m12, m13, m14⟩ := hm.un
  unfold lateS
  rw [m12 w hwn, w3 w hwn, m4]
theorem st_wished (h : Rel B K P D n b0 Wn M) (x y : Int32) : ifA (inB x Wn) (swA y [M 32 (tn x), lateS (M 32) (M 15) (M 20 0) (tn x), wantS (M 13) (M 14) (M 16) (M 29) (tn x)]) (-1) = ifA (inB x Wn) (swA y [M 59 (tn x), lateS (M 59) (M 57) (M 34 24) (tn x), wantS (M 55) (M 56) (M 58) (M 50) (tn x)]) (-1) := by
  have hl := late_eq h
  obtain ⟨ha, ht, hd, ⟨w1, w2, w3, w4, w5⟩, hb, hm, hs⟩ := h
  obtain ⟨m1, m2, -, m4, m5, m6, m7, m8, m9, m10, m11, m12, m13, m14⟩ := hm.un
  have hW := ha.b.2.2.2.2
  have hD6 := ha.b.1
  refine ifA_eq (fun e => ?_)
  have hx := (tn_lt e (by omega)).1
  obtain ⟨⟨tk, k1, k2, k3⟩, -⟩ := w5 _ hx
  have ew : wantS (M 13) (M 14) (M 16) (M 29) (tn x) = wantS (M 55) (M 56) (M 58) (M 50) (tn x) := by
    unfold wantS
    rw [← w1 _ hx, ← w2 _ hx, ← w4 _ hx, k2, tn_nI (by omega), (m9 tk k1 k3).2.2]
  rw [m12 _ hx, hl _ hx, ew]
theorem st_count (h : Rel B K P D n b0 Wn M) (x : Int32) : swA x [M 20 0, M 20 1, M 20 2, nI (cntB (fun j => !pureB (M 24) j) n), sumI (M 30) 6, M 21 0, M 6 0, sumI (lateS (M 32) (M 15) (M 20 0)) Wn, M 0 8] = swA x [M 34 24, M 34 25, M 34 6, nI (cntB (fun j => !pureB (M 37) j) n), sumI (M 44) D, M 34 1, M 34 10, sumI (lateS (M 59) (M 57) (M 34 24)) Wn, M 34 33] := by
  have hl := late_eq h
  obtain ⟨ha, ht, hd, hw, hb, hm, hs⟩ := h
  obtain ⟨m1, m2, -, m4, m5, m6, m7, ⟨f1, f2, f3, f4⟩, m9, m10, m11, m12, m13, m14⟩ := hm.un
  have hD6 := ha.b.1
  obtain ⟨a1, a2, a3, a4, a5, a6, a7, a8, a9, c1, c2, c3, c4⟩ := ha
  have e1 : cntB (fun j => !pureB (M 24) j) n = cntB (fun j => !pureB (M 37) j) n := cntB_congr (fun i hi => by rw [pure_cg (f3 i hi)])
  have e2 : sumI (M 30) 6 = sumI (M 44) D := by
    have := sumI_ext (f := M 30) (D := D) (6 - D) (fun e h1 h2 => m13 e h1 (by omega))
    rw [show D + (6 - D) = 6 by omega] at this
    rw [this]
    exact sumI_congr m10
  rw [sumI_congr hl, e1, e2, m4, m5, m6, m1, c3, a3, c2, a1, c1]
theorem st_borders (h : Rel B K P D n b0 Wn M) : nI (cntB (fun j => (bord (M 24) (M 23) j).isSome) n) = nI (cntB (fun j => (bord (M 37) (M 36) j).isSome) n) := by
  obtain ⟨ha, ht, hd, hw, hb, hm, hs⟩ := h
  obtain ⟨m1, m2, -, m4, m5, m6, m7, ⟨f1, f2, f3, f4⟩, m9, m10, m11, m12, m13, m14⟩ := hm.un
  rw [cntB_congr (p := fun j => (bord (M 24) (M 23) j).isSome) (q := fun j => (bord (M 37) (M 36) j).isSome) (fun i hi => by
    show (bord (M 24) (M 23) i).isSome = (bord (M 37) (M 36) i).isSome
    rw [bord_cg f3 f2 hi])]
end READS
