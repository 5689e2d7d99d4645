/-! THE REFERENCE'S BOOK: a page holds a moment's rows one behind the other -/
def pgR (n q : Nat) : Nat := if q < 4 * n then 2 + q % 4 else if q < 4 * n + 144 then 7 + (q - 4 * n) % 3 else if q < 4 * n + 150 then 10 else if q < 4 * n + 170 then 12 else if q < 4 * n + 370 then 11 else 0
def pgJ (n q : Nat) : Nat := if q < 4 * n then q / 4 else if q < 4 * n + 144 then (q - 4 * n) / 3 else if q < 4 * n + 150 then q - 4 * n - 144 else if q < 4 * n + 170 then q - 4 * n - 150 else if q < 4 * n + 370 then q - 4 * n - 170 else q - 4 * n - 370
def pgF (n : Nat) (R : Mem) (q : Nat) : Int32 := R (pgR n q) (pgJ n q)
theorem pg_1 {n i c : Nat} (h : i < n) (hc : c < 4) : pgR n (4 * i + c) = 2 + c ∧ pgJ n (4 * i + c) = i := by
  unfold pgR pgJ
  rw [if_pos (by omega), if_pos (by omega)]
  omega
theorem pg_2 {n i c : Nat} (h : i < 48) (hc : c < 3) : pgR n (4 * n + 3 * i + c) = 7 + c ∧ pgJ n (4 * n + 3 * i + c) = i := by
  unfold pgR pgJ
  rw [if_neg (by omega), if_pos (by omega), if_neg (by omega), if_pos (by omega)]
  omega
theorem pg_3 {n i : Nat} (h : i < 6) : pgR n (4 * n + 144 + i) = 10 ∧ pgJ n (4 * n + 144 + i) = i := by
  unfold pgR pgJ
  rw [if_neg (by omega), if_neg (by omega), if_pos (by omega), if_neg (by omega), if_neg (by omega), if_pos (by omega)]
  omega
theorem pg_4 {n i : Nat} (h : i < 20) : pgR n (4 * n + 150 + i) = 12 ∧ pgJ n (4 * n + 150 + i) = i := by
  unfold pgR pgJ
  rw [if_neg (by omega), if_neg (by omega), if_neg (by omega), if_pos (by omega), if_neg (by omega), if_neg (by omega), if_neg (by omega), if_pos (by omega)]
  omega
theorem pg_5 {n i : Nat} (h : i < 200) : pgR n (4 * n + 170 + i) = 11 ∧ pgJ n (4 * n + 170 + i) = i := by
  unfold pgR pgJ
  rw [if_neg (by omega), if_neg (by omega), if_neg (by omega), if_neg (by omega), if_pos (by omega), if_neg (by omega), if_neg (by omega), if_neg (by omega), if_neg (by omega), if_pos (by omega)]
  omega
theorem pg_6 {n c : Nat} (h : c < 3) : pgR n (4 * n + 370 + c) = 0 ∧ pgJ n (4 * n + 370 + c) = c := by
  unfold pgR pgJ
  rw [if_neg (by omega), if_neg (by omega), if_neg (by omega), if_neg (by omega), if_neg (by omega), if_neg (by omega), if_neg (by omega), if_neg (by omega), if_neg (by omega), if_neg (by omega)]
  omega
/-- which of the six stretches a place lies in -/
theorem pg_of (n q : Nat) (h : q < 4 * n + 373) : (∃ i c, i < n ∧ c < 4 ∧ q = 4 * i + c) ∨ (∃ i c, i < 48 ∧ c < 3 ∧ q = 4 * n + 3 * i + c) ∨ (∃ i, i < 6 ∧ q = 4 * n + 144 + i) ∨ (∃ i, i < 20 ∧ q = 4 * n + 150 + i) ∨ (∃ i, i < 200 ∧ q = 4 * n + 170 + i) ∨ (∃ c, c < 3 ∧ q = 4 * n + 370 + c) := by
  by_cases h1 : q < 4 * n
  · exact Or.inl ⟨q / 4, q % 4, by omega, by omega, by omega⟩
  · by_cases h2 : q < 4 * n + 144
    · exact Or.inr (Or.inl ⟨(q - 4 * n) / 3, (q - 4 * n) % 3, by omega, by omega, by omega⟩)
    · by_cases h3 : q < 4 * n + 150
      · exact Or.inr (Or.inr (Or.inl ⟨q - 4 * n - 144, by omega, by omega⟩))
      · by_cases h4 : q < 4 * n + 170
        · exact Or.inr (Or.inr (Or.inr (Or.inl ⟨q - 4 * n - 150, by omega, by omega⟩)))
        · by_cases h5 : q < 4 * n + 370
          · exact Or.inr (Or.inr (Or.inr (Or.inr (Or.inl ⟨q - 4 * n - 170, by omega, by omega⟩))))
          · exact Or.inr (Or.inr (Or.inr (Or.inr (Or.inr ⟨q - 4 * n - 370, by omega, by omega⟩))))
theorem pg_inj {n q o : Nat} (hq : q < 4 * n + 373) (ho : o < 4 * n + 373) (h1 : pgR n q = pgR n o) (h2 : pgJ n q = pgJ n o) : q = o := by
  rcases pg_of n q hq with ⟨i, c, hi, hc, rfl⟩ | ⟨i, c, hi, hc, rfl⟩ | ⟨i, hi, rfl⟩ | ⟨i, hi, rfl⟩ | ⟨i, hi, rfl⟩ | ⟨i, hi, rfl⟩
  · rw [(pg_1 (n := n) hi hc).1] at h1; rw [(pg_1 (n := n) hi hc).2] at h2
    rcases pg_of n o ho with ⟨i2, c2, hi2, hc2, rfl⟩ | ⟨i2, c2, hi2, hc2, rfl⟩ | ⟨i2, hi2, rfl⟩ | ⟨i2, hi2, rfl⟩ | ⟨i2, hi2, rfl⟩ | ⟨i2, hi2, rfl⟩
    · rw [(pg_1 (n := n) hi2 hc2).1] at h1; rw [(pg_1 (n := n) hi2 hc2).2] at h2; omega
    · rw [(pg_2 (n := n) hi2 hc2).1] at h1; rw [(pg_2 (n := n) hi2 hc2).2] at h2; omega
    · rw [(pg_3 (n := n) hi2).1] at h1; rw [(pg_3 (n := n) hi2).2] at h2; omega
    · rw [(pg_4 (n := n) hi2).1] at h1; rw [(pg_4 (n := n) hi2).2] at h2; omega
    · rw [(pg_5 (n := n) hi2).1] at h1; rw [(pg_5 (n := n) hi2).2] at h2; omega
    · rw [(pg_6 (n := n) hi2).1] at h1; rw [(pg_6 (n := n) hi2).2] at h2; omega
  · rw [(pg_2 (n := n) hi hc).1] at h1; rw [(pg_2 (n := n) hi hc).2] at h2
    rcases pg_of n o ho with ⟨i2, c2, hi2, hc2, rfl⟩ | ⟨i2, c2, hi2, hc2, rfl⟩ | ⟨i2, hi2, rfl⟩ | ⟨i2, hi2, rfl⟩ | ⟨i2, hi2, rfl⟩ | ⟨i2, hi2, rfl⟩
    · rw [(pg_1 (n := n) hi2 hc2).1] at h1; rw [(pg_1 (n := n) hi2 hc2).2] at h2; omega
    · rw [(pg_2 (n := n) hi2 hc2).1] at h1; rw [(pg_2 (n := n) hi2 hc2).2] at h2; omega
    · rw [(pg_3 (n := n) hi2).1] at h1; rw [(pg_3 (n := n) hi2).2] at h2; omega
    · rw [(pg_4 (n := n) hi2).1] at h1; rw [(pg_4 (n := n) hi2).2] at h2; omega
    · rw [(pg_5 (n := n) hi2).1] at h1; rw [(pg_5 (n := n) hi2).2] at h2; omega
    · rw [(pg_6 (n := n) hi2).1] at h1; rw [(pg_6 (n := n) hi2).2] at h2; omega
  · rw [(pg_3 (n := n) hi).1] at h1; rw [(pg_3 (n := n) hi).2] at h2
    rcases pg_of n o ho with ⟨i2, c2, hi2, hc2, rfl⟩ | ⟨i2, c2, hi2, hc2, rfl⟩ | ⟨i2, hi2, rfl⟩ | ⟨i2, hi2, rfl⟩ | ⟨i2, hi2, rfl⟩ | ⟨i2, hi2, rfl⟩
    · rw [(pg_1 (n := n) hi2 hc2).1] at h1; rw [(pg_1 (n := n) hi2 hc2).2] at h2; omega
    · rw [(pg_2 (n := n) hi2 hc2).1] at h1; rw [(pg_2 (n := n) hi2 hc2).2] at h2; omega
    · rw [(pg_3 (n := n) hi2).1] at h1; rw [(pg_3 (n := n) hi2).2] at h2; omega
    · rw [(pg_4 (n := n) hi2).1] at h1; rw [(pg_4 (n := n) hi2).2] at h2; omega
    · rw [(pg_5 (n := n) hi2).1] at h1; rw [(pg_5 (n := n) hi2).2] at h2; omega
    · rw [(pg_6 (n := n) hi2).1] at h1; rw [(pg_6 (n := n) hi2).2] at h2; omega
  · rw [(pg_4 (n := n) hi).1] at h1; rw [(pg_4 (n := n) hi).2] at h2
    rcases pg_of n o ho with ⟨i2, c2, hi2, hc2, rfl⟩ | ⟨i2, c2, hi2, hc2, rfl⟩ | ⟨i2, hi2, rfl⟩ | ⟨i2, hi2, rfl⟩ | ⟨i2, hi2, rfl⟩ | ⟨i2, hi2, rfl⟩
    · rw [(pg_1 (n := n) hi2 hc2).1] at h1; rw [(pg_1 (n := n) hi2 hc2).2] at h2; omega
    · rw [(pg_2 (n := n) hi2 hc2).1] at h1; rw [(pg_2 (n := n) hi2 hc2).2] at h2; omega
    · rw [(pg_3 (n := n) hi2).1] at h1; rw [(pg_3 (n := n) hi2).2] at h2; omega
    · rw [(pg_4 (n := n) hi2).1] at h1; rw [(pg_4 (n := n) hi2).2] at h2; omega
    · rw [(pg_5 (n := n) hi2).1] at h1; rw [(pg_5 (n := n) hi2).2] at h2; omega
    · rw [(pg_6 (n := n) hi2).1] at h1; rw [(pg_6 (n := n) hi2).2] at h2; omega
  · rw [(pg_5 (n := n) hi).1] at h1; rw [(pg_5 (n := n) hi).2] at h2
    rcases pg_of n o ho with ⟨i2, c2, hi2, hc2, rfl⟩ | ⟨i2, c2, hi2, hc2, rfl⟩ | ⟨i2, hi2, rfl⟩ | ⟨i2, hi2, rfl⟩ | ⟨i2, hi2, rfl⟩ | ⟨i2, hi2, rfl⟩
    · rw [(pg_1 (n := n) hi2 hc2).1] at h1; rw [(pg_1 (n := n) hi2 hc2).2] at h2; omega
    · rw [(pg_2 (n := n) hi2 hc2).1] at h1; rw [(pg_2 (n := n) hi2 hc2).2] at h2; omega
    · rw [(pg_3 (n := n) hi2).1] at h1; rw [(pg_3 (n := n) hi2).2] at h2; omega
    · rw [(pg_4 (n := n) hi2).1] at h1; rw [(pg_4 (n := n) hi2).2] at h2; omega
    · rw [(pg_5 (n := n) hi2).1] at h1; rw [(pg_5 (n := n) hi2).2] at h2; omega
    · rw [(pg_6 (n := n) hi2).1] at h1; rw [(pg_6 (n := n) hi2).2] at h2; omega
  · rw [(pg_6 (n := n) hi).1] at h1; rw [(pg_6 (n := n) hi).2] at h2
    rcases pg_of n o ho with ⟨i2, c2, hi2, hc2, rfl⟩ | ⟨i2, c2, hi2, hc2, rfl⟩ | ⟨i2, hi2, rfl⟩ | ⟨i2, hi2, rfl⟩ | ⟨i2, hi2, rfl⟩ | ⟨i2, hi2, rfl⟩
    · rw [(pg_1 (n := n) hi2 hc2).1] at h1; rw [(pg_1 (n := n) hi2 hc2).2] at h2; omega
    · rw [(pg_2 (n := n) hi2 hc2).1] at h1; rw [(pg_2 (n := n) hi2 hc2).2] at h2; omega
    · rw [(pg_3 (n := n) hi2).1] at h1; rw [(pg_3 (n := n) hi2).2] at h2; omega
    · rw [(pg_4 (n := n) hi2).1] at h1; rw [(pg_4 (n := n) hi2).2] at h2; omega
    · rw [(pg_5 (n := n) hi2).1] at h1; rw [(pg_5 (n := n) hi2).2] at h2; omega
    · rw [(pg_6 (n := n) hi2).1] at h1; rw [(pg_6 (n := n) hi2).2] at h2; omega
theorem modR_35 {M : Mem} {f : Nat → Int32} (r : Nat) : modR (va_up M 35 f) r = if r = 2 then f else modR M r := by
  by_cases h : r = 2
  · subst h
    rw [if_pos rfl]
    show va_up M 35 f 35 = f
    exact va_up_self _ _ _
  · rw [if_neg h]
    funext j
    simp only [modR, va_up_ne M f (show (36 : Nat) ≠ 35 by decide), va_up_ne M f (show (37 : Nat) ≠ 35 by decide), va_up_ne M f (show (38 : Nat) ≠ 35 by decide), va_up_ne M f (show (48 : Nat) ≠ 35 by decide), va_up_ne M f (show (49 : Nat) ≠ 35 by decide), va_up_ne M f (show (50 : Nat) ≠ 35 by decide), va_up_ne M f (show (44 : Nat) ≠ 35 by decide), va_up_ne M f (show (41 : Nat) ≠ 35 by decide), va_up_ne M f (show (59 : Nat) ≠ 35 by decide), va_up_ne M f (show (34 : Nat) ≠ 35 by decide), h, if_false]
theorem modR_36 {M : Mem} {f : Nat → Int32} (r : Nat) : modR (va_up M 36 f) r = if r = 3 then f else modR M r := by
  by_cases h : r = 3
  · subst h
    rw [if_pos rfl]
    show va_up M 36 f 36 = f
    exact va_up_self _ _ _
  · rw [if_neg h]
    funext j
    simp only [modR, va_up_ne M f (show (35 : Nat) ≠ 36 by decide), va_up_ne M f (show (37 : Nat) ≠ 36 by decide), va_up_ne M f (show (38 : Nat) ≠ 36 by decide), va_up_ne M f (show (48 : Nat) ≠ 36 by decide), va_up_ne M f (show (49 : Nat) ≠ 36 by decide), va_up_ne M f (show (50 : Nat) ≠ 36 by decide), va_up_ne M f (show (44 : Nat) ≠ 36 by decide), va_up_ne M f (show (41 : Nat) ≠ 36 by decide), va_up_ne M f (show (59 : Nat) ≠ 36 by decide), va_up_ne M f (show (34 : Nat) ≠ 36 by decide), h, if_false]
theorem modR_37 {M : Mem} {f : Nat → Int32} (r : Nat) : modR (va_up M 37 f) r = if r = 4 then f else modR M r := by
  by_cases h : r = 4
  · subst h
    rw [if_pos rfl]
    show va_up M 37 f 37 = f
    exact va_up_self _ _ _
  · rw [if_neg h]
    funext j
    simp only [modR, va_up_ne M f (show (35 : Nat) ≠ 37 by decide), va_up_ne M f (show (36 : Nat) ≠ 37 by decide), va_up_ne M f (show (38 : Nat) ≠ 37 by decide), va_up_ne M f (show (48 : Nat) ≠ 37 by decide), va_up_ne M f (show (49 : Nat) ≠ 37 by decide), va_up_ne M f (show (50 : Nat) ≠ 37 by decide), va_up_ne M f (show (44 : Nat) ≠ 37 by decide), va_up_ne M f (show (41 : Nat) ≠ 37 by decide), va_up_ne M f (show (59 : Nat) ≠ 37 by decide), va_up_ne M f (show (34 : Nat) ≠ 37 by decide), h, if_false]
theorem modR_38 {M : Mem} {f : Nat → Int32} (r : Nat) : modR (va_up M 38 f) r = if r = 5 then f else modR M r := by
  by_cases h : r = 5
  · subst h
    rw [if_pos rfl]
    show va_up M 38 f 38 = f
    exact va_up_self _ _ _
  · rw [if_neg h]
    funext j
    simp only [modR, va_up_ne M f (show (35 : Nat) ≠ 38 by decide), va_up_ne M f (show (36 : Nat) ≠ 38 by decide), va_up_ne M f (show (37 : Nat) ≠ 38 by decide), va_up_ne M f (show (48 : Nat) ≠ 38 by decide), va_up_ne M f (show (49 : Nat) ≠ 38 by decide), va_up_ne M f (show (50 : Nat) ≠ 38 by decide), va_up_ne M f (show (44 : Nat) ≠ 38 by decide), va_up_ne M f (show (41 : Nat) ≠ 38 by decide), va_up_ne M f (show (59 : Nat) ≠ 38 by decide), va_up_ne M f (show (34 : Nat) ≠ 38 by decide), h, if_false]
theorem modR_48 {M : Mem} {f : Nat → Int32} (r : Nat) : modR (va_up M 48 f) r = if r = 7 then f else modR M r := by
  by_cases h : r = 7
  · subst h
    rw [if_pos rfl]
    show va_up M 48 f 48 = f
    exact va_up_self _ _ _
  · rw [if_neg h]
    funext j
    simp only [modR, va_up_ne M f (show (35 : Nat) ≠ 48 by decide), va_up_ne M f (show (36 : Nat) ≠ 48 by decide), va_up_ne M f (show (37 : Nat) ≠ 48 by decide), va_up_ne M f (show (38 : Nat) ≠ 48 by decide), va_up_ne M f (show (49 : Nat) ≠ 48 by decide), va_up_ne M f (show (50 : Nat) ≠ 48 by decide), va_up_ne M f (show (44 : Nat) ≠ 48 by decide), va_up_ne M f (show (41 : Nat) ≠ 48 by decide), va_up_ne M f (show (59 : Nat) ≠ 48 by decide), va_up_ne M f (show (34 : Nat) ≠ 48 by decide), h, if_false]
theorem modR_49 {M : Mem} {f : Nat → Int32} (r : Nat) : modR (va_up M 49 f) r = if r = 8 then f else modR M r := by
  by_cases h : r = 8
  · subst h
    rw [if_pos rfl]
    show va_up M 49 f 49 = f
    exact va_up_self _ _ _
  · rw [if_neg h]
    funext j
    simp only [modR, va_up_ne M f (show (35 : Nat) ≠ 49 by decide), va_up_ne M f (show (36 : Nat) ≠ 49 by decide), va_up_ne M f (show (37 : Nat) ≠ 49 by decide), va_up_ne M f (show (38 : Nat) ≠ 49 by decide), va_up_ne M f (show (48 : Nat) ≠ 49 by decide), va_up_ne M f (show (50 : Nat) ≠ 49 by decide), va_up_ne M f (show (44 : Nat) ≠ 49 by decide), va_up_ne M f (show (41 : Nat) ≠ 49 by decide), va_up_ne M f (show (59 : Nat) ≠ 49 by decide), va_up_ne M f (show (34 : Nat) ≠ 49 by decide), h, if_false]
theorem modR_50 {M : Mem} {f : Nat → Int32} (r : Nat) : modR (va_up M 50 f) r = if r = 9 then f else modR M r := by
  by_cases h : r = 9
  · subst h
    rw [if_pos rfl]
    show va_up M 50 f 50 = f
    exact va_up_self _ _ _
  · rw [if_neg h]
    funext j
    simp only [modR, va_up_ne M f (show (35 : Nat) ≠ 50 by decide), va_up_ne M f (show (36 : Nat) ≠ 50 by decide), va_up_ne M f (show (37 : Nat) ≠ 50 by decide), va_up_ne M f (show (38 : Nat) ≠ 50 by decide), va_up_ne M f (show (48 : Nat) ≠ 50 by decide), va_up_ne M f (show (49 : Nat) ≠ 50 by decide), va_up_ne M f (show (44 : Nat) ≠ 50 by decide), va_up_ne M f (show (41 : Nat) ≠ 50 by decide), va_up_ne M f (show (59 : Nat) ≠ 50 by decide), va_up_ne M f (show (34 : Nat) ≠ 50 by decide), h, if_false]
theorem modR_44 {M : Mem} {f : Nat → Int32} (r : Nat) : modR (va_up M 44 f) r = if r = 10 then f else modR M r := by
  by_cases h : r = 10
  · subst h
    rw [if_pos rfl]
    show va_up M 44 f 44 = f
    exact va_up_self _ _ _
  · rw [if_neg h]
    funext j
    simp only [modR, va_up_ne M f (show (35 : Nat) ≠ 44 by decide), va_up_ne M f (show (36 : Nat) ≠ 44 by decide), va_up_ne M f (show (37 : Nat) ≠ 44 by decide), va_up_ne M f (show (38 : Nat) ≠ 44 by decide), va_up_ne M f (show (48 : Nat) ≠ 44 by decide), va_up_ne M f (show (49 : Nat) ≠ 44 by decide), va_up_ne M f (show (50 : Nat) ≠ 44 by decide), va_up_ne M f (show (41 : Nat) ≠ 44 by decide), va_up_ne M f (show (59 : Nat) ≠ 44 by decide), va_up_ne M f (show (34 : Nat) ≠ 44 by decide), h, if_false]
theorem modR_41 {M : Mem} {f : Nat → Int32} (r : Nat) : modR (va_up M 41 f) r = if r = 11 then f else modR M r := by
  by_cases h : r = 11
  · subst h
    rw [if_pos rfl]
    show va_up M 41 f 41 = f
    exact va_up_self _ _ _
  · rw [if_neg h]
    funext j
    simp only [modR, va_up_ne M f (show (35 : Nat) ≠ 41 by decide), va_up_ne M f (show (36 : Nat) ≠ 41 by decide), va_up_ne M f (show (37 : Nat) ≠ 41 by decide), va_up_ne M f (show (38 : Nat) ≠ 41 by decide), va_up_ne M f (show (48 : Nat) ≠ 41 by decide), va_up_ne M f (show (49 : Nat) ≠ 41 by decide), va_up_ne M f (show (50 : Nat) ≠ 41 by decide), va_up_ne M f (show (44 : Nat) ≠ 41 by decide), va_up_ne M f (show (59 : Nat) ≠ 41 by decide), va_up_ne M f (show (34 : Nat) ≠ 41 by decide), h, if_false]
theorem modR_59 {M : Mem} {f : Nat → Int32} (r : Nat) : modR (va_up M 59 f) r = if r = 12 then f else modR M r := by
  by_cases h : r = 12
  · subst h
    rw [if_pos rfl]
    show va_up M 59 f 59 = f
    exact va_up_self _ _ _
  · rw [if_neg h]
    funext j
    simp only [modR, va_up_ne M f (show (35 : Nat) ≠ 59 by decide), va_up_ne M f (show (36 : Nat) ≠ 59 by decide), va_up_ne M f (show (37 : Nat) ≠ 59 by decide), va_up_ne M f (show (38 : Nat) ≠ 59 by decide), va_up_ne M f (show (48 : Nat) ≠ 59 by decide), va_up_ne M f (show (49 : Nat) ≠ 59 by decide), va_up_ne M f (show (50 : Nat) ≠ 59 by decide), va_up_ne M f (show (44 : Nat) ≠ 59 by decide), va_up_ne M f (show (41 : Nat) ≠ 59 by decide), va_up_ne M f (show (34 : Nat) ≠ 59 by decide), h, if_false]
/-- writing: the page's first o places are written -/
def WDi (P n o : Nat) (M M2 : Mem) : Prop := M2 34 34 = nI (900 * P + o) ∧ (∀ j, j ≠ 34 → M2 34 j = M 34 j) ∧ (∀ q, q < o → M2 60 (900 * P + q) = pgF n (modR M) q) ∧ (∀ q, (q < 900 * P ∨ 900 * P + o ≤ q) → M2 60 q = M 60 q) ∧ (∀ k, k ≠ 34 ∧ k ≠ 60 → M2 k = M k)
theorem WDi.step {P n o A : Nat} {M M2 M3 : Mem} {v : Int32} (h : WDi P n o M M2) (hA : A = 900 * P + o) (h34 : M3 34 = upd (M2 34) 34 (nI (A + 1))) (h60 : M3 60 = upd (M2 60) A v) (hf : ∀ k, k ≠ 34 ∧ k ≠ 60 → M3 k = M2 k) (hv : v = pgF n (modR M) o) : WDi P n (o + 1) M M3 := by
  subst hA
  obtain ⟨i1, i2, i3, i4, i5⟩ := h
  refine ⟨by rw [h34, pk_us]; rfl, fun j hj => by rw [h34, pk_un hj]; exact i2 j hj, fun q hq => ?_, fun q hq => ?_, fun k hk => (hf k hk).trans (i5 k hk)⟩
  · rw [h60]
    by_cases e : q = o
    · subst e; rw [pk_us]; exact hv
    · rw [pk_un (by omega)]; exact i3 q (by omega)
  · rw [h60, pk_un (by omega)]; exact i4 q (by omega)
/-- bringing back: the page's first o places are read -/
def BBi (P n o : Nat) (M M2 : Mem) : Prop := M2 34 34 = nI (900 * P + o) ∧ (∀ j, j ≠ 34 → j ≠ 24 → j ≠ 25 → j ≠ 6 → M2 34 j = M 34 j) ∧ (∀ q, q < o → pgF n (modR M2) q = M 60 (900 * P + q)) ∧ (∀ k, k ≠ 34 ∧ k ≠ 35 ∧ k ≠ 36 ∧ k ≠ 37 ∧ k ≠ 38 ∧ k ≠ 41 ∧ k ≠ 44 ∧ k ≠ 48 ∧ k ≠ 49 ∧ k ≠ 50 ∧ k ≠ 59 → M2 k = M k)
theorem mod_at {M : Mem} {x : Int32} (r : Nat) : modR (va_up M 34 (upd (M 34) 34 x)) r = modR M r := by
  funext j
  unfold modR
  by_cases h2 : r = 2
  · rw [if_pos h2, if_pos h2, va_up_ne _ _ (by decide)]
  · rw [if_neg h2, if_neg h2]
    by_cases h3 : r = 3
    · rw [if_pos h3, if_pos h3, va_up_ne _ _ (by decide)]
    · rw [if_neg h3, if_neg h3]
      by_cases h4 : r = 4
      · rw [if_pos h4, if_pos h4, va_up_ne _ _ (by decide)]
      · rw [if_neg h4, if_neg h4]
        by_cases h5 : r = 5
        · rw [if_pos h5, if_pos h5, va_up_ne _ _ (by decide)]
        · rw [if_neg h5, if_neg h5]
          by_cases h7 : r = 7
          · rw [if_pos h7, if_pos h7, va_up_ne _ _ (by decide)]
          · rw [if_neg h7, if_neg h7]
            by_cases h8 : r = 8
            · rw [if_pos h8, if_pos h8, va_up_ne _ _ (by decide)]
            · rw [if_neg h8, if_neg h8]
              by_cases h9 : r = 9
              · rw [if_pos h9, if_pos h9, va_up_ne _ _ (by decide)]
              · rw [if_neg h9, if_neg h9]
                by_cases h10 : r = 10
                · rw [if_pos h10, if_pos h10, va_up_ne _ _ (by decide)]
                · rw [if_neg h10, if_neg h10]
                  by_cases h11 : r = 11
                  · rw [if_pos h11, if_pos h11, va_up_ne _ _ (by decide)]
                  · rw [if_neg h11, if_neg h11]
                    by_cases h12 : r = 12
                    · rw [if_pos h12, if_pos h12, va_up_ne _ _ (by decide)]
                    · rw [if_neg h12, if_neg h12]
                      by_cases h0 : r = 0
                      · rw [if_pos h0, if_pos h0]
                        show va_up M 34 _ 34 (if j = 0 then 24 else if j = 1 then 25 else 6) = _
                        rw [va_up_self]
                        by_cases j0 : j = 0
                        · rw [if_pos j0]; exact pk_un (by decide)
                        · rw [if_neg j0]
                          by_cases j1 : j = 1
                          · rw [if_pos j1]; exact pk_un (by decide)
                          · rw [if_neg j1]; exact pk_un (by decide)
                      · rw [if_neg h0, if_neg h0]
theorem mod_24 {M : Mem} {x : Int32} {r j : Nat} (hj : r = 0 → j < 3) : modR (va_up M 34 (upd (M 34) 24 x)) r j = if r = 0 ∧ j = 0 then x else modR M r j := by
  unfold modR
  by_cases h2 : r = 2
  · rw [if_pos h2, if_pos h2, va_up_ne _ _ (by decide), if_neg (by omega)]
  · rw [if_neg h2, if_neg h2]
    by_cases h3 : r = 3
    · rw [if_pos h3, if_pos h3, va_up_ne _ _ (by decide), if_neg (by omega)]
    · rw [if_neg h3, if_neg h3]
      by_cases h4 : r = 4
      · rw [if_pos h4, if_pos h4, va_up_ne _ _ (by decide), if_neg (by omega)]
      · rw [if_neg h4, if_neg h4]
        by_cases h5 : r = 5
        · rw [if_pos h5, if_pos h5, va_up_ne _ _ (by decide), if_neg (by omega)]
        · rw [if_neg h5, if_neg h5]
          by_cases h7 : r = 7
          · rw [if_pos h7, if_pos h7, va_up_ne _ _ (by decide), if_neg (by omega)]
          · rw [if_neg h7, if_neg h7]
            by_cases h8 : r = 8
            · rw [if_pos h8, if_pos h8, va_up_ne _ _ (by decide), if_neg (by omega)]
            · rw [if_neg h8, if_neg h8]
              by_cases h9 : r = 9
              · rw [if_pos h9, if_pos h9, va_up_ne _ _ (by decide), if_neg (by omega)]
              · rw [if_neg h9, if_neg h9]
                by_cases h10 : r = 10
                · rw [if_pos h10, if_pos h10, va_up_ne _ _ (by decide), if_neg (by omega)]
                · rw [if_neg h10, if_neg h10]
                  by_cases h11 : r = 11
                  · rw [if_pos h11, if_pos h11, va_up_ne _ _ (by decide), if_neg (by omega)]
                  · rw [if_neg h11, if_neg h11]
                    by_cases h12 : r = 12
                    · rw [if_pos h12, if_pos h12, va_up_ne _ _ (by decide), if_neg (by omega)]
                    · rw [if_neg h12, if_neg h12]
                      by_cases h0 : r = 0
                      · rw [if_pos h0, if_pos h0]
                        rcases (show j = 0 ∨ j = 1 ∨ j = 2 by have := hj h0; omega) with rfl | rfl | rfl
                        · show va_up M 34 _ 34 24 = if r = 0 ∧ 0 = 0 then x else M 34 24
                          rw [if_pos (show r = 0 ∧ 0 = 0 from ⟨h0, rfl⟩), va_up_self, pk_us]
                        · show va_up M 34 _ 34 25 = if r = 0 ∧ 1 = 0 then x else M 34 25
                          rw [if_neg (show ¬ (r = 0 ∧ 1 = 0) from fun q => absurd q.2 (by decide)), va_up_self, pk_un (by decide)]
                        · show va_up M 34 _ 34 6 = if r = 0 ∧ 2 = 0 then x else M 34 6
                          rw [if_neg (show ¬ (r = 0 ∧ 2 = 0) from fun q => absurd q.2 (by decide)), va_up_self, pk_un (by decide)]
                      · rw [if_neg h0, if_neg h0, if_neg (fun q => h0 q.1)]
theorem mod_25 {M : Mem} {x : Int32} {r j : Nat} (hj : r = 0 → j < 3) : modR (va_up M 34 (upd (M 34) 25 x)) r j = if r = 0 ∧ j = 1 then x else modR M r j := by
  unfold modR
  by_cases h2 : r = 2
  · rw [if_pos h2, if_pos h2, va_up_ne _ _ (by decide), if_neg (by omega)]
  · rw [if_neg h2, if_neg h2]
    by_cases h3 : r = 3
    · rw [if_pos h3, if_pos h3, va_up_ne _ _ (by decide), if_neg (by omega)]
    · rw [if_neg h3, if_neg h3]
      by_cases h4 : r = 4
      · rw [if_pos h4, if_pos h4, va_up_ne _ _ (by decide), if_neg (by omega)]
      · rw [if_neg h4, if_neg h4]
        by_cases h5 : r = 5
        · rw [if_pos h5, if_pos h5, va_up_ne _ _ (by decide), if_neg (by omega)]
        · rw [if_neg h5, if_neg h5]
          by_cases h7 : r = 7
          · rw [if_pos h7, if_pos h7, va_up_ne _ _ (by decide), if_neg (by omega)]
          · rw [if_neg h7, if_neg h7]
            by_cases h8 : r = 8
            · rw [if_pos h8, if_pos h8, va_up_ne _ _ (by decide), if_neg (by omega)]
            · rw [if_neg h8, if_neg h8]
              by_cases h9 : r = 9
              · rw [if_pos h9, if_pos h9, va_up_ne _ _ (by decide), if_neg (by omega)]
              · rw [if_neg h9, if_neg h9]
                by_cases h10 : r = 10
                · rw [if_pos h10, if_pos h10, va_up_ne _ _ (by decide), if_neg (by omega)]
                · rw [if_neg h10, if_neg h10]
                  by_cases h11 : r = 11
                  · rw [if_pos h11, if_pos h11, va_up_ne _ _ (by decide), if_neg (by omega)]
                  · rw [if_neg h11, if_neg h11]
                    by_cases h12 : r = 12
                    · rw [if_pos h12, if_pos h12, va_up_ne _ _ (by decide), if_neg (by omega)]
                    · rw [if_neg h12, if_neg h12]
                      by_cases h0 : r = 0
                      · rw [if_pos h0, if_pos h0]
                        rcases (show j = 0 ∨ j = 1 ∨ j = 2 by have := hj h0; omega) with rfl | rfl | rfl
                        · show va_up M 34 _ 34 24 = if r = 0 ∧ 0 = 1 then x else M 34 24
                          rw [if_neg (show ¬ (r = 0 ∧ 0 = 1) from fun q => absurd q.2 (by decide)), va_up_self, pk_un (by decide)]
                        · show va_up M 34 _ 34 25 = if r = 0 ∧ 1 = 1 then x else M 34 25
                          rw [if_pos (show r = 0 ∧ 1 = 1 from ⟨h0, rfl⟩), va_up_self, pk_us]
                        · show va_up M 34 _ 34 6 = if r = 0 ∧ 2 = 1 then x else M 34 6
                          rw [if_neg (show ¬ (r = 0 ∧ 2 = 1) from fun q => absurd q.2 (by decide)), va_up_self, pk_un (by decide)]
                      · rw [if_neg h0, if_neg h0, if_neg (fun q => h0 q.1)]
theorem mod_6 {M : Mem} {x : Int32} {r j : Nat} (hj : r = 0 → j < 3) : modR (va_up M 34 (upd (M 34) 6 x)) r j = if r = 0 ∧ j = 2 then x else modR M r j := by
  unfold modR
  by_cases h2 : r = 2
  · rw [if_pos h2, if_pos h2, va_up_ne _ _ (by decide), if_neg (by omega)]
  · rw [if_neg h2, if_neg h2]
    by_cases h3 : r = 3
    · rw [if_pos h3, if_pos h3, va_up_ne _ _ (by decide), if_neg (by omega)]
    · rw [if_neg h3, if_neg h3]
      by_cases h4 : r = 4
      · rw [if_pos h4, if_pos h4, va_up_ne _ _ (by decide), if_neg (by omega)]
      · rw [if_neg h4, if_neg h4]
        by_cases h5 : r = 5
        · rw [if_pos h5, if_pos h5, va_up_ne _ _ (by decide), if_neg (by omega)]
        · rw [if_neg h5, if_neg h5]
          by_cases h7 : r = 7
          · rw [if_pos h7, if_pos h7, va_up_ne _ _ (by decide), if_neg (by omega)]
          · rw [if_neg h7, if_neg h7]
            by_cases h8 : r = 8
            · rw [if_pos h8, if_pos h8, va_up_ne _ _ (by decide), if_neg (by omega)]
            · rw [if_neg h8, if_neg h8]
              by_cases h9 : r = 9
              · rw [if_pos h9, if_pos h9, va_up_ne _ _ (by decide), if_neg (by omega)]
              · rw [if_neg h9, if_neg h9]
                by_cases h10 : r = 10
                · rw [if_pos h10, if_pos h10, va_up_ne _ _ (by decide), if_neg (by omega)]
                · rw [if_neg h10, if_neg h10]
                  by_cases h11 : r = 11
                  · rw [if_pos h11, if_pos h11, va_up_ne _ _ (by decide), if_neg (by omega)]
                  · rw [if_neg h11, if_neg h11]
                    by_cases h12 : r = 12
                    · rw [if_pos h12, if_pos h12, va_up_ne _ _ (by decide), if_neg (by omega)]
                    · rw [if_neg h12, if_neg h12]
                      by_cases h0 : r = 0
                      · rw [if_pos h0, if_pos h0]
                        rcases (show j = 0 ∨ j = 1 ∨ j = 2 by have := hj h0; omega) with rfl | rfl | rfl
                        · show va_up M 34 _ 34 24 = if r = 0 ∧ 0 = 2 then x else M 34 24
                          rw [if_neg (show ¬ (r = 0 ∧ 0 = 2) from fun q => absurd q.2 (by decide)), va_up_self, pk_un (by decide)]
                        · show va_up M 34 _ 34 25 = if r = 0 ∧ 1 = 2 then x else M 34 25
                          rw [if_neg (show ¬ (r = 0 ∧ 1 = 2) from fun q => absurd q.2 (by decide)), va_up_self, pk_un (by decide)]
                        · show va_up M 34 _ 34 6 = if r = 0 ∧ 2 = 2 then x else M 34 6
                          rw [if_pos (show r = 0 ∧ 2 = 2 from ⟨h0, rfl⟩), va_up_self, pk_us]
                      · rw [if_neg h0, if_neg h0, if_neg (fun q => h0 q.1)]
theorem BBi.put {P n o : Nat} {M M2 M3 : Mem} (h : BBi P n o M M2) (ho : o < 4 * n + 373) (h34 : M3 34 34 = nI (900 * P + o + 1)) (hf : ∀ j, j ≠ 34 → j ≠ 24 → j ≠ 25 → j ≠ 6 → M3 34 j = M2 34 j) (hv : modR M3 (pgR n o) (pgJ n o) = M 60 (900 * P + o)) (hs : ∀ q, q < o → modR M3 (pgR n q) (pgJ n q) = modR M2 (pgR n q) (pgJ n q)) (hk : ∀ k, k ≠ 34 ∧ k ≠ 35 ∧ k ≠ 36 ∧ k ≠ 37 ∧ k ≠ 38 ∧ k ≠ 41 ∧ k ≠ 44 ∧ k ≠ 48 ∧ k ≠ 49 ∧ k ≠ 50 ∧ k ≠ 59 → M3 k = M2 k) : BBi P n (o + 1) M M3 := by
  obtain ⟨i1, i2, i3, i4⟩ := h
  refine ⟨h34, fun j a b c d => (hf j a b c d).trans (i2 j a b c d), fun q hq => ?_, fun k a => (hk k a).trans (i4 k a)⟩
  by_cases e : q = o
  · subst e; exact hv
  · exact (hs q (by omega)).trans (i3 q (by omega))
