
theorem m_sm {f f1 : Nat → va_E} {j : Nat} {y : va_E} (ef : f1 = f) (h : f j = y) : f1 j = y := by rw [ef]; exact h
theorem m_swOut {x : Int32} (lo hi : Int) (h : ∀ k : Int, lo ≤ k → k ≤ hi → ¬ x = Int32.ofInt k) : x.toInt < lo ∨ hi < x.toInt := by
  by_cases h1 : x.toInt < lo
  · exact Or.inl h1
  · by_cases h2 : hi < x.toInt
    · exact Or.inr h2
    · exact absurd (Int32.ofInt_toInt x).symm (h x.toInt (by omega) (by omega))
theorem m_lits : (0 : Int32).toInt = 0 ∧ (1 : Int32).toInt = 1 ∧ (2 : Int32).toInt = 2 ∧ (3 : Int32).toInt = 3 ∧ (4 : Int32).toInt = 4 ∧ (5 : Int32).toInt = 5 ∧ (6 : Int32).toInt = 6 ∧ (7 : Int32).toInt = 7 ∧ (8 : Int32).toInt = 8 ∧ (9 : Int32).toInt = 9 ∧ (10 : Int32).toInt = 10 ∧ (11 : Int32).toInt = 11 ∧ (12 : Int32).toInt = 12 ∧ (40 : Int32).toInt = 40 ∧ (60 : Int32).toInt = 60 ∧ (150 : Int32).toInt = 150 ∧ (300 : Int32).toInt = 300 ∧ (999 : Int32).toInt = 999 ∧ (-1 : Int32).toInt = -1 := by decide +kernel
theorem m_inI {x : Int32} {lo hi : Int64} {a b : Int} (h1 : lo.toInt = a) (h2 : hi.toInt = b) : (lo ≤ x.toInt64 ∧ x.toInt64 ≤ hi) ↔ (a ≤ x.toInt ∧ x.toInt ≤ b) := by
  rw [Int64.le_iff_toInt_le, Int64.le_iff_toInt_le, h1, h2, Int32.toInt_toInt64]
theorem m_cmpl {x y : Int64} : lg_cmp x y < 0 ↔ x < y := by
  unfold lg_cmp
  by_cases h1 : y < x
  · simp only [h1, if_pos]
    exact ⟨fun h => absurd h (by decide), fun h => absurd h (lg_lt_not h1)⟩
  · by_cases h2 : x = y
    · subst h2
      simp [Int64.lt_iff_toInt_lt]
    · have h3 : x < y := by
        rw [Int64.lt_iff_toInt_lt] at *
        have h4 : ¬ x.toInt = y.toInt := fun q => h2 (Int64.toInt_inj.mp q)
        omega
      simp only [h1, h2, h3, if_false, iff_true]
      decide
theorem m_cmpg {x y : Int64} : 0 < lg_cmp x y ↔ y < x := by
  unfold lg_cmp
  by_cases h1 : y < x
  · simp only [h1, if_pos, iff_true]
    decide
  · by_cases h2 : x = y
    · subst h2
      simp [Int64.lt_iff_toInt_lt]
    · simp only [h1, h2, if_false, iff_false]
      decide
