
theorem m_sm {f f1 : Nat → va_E} {j : Nat} {y : va_E} (ef : f1 = f) (h : f j = y) : f1 j = y := by rw [ef]; exact h
theorem m_swOut {x : Int32} (lo hi : Int) (h : ∀ k : Int, lo ≤ k → k ≤ hi → ¬ x = Int32.ofInt k) : x.toInt < lo ∨ hi < x.toInt := by
  by_cases h1 : x.toInt < lo
  · exact Or.inl h1
  · by_cases h2 : hi < x.toInt
    · exact Or.inr h2
    · exact absurd (Int32.ofInt_toInt x).symm (h x.toInt (by omega) (by omega))
theorem m_lits : (0 : Int32).toInt = 0 ∧ (1 : Int32).toInt = 1 ∧ (2 : Int32).toInt = 2 ∧ (3 : Int32).toInt = 3 ∧ (4 : Int32).toInt = 4 ∧ (5 : Int32).toInt = 5 ∧ (6 : Int32).toInt = 6 ∧ (7 : Int32).toInt = 7 ∧ (8 : Int32).toInt = 8 ∧ (9 : Int32).toInt = 9 ∧ (10 : Int32).toInt = 10 ∧ (11 : Int32).toInt = 11 ∧ (12 : Int32).toInt = 12 ∧ (40 : Int32).toInt = 40 ∧ (60 : Int32).toInt = 60 ∧ (150 : Int32).toInt = 150 ∧ (300 : Int32).toInt = 300 ∧ (999 : Int32).toInt = 999 ∧ (-1 : Int32).toInt = -1 := by decide +kernel
theorem m_inI {x : Int32} {lo hi : Int64} {a b : Int} (h1 : lo.toInt = a) (h2 : hi.toInt = b) : (lo ≤ x.toInt64 ∧ x.toInt64 ≤ hi) ↔ (a ≤ x.toInt ∧ x.toInt ≤ b) := by
  rw [Int64.le_iff_toInt_le, Int64.le_iff_toInt_le, h1, h2, Int32.toInt_toInt64]
def p_end (n : Int32) : Int32 := if 0 ≤ n.toInt ∧ n.toInt ≤ 0 then n else -1
def p_fault (w : Int32) : Int32 := if w = 0 then 0 else -1
def p_rank (h r : Int32) : Int32 := if 0 ≤ h.toInt ∧ h.toInt ≤ 2 ∧ 0 ≤ r.toInt ∧ r.toInt ≤ 9 then mRk h.toNatClampNeg else -2
def p_costs (h r : Int32) : Int32 := if 1 ≤ h.toInt ∧ h.toInt ≤ 9 ∧ 1 ≤ r.toInt ∧ r.toInt ≤ 9 then 1 else -2
def p_distance (h r : Int32) : Int32 := if 0 ≤ h.toInt ∧ h.toInt ≤ 2 ∧ 0 ≤ r.toInt ∧ r.toInt ≤ 2 then 0 else -2
def p_price (h r : Int32) : Int32 := if 0 ≤ h.toInt ∧ h.toInt ≤ 4 ∧ 0 ≤ r.toInt ∧ r.toInt ≤ 999 then mPr h.toNatClampNeg else -2
def p_pays (h : Int32) : Int32 := if 0 ≤ h.toInt ∧ h.toInt ≤ 1 then 0 else -2
def p_count (h : Int32) : Int32 := if 0 ≤ h.toInt ∧ h.toInt ≤ 9 then 0 else if 10 ≤ h.toInt ∧ h.toInt ≤ 12 then h - 10 else -1
theorem m_cmpl {x y : Int64} : lg_cmp x y < 0 ↔ x < y := by
  unfold lg_cmp
  by_cases h1 : y < x
  · simp only [h1, if_pos]
    exact ⟨fun h => absurd h (by decide), fun h => absurd h (lg_lt_not h1)⟩
  · by_cases h2 : x = y
    · subst h2
      simp [Int64.lt_iff_toInt_lt]
    · have h3 : x < y := by
        rw [Int64.lt_iff_toInt_lt] at *
        have h4 : ¬ x.toInt = y.toInt := fun q => h2 (Int64.toInt_inj.mp q)
        omega
      simp only [h1, h2, h3, if_false, iff_true]
      decide
theorem m_cmpg {x y : Int64} : 0 < lg_cmp x y ↔ y < x := by
  unfold lg_cmp
  by_cases h1 : y < x
  · simp only [h1, if_pos, iff_true]
    decide
  · by_cases h2 : x = y
    · subst h2
      simp [Int64.lt_iff_toInt_lt]
    · simp only [h1, h2, if_false, iff_false]
      decide
set_option maxHeartbeats 4000000 in
set_option maxRecDepth 100000 in
theorem k_in (l : Launch) (D : va_G) (kc : Nat → ClassId) (b n : Nat) (f : Nat → va_E) (v lo hi : Int64) : mMi l yX13_in cX13_in 6 .boolean 1 0 0 D kc b n f [.long v, .long lo, .long hi] (fun r u => r = (if lo ≤ v ∧ v ≤ hi then 1 else 0) ∧ u.1 = n ∧ u.2 = f) := by
  refine m_start (by decide) (Nat.le_of_ble_eq_true rfl) ?_
  intro p e s m below meth c C hr hlk hnm hM ls hl
  obtain ⟨hx, hb, hml, hown, hts, hE, hbs⟩ := id C
  have hl : lv_has ls 6 [(0, .long v), (2, .long lo), (4, .long hi)] := hl
  refine lv_lload_n hx hb dX13_in_0 rfl (lv_at hl 0 rfl) ?_
  refine lv_lload_n hx hb dX13_in_1 rfl (lv_at hl 1 rfl) ?_
  refine W.lcmp hx hb dX13_in_2 ?_
  refine lv_if_lt (tgt := 17) hx hb dX13_in_3 (by decide) (fun c1 => ?_) (fun c1 => ?_)
  · refine lv_iconst (v := 0) hx hb dX13_in_17 (by decide) ?_
    exact m_zret C hr hlk hM rfl (⟨by rw [if_neg]; intro h; rw [Int64.le_iff_toInt_le, Int64.le_iff_toInt_le] at h; rw [m_cmpl, Int64.lt_iff_toInt_lt] at c1; omega, rfl, rfl⟩) dX13_in_18
  · refine lv_lload_n hx hb dX13_in_6 rfl (lv_at hl 0 rfl) ?_
    refine lv_lload hx hb dX13_in_7 (lv_at hl 2 rfl) ?_
    refine W.lcmp hx hb dX13_in_9 ?_
    refine lv_if_gt (tgt := 17) hx hb dX13_in_10 (by decide) (fun c2 => ?_) (fun c2 => ?_)
    · refine lv_iconst (v := 0) hx hb dX13_in_17 (by decide) ?_
      exact m_zret C hr hlk hM rfl (⟨by rw [if_neg]; intro h; rw [Int64.le_iff_toInt_le, Int64.le_iff_toInt_le] at h; rw [m_cmpg, Int64.lt_iff_toInt_lt] at c2; omega, rfl, rfl⟩) dX13_in_18
    · refine lv_iconst (v := 1) hx hb dX13_in_13 (by decide) ?_
      refine lv_goto (tgt := 18) hx hb dX13_in_14 (by decide) ?_
      exact m_zret C hr hlk hM rfl (⟨by rw [if_pos ⟨by rw [m_cmpl] at c1; rw [Int64.le_iff_toInt_le]; rw [Int64.lt_iff_toInt_lt] at c1; omega, by rw [m_cmpg] at c2; rw [Int64.le_iff_toInt_le]; rw [Int64.lt_iff_toInt_lt] at c2; omega⟩], rfl, rfl⟩) dX13_in_18
theorem k_in1 (l : Launch) (D : va_G) (kc : Nat → ClassId) (b n : Nat) (f : Nat → va_E) (v lo hi : Int64) (h : lo ≤ v ∧ v ≤ hi) : mMi l yX13_in cX13_in 6 .boolean 1 0 0 D kc b n f [.long v, .long lo, .long hi] (fun r u => r = 1 ∧ u.1 = n ∧ u.2 = f) := by
  have h0 := k_in l D kc b n f v lo hi
  rw [if_pos h] at h0
  exact h0
theorem k_in0 (l : Launch) (D : va_G) (kc : Nat → ClassId) (b n : Nat) (f : Nat → va_E) (v lo hi : Int64) (h : ¬ (lo ≤ v ∧ v ≤ hi)) : mMi l yX13_in cX13_in 6 .boolean 1 0 0 D kc b n f [.long v, .long lo, .long hi] (fun r u => r = 0 ∧ u.1 = n ∧ u.2 = f) := by
  have h0 := k_in l D kc b n f v lo hi
  rw [if_neg h] at h0
  exact h0
