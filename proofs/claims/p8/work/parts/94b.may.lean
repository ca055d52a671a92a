theorem c_num {S : SS} {j : Nat} {i : Int} (h : 0 ≤ i ∧ i < 3) : f_Mark_number S j i = some (gi S (14 + 4 * j + 1) i.toNat) := by
  unfold f_Mark_number
  rw [if_neg (by omega), if_pos (by omega), w_chkP (by omega)]
/-- mayBegin, by kind: strike and change -/
theorem mb_sc {S : SS} {j : Nat} {i b : Int} (hk : gi S (14 + 4 * j) 2 = 0 ∨ gi S (14 + 4 * j) 2 = 2) (e : f_MarkReader_mayBegin S j i = some b) : (i = 0 → (b = 0 ↔ gi S 177 3 ≤ gi S (14 + 4 * j + 1) 0)) ∧ (i ≠ 0 → (b = 0 ↔ (gi S (14 + 4 * j + 1) 1 < gi S (14 + 4 * j + 1) 0 ∨ gi S 177 3 ≤ gi S (14 + 4 * j + 1) 1))) := by
  unfold f_MarkReader_mayBegin at e
  rw [w_b1_is (c_num (by omega)), w_b1_is (c_num (by omega)), w_b1_is (c_num (by omega))] at e
  have t0 : (0 : Int).toNat = 0 := rfl
  have t1 : (1 : Int).toNat = 1 := rfl
  rw [t0, t1] at e
  have main : (if i = 0 then (if gi S 177 3 ≤ gi S (14 + 4 * j + 1) 0 then some (0 : Int) else some 1) else (if gi S (14 + 4 * j + 1) 1 < gi S (14 + 4 * j + 1) 0 then some 0 else (if gi S 177 3 ≤ gi S (14 + 4 * j + 1) 1 then some 0 else some 1))) = some b := by
    rcases hk with q | q
    · rw [if_pos q] at e; exact e
    · rw [if_neg (by omega), if_neg (by omega), if_pos q] at e; exact e
  clear e
  refine ⟨fun c => ?_, fun c => ?_⟩
  · rw [if_pos c] at main
    split at main <;> (have := Option.some.inj main; omega)
  · rw [if_neg c] at main
    repeat' split at main
    all_goals (have := Option.some.inj main; omega)
theorem mb_put {S : SS} {j : Nat} {i b : Int} (hk : gi S (14 + 4 * j) 2 = 1) (e : f_MarkReader_mayBegin S j i = some b) : b = 0 ↔ gi S 177 3 < gi S (14 + 4 * j + 1) 0 := by
  unfold f_MarkReader_mayBegin at e
  rw [w_b1_is (c_num (by omega)), w_b1_is (c_num (by omega)), w_b1_is (c_num (by omega)), if_neg (by omega), if_pos hk] at e
  have t0 : (0 : Int).toNat = 0 := rfl
  rw [t0] at e
  split at e <;> (have := Option.some.inj e; omega)
theorem mb_turn {S : SS} {j : Nat} {i b : Int} (hk : gi S (14 + 4 * j) 2 = 3) (e : f_MarkReader_mayBegin S j i = some b) : (i = 0 → (b = 0 ↔ gi S 177 3 ≤ gi S (14 + 4 * j + 1) 0 + 1)) ∧ (i = 1 → (b = 0 ↔ (gi S (14 + 4 * j + 1) 1 ≤ gi S (14 + 4 * j + 1) 0 ∨ gi S 177 3 ≤ gi S (14 + 4 * j + 1) 1))) ∧ (i = 2 → (b = 0 ↔ (gi S (14 + 4 * j + 1) 2 < gi S (14 + 4 * j + 1) 1 ∨ gi S 177 3 ≤ gi S (14 + 4 * j + 1) 2))) := by
  unfold f_MarkReader_mayBegin at e
  rw [w_b1_is (c_num (by omega)), w_b1_is (c_num (by omega)), w_b1_is (c_num (by omega)), if_neg (by omega), if_neg (by omega), if_neg (by omega), if_pos hk] at e
  have t0 : (0 : Int).toNat = 0 := rfl
  have t1 : (1 : Int).toNat = 1 := rfl
  have t2 : (2 : Int).toNat = 2 := rfl
  rw [t0, t1, t2] at e
  refine ⟨fun c => ?_, fun c => ?_, fun c => ?_⟩
  · rw [if_pos c] at e
    obtain ⟨_, e⟩ := w_chkE e
    split at e <;> (have := Option.some.inj e; omega)
  · rw [if_neg (by omega), if_pos c] at e
    repeat' split at e
    all_goals (have := Option.some.inj e; omega)
  · rw [if_neg (by omega), if_neg (by omega)] at e
    repeat' split at e
    all_goals (have := Option.some.inj e; omega)
theorem mb_move {S : SS} {j : Nat} {i b : Int} (hk : gi S (14 + 4 * j) 2 = 4) (e : f_MarkReader_mayBegin S j i = some b) : (i = 0 → (b = 0 ↔ (gi S 177 3 ≤ gi S (14 + 4 * j + 1) 0 ∨ (gi S (14 + 4 * j + 1) 0 ≤ 0 ∧ gi S 177 3 ≤ 1)))) ∧ (i = 1 → (b = 0 ↔ (gi S (14 + 4 * j + 1) 1 < gi S (14 + 4 * j + 1) 0 ∨ gi S 177 3 ≤ gi S (14 + 4 * j + 1) 1 ∨ (gi S (14 + 4 * j + 1) 0 ≤ 0 ∧ gi S 177 3 ≤ gi S (14 + 4 * j + 1) 1 + 1)))) ∧ (i = 2 → (b = 0 ↔ (gi S (14 + 4 * j + 1) 0 ≤ gi S (14 + 4 * j + 1) 2 ∧ (gi S (14 + 4 * j + 1) 2 ≤ gi S (14 + 4 * j + 1) 1 + 1 ∨ gi S 177 3 < gi S (14 + 4 * j + 1) 2)))) := by
  unfold f_MarkReader_mayBegin at e
  rw [w_b1_is (c_num (by omega)), w_b1_is (c_num (by omega)), w_b1_is (c_num (by omega)), if_neg (by omega), if_neg (by omega), if_neg (by omega), if_neg (by omega), if_pos hk] at e
  have t0 : (0 : Int).toNat = 0 := rfl
  have t1 : (1 : Int).toNat = 1 := rfl
  have t2 : (2 : Int).toNat = 2 := rfl
  rw [t0, t1, t2] at e
  obtain ⟨x, ex, e⟩ := w_b1E e
  obtain ⟨_, e⟩ := w_chkE e
  have e := Option.some.inj e
  subst e
  unfold f_MarkReader_mayBeginMove at ex
  refine ⟨fun c => ?_, fun c => ?_, fun c => ?_⟩
  · rw [if_pos c] at ex
    repeat' split at ex
    all_goals (have := Option.some.inj ex; omega)
  · rw [if_neg (by omega), if_pos c] at ex
    by_cases d1 : gi S (14 + 4 * j + 1) 1 < gi S (14 + 4 * j + 1) 0
    · rw [if_pos d1] at ex; have := Option.some.inj ex; omega
    rw [if_neg d1] at ex
    by_cases d2 : gi S 177 3 ≤ gi S (14 + 4 * j + 1) 1
    · rw [if_pos d2] at ex; have := Option.some.inj ex; omega
    rw [if_neg d2] at ex
    by_cases d3 : 0 < gi S (14 + 4 * j + 1) 0
    · rw [if_pos d3] at ex; have := Option.some.inj ex; omega
    rw [if_neg d3] at ex
    obtain ⟨_, ex⟩ := w_chkE ex
    split at ex <;> (have := Option.some.inj ex; omega)
  · rw [if_neg (by omega), if_neg (by omega)] at ex
    by_cases d1 : gi S (14 + 4 * j + 1) 2 < gi S (14 + 4 * j + 1) 0
    · rw [if_pos d1] at ex; have := Option.some.inj ex; omega
    rw [if_neg d1] at ex
    obtain ⟨_, ex⟩ := w_chkE ex
    repeat' split at ex
    all_goals (have := Option.some.inj ex; omega)
theorem mb_stet {S : SS} {j : Nat} {i b : Int} (hq : ∀ k, k < 40 → gq S 11 k = some k) (hk : gi S (14 + 4 * j) 2 = 5) (h0 : 0 ≤ gi S (14 + 4 * j + 1) 0) (hm : gi S 10 3 + gi S 10 4 ≤ 40) (e : f_MarkReader_mayBegin S j i = some b) : b = 0 ↔ (gi S 10 3 + gi S 10 4 ≤ gi S (14 + 4 * j + 1) 0 ∨ gi S (14 + 4 * (gi S (14 + 4 * j + 1) 0).toNat) 2 = 5) := by
  unfold f_MarkReader_mayBegin at e
  rw [w_b1_is (c_num (by omega)), w_b1_is (c_num (by omega)), w_b1_is (c_num (by omega)), if_neg (by omega), if_neg (by omega), if_neg (by omega), if_neg (by omega), if_neg (by omega)] at e
  have t0 : (0 : Int).toNat = 0 := rfl
  rw [t0] at e
  obtain ⟨_, e⟩ := w_chkE e
  obtain ⟨x, ex, e⟩ := w_b1E e
  obtain ⟨_, e⟩ := w_chkE e
  have e := Option.some.inj e
  subst e
  unfold f_Pile_canBeStet at ex
  obtain ⟨_, ex⟩ := w_chkE ex
  by_cases c : gi S (14 + 4 * j + 1) 0 < gi S 10 3 + gi S 10 4
  · rw [if_pos c] at ex
    have em : f_Pile_markAt S (gi S (14 + 4 * j + 1) 0) = some (some (gi S (14 + 4 * j + 1) 0).toNat) := by
      unfold f_Pile_markAt
      rw [if_neg (by omega), if_pos (by omega), w_chkP (by omega)]
      show some (gq S 11 _) = _
      rw [hq _ (by omega)]
    rw [w_b1_is em] at ex
    unfold f_Pile_canBeStet_22 at ex
    have ex : w_chk ((gi S (14 + 4 * j + 1) 0).toNat < 40) (if gi S (14 + 4 * (gi S (14 + 4 * j + 1) 0).toNat) 2 = 5 then some 0 else some 1) = some x := ex
    obtain ⟨_, ex⟩ := w_chkE ex
    split at ex <;> (have := Option.some.inj ex; omega)
  · rw [if_neg c] at ex
    unfold f_Pile_canBeStet_22 at ex
    have ex : some (0 : Int) = some x := ex
    have := Option.some.inj ex
    omega
