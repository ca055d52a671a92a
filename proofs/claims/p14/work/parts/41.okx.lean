theorem cx_Fault_clear {S : SS} (hC : CX S) : CX (f_Fault_clear S) := cs_3 (cs_3 hC (by omega) (by omega)) (by omega) (by omega)
theorem cx_Sheet_clear {S : SS} (hC : CX S) {q0 : Nat} (hq : shOk q0) : CX (f_Sheet_clear S q0) := by have h := cap_le q0; exact cs_sh hC hq (by omega) (by omega)
theorem cx_Pile_clear {S : SS} (hC : CX S) : CX (f_Pile_clear S) := cs_10_5 (cs_10_4 (cs_10_3 hC (by omega) (by omega)) (by omega) (by omega)) (by omega) (by omega)
theorem cx_Mark_voidByStet {S : SS} (hC : CX S) {j0 : Nat} (hj : j0 < 40) {v1 : Int} (h1 : -1 ≤ v1 ∧ v1 ≤ 100) : CX (f_Mark_voidByStet S j0 v1) := by
  unfold f_Mark_voidByStet
  split
  · exact cs_mk_10 (cs_mk_8 hC hj (by omega) (by omega)) hj (by omega) (by omega)
  · exact hC
theorem andi255 (a : Int) : 0 ≤ andi a 255 ∧ andi a 255 ≤ 255 := t_byte (oi a)
theorem i_rng (x : Int32) : -2147483648 ≤ x.toInt ∧ x.toInt ≤ 2147483647 := by
  have h1 := Int32.toInt_lt x
  have h2 := Int32.le_toInt x
  omega
theorem tob_rng (a : Int) : -2147483648 ≤ tob a ∧ tob a ≤ 2147483647 := i_rng _
theorem l2i_rng (w : Int64) : -2147483648 ≤ l2i w ∧ l2i w ≤ 2147483647 := i_rng _
theorem shli_rng (a d : Int) : -2147483648 ≤ shli a d ∧ shli a d ≤ 2147483647 := i_rng _
theorem andi1 (a : Int) : 0 ≤ andi a 1 ∧ andi a 1 ≤ 1 := by
  unfold andi
  rw [show oi 1 = 1 from rfl]
  obtain ⟨j, hj, ej⟩ := pk_andE (oi a) (m := 1) 1 (by decide)
  rw [ej, nI_toInt (by omega)]
  omega
set_option maxHeartbeats 4000000 in
theorem ok_Fault_tellOf (S : SS) (v1 : Int) (v2 : Int) (hC : CX S) (hp0 : i32 v1) (hp1 : i32 v2) : okk (f_Fault_tellOf S v1 v2) (fun u => CX u.2 ∧ (u.1 = 0)) := by
  unfold f_Fault_tellOf
  refine ok_lt (fun S1_z eS1_z => ?_)
  have h1_y : CX S1_z := by rw [eS1_z]; exact cs_3 hC (by omega) (by omega)
  refine ok_lt (fun S2_z eS2_z => ?_)
  have h2_y : CX S2_z := by rw [eS2_z]; exact cs_3 h1_y (by omega) (by omega)
  exact ok_some ⟨h2_y, by omega⟩
set_option maxHeartbeats 4000000 in
theorem ok_Tape_byteAt (S : SS) (v1 : Int) (hC : CX S) : okk (f_Tape_byteAt S v1) (fun r => -1 ≤ r ∧ r ≤ 255) := by
  unfold f_Tape_byteAt
  refine ok_if (fun c1_y => ?_) (fun c1_y => ?_)
  · exact ok_some (by omega)
  · have b2_y := cx_1_1 hC
    refine ok_if (fun c3_y => ?_) (fun c3_y => ?_)
    · exact ok_some (by omega)
    · refine ok_if (fun c4_y => ?_) (fun c4_y => ?_)
      · refine ok_chk (by omega) ?_
        have b5_y := cx_2 hC (v1).toNat
        have b6_y := andi255 (gi S 2 (v1).toNat)
        exact ok_some (by omega)
      · exact ok_some (by omega)
set_option maxHeartbeats 4000000 in
theorem okl_Tape_addFour_3 (v1 : Int) : ∀ (n : Nat) (S : SS) (v2_ : Int), CX S → (-8 ≤ v2_ ∧ v2_ ≤ 24) → v2_ + 8 < (n : Int) → okk (f_Tape_addFour_3 v1 n S v2_) (fun S1 => CX S1 ∧ (True)) := by
  intro n
  induction n with
  | zero => intro S v2_ hC hi hm; exfalso; omega
  | succ n ih =>
    intro S v2_ hC hi hm
    have hm : v2_ + 8 < (n : Int) + 1 := by omega
    show okk (f_Tape_addFour_3_b v1 (f_Tape_addFour_3 v1 n) S v2_) _
    unfold f_Tape_addFour_3_b
    refine ok_if (fun c1_y => ?_) (fun c1_y => ?_)
    · exact ok_some ⟨hC, by trivial⟩
    · have b2_y := cx_1_1 hC
      refine ok_if (fun c3_y => ?_) (fun c3_y => ?_)
      · unfold f_Tape_addFour_49
        refine ok_chk (by omega) ?_
        exact ih S (v2_ + (-8)) hC (by omega) (by omega)
      · refine ok_if (fun c4_y => ?_) (fun c4_y => ?_)
        · unfold f_Tape_addFour_49
          refine ok_chk (by omega) ?_
          exact ih S (v2_ + (-8)) hC (by omega) (by omega)
        · refine ok_chk (by omega) ?_
          have b5_y := tob_rng (tob (ushri v1 v2_))
          have b6_y := tob_rng (ushri v1 v2_)
          refine ok_lt (fun S6_z eS6_z => ?_)
          have h7_y : CX S6_z := by rw [eS6_z]; exact cs_2 hC (by omega) (by omega)
          have f8_y : gi S6_z 1 1 = gi S 1 1 := gi_ne eS6_z (by omega)
          have b9_y := cx_1_1 h7_y
          refine ok_chk (by omega) ?_
          refine ok_lt (fun S9_z eS9_z => ?_)
          have h10_y : CX S9_z := by rw [eS9_z]; exact cs_1_1 h7_y (by omega) (by omega)
          have f11_y : gi S9_z 1 1 = (gi S6_z 1 1) + 1 := gi_eq eS9_z
          unfold f_Tape_addFour_49
          refine ok_chk (by omega) ?_
          exact ih S9_z (v2_ + (-8)) h10_y (by omega) (by omega)
set_option maxHeartbeats 4000000 in
theorem ok_Tape_addFour (S : SS) (v1 : Int) (hC : CX S) (hp0 : i32 v1) : okk (f_Tape_addFour S v1) (fun S1 => CX S1 ∧ (True)) := by
  unfold f_Tape_addFour
  exact okl_Tape_addFour_3 v1 FU S 24 hC (by omega) (by unfold FU; omega)
set_option maxHeartbeats 4000000 in
theorem ok_Sheet_add (S : SS) (q0 : Nat) (w1 : Int64) (hC : CX S) (hq0 : shOk q0) : okk (f_Sheet_add S q0 w1) (fun S1 => CX S1 ∧ (True)) := by
  unfold f_Sheet_add
  have b1_y := cx_sh hC hq0
  refine ok_if (fun c2_y => ?_) (fun c2_y => ?_)
  · exact ok_some ⟨hC, by trivial⟩
  · refine ok_if (fun c3_y => ?_) (fun c3_y => ?_)
    · exact ok_some ⟨hC, by trivial⟩
    · refine ok_chk (by omega) ?_
      refine ok_lt (fun S5_z eS5_z => ?_)
      have h4_y : CX S5_z := by rw [eS5_z]; exact cs_sl hC
      have f5_y : gi S5_z q0 1 = gi S q0 1 := gi_sl eS5_z
      have b6_y := cx_sh h4_y hq0
      refine ok_chk (by omega) ?_
      refine ok_lt (fun S8_z eS8_z => ?_)
      have h7_y : CX S8_z := by rw [eS8_z]; exact cs_sh h4_y hq0 (by omega) (by omega)
      have f8_y : gi S8_z q0 1 = (gi S5_z q0 1) + 1 := gi_eq eS8_z
      exact ok_some ⟨h7_y, by trivial⟩
set_option maxHeartbeats 4000000 in
theorem ok_Sheet_wordAt (S : SS) (q0 : Nat) (v1 : Int) (hC : CX S) (hq0 : shOk q0) : okk (f_Sheet_wordAt S q0 v1) (fun r => True) := by
  unfold f_Sheet_wordAt
  refine ok_if (fun c1_y => ?_) (fun c1_y => ?_)
  · exact ok_some (by trivial)
  · have b2_y := cx_sh hC hq0
    refine ok_if (fun c3_y => ?_) (fun c3_y => ?_)
    · exact ok_some (by trivial)
    · refine ok_if (fun c4_y => ?_) (fun c4_y => ?_)
      · refine ok_chk (by omega) ?_
        exact ok_some (by trivial)
      · exact ok_some (by trivial)
set_option maxHeartbeats 4000000 in
theorem okl_Sheet_addAll_2 (q0 : Nat) (q1 : Nat) (hq0 : shOk q0) (hq1 : shOk q1) : ∀ (n : Nat) (S : SS) (v2_ : Int), CX S → (0 ≤ v2_ ∧ v2_ ≤ 300) → 300 - v2_ < (n : Int) → okk (f_Sheet_addAll_2 q0 q1 n S v2_) (fun S1 => CX S1 ∧ (True)) := by
  intro n
  induction n with
  | zero => intro S v2_ hC hi hm; exfalso; omega
  | succ n ih =>
    intro S v2_ hC hi hm
    have hm : 300 - v2_ < (n : Int) + 1 := by omega
    show okk (f_Sheet_addAll_2_b q0 q1 (f_Sheet_addAll_2 q0 q1 n) S v2_) _
    unfold f_Sheet_addAll_2_b
    have b1_y := cx_sh hC hq1
    refine ok_if (fun c2_y => ?_) (fun c2_y => ?_)
    · exact ok_some ⟨hC, by trivial⟩
    · refine ok_b1 (ok_Sheet_wordAt S q1 v2_ hC hq1) (fun w2_z h3_y => ?_)
      refine ok_b1 (ok_Sheet_add S q0 w2_z hC hq0) (fun S4_z h4_y => ?_)
      obtain ⟨h5_y, p6_y⟩ := h4_y
      refine ok_chk (by omega) ?_
      exact ih S4_z (v2_ + 1) h5_y (by omega) (by omega)
set_option maxHeartbeats 4000000 in
theorem ok_Sheet_addAll (S : SS) (q0 : Nat) (q1 : Nat) (hC : CX S) (hq0 : shOk q0) (hq1 : shOk q1) : okk (f_Sheet_addAll S q0 q1) (fun S1 => CX S1 ∧ (True)) := by
  unfold f_Sheet_addAll
  exact okl_Sheet_addAll_2 q0 q1 hq0 hq1 FU S 0 hC (by omega) (by unfold FU; omega)
set_option maxHeartbeats 4000000 in
theorem ok_Sheet_copyFrom (S : SS) (q0 : Nat) (q1 : Nat) (hC : CX S) (hq0 : shOk q0) (hq1 : shOk q1) : okk (f_Sheet_copyFrom S q0 q1) (fun S1 => CX S1 ∧ (True)) := by
  unfold f_Sheet_copyFrom
  refine ok_lt (fun S1_z eS1_z => ?_)
  have h1_y : CX S1_z := by rw [eS1_z]; exact cx_Sheet_clear hC hq0
  refine ok_b1 (ok_Sheet_addAll S1_z q0 q1 h1_y hq0 hq1) (fun S3_z h2_y => ?_)
  obtain ⟨h3_y, p4_y⟩ := h2_y
  exact ok_some ⟨h3_y, by trivial⟩
set_option maxHeartbeats 4000000 in
theorem ok_Bill_priceOf (S : SS) (v1 : Int) (hC : CX S) : okk (f_Bill_priceOf S v1) (fun r => 0 ≤ r ∧ r ≤ 999) := by
  unfold f_Bill_priceOf
  refine ok_if (fun c1_y => ?_) (fun c1_y => ?_)
  · exact ok_some (by omega)
  · refine ok_if (fun c2_y => ?_) (fun c2_y => ?_)
    · refine ok_chk (by omega) ?_
      have b3_y := cx_191 hC (v1).toNat
      exact ok_some (by omega)
    · exact ok_some (by omega)
set_option maxHeartbeats 4000000 in
theorem ok_Bill_setPrice (S : SS) (v1 : Int) (v2 : Int) (hC : CX S) (hp0 : 0 ≤ v2 ∧ v2 ≤ 999) : okk (f_Bill_setPrice S v1 v2) (fun u => CX u.2 ∧ (True)) := by
  unfold f_Bill_setPrice
  refine ok_b1 (ok_Bill_priceOf S v1 hC) (fun r1_z h1_y => ?_)
  refine ok_if (fun c2_y => ?_) (fun c2_y => ?_)
  · exact ok_some ⟨hC, by trivial⟩
  · refine ok_if (fun c3_y => ?_) (fun c3_y => ?_)
    · exact ok_some ⟨hC, by trivial⟩
    · refine ok_chk (by omega) ?_
      refine ok_lt (fun S3_z eS3_z => ?_)
      have h4_y : CX S3_z := by rw [eS3_z]; exact cs_191 hC (by omega) (by omega)
      exact ok_some ⟨h4_y, by trivial⟩
set_option maxHeartbeats 4000000 in
theorem ok_Pile_rankOf (S : SS) (v1 : Int) (hC : CX S) : okk (f_Pile_rankOf S v1) (fun r => True) := by
  unfold f_Pile_rankOf
  refine ok_if (fun c1_y => ?_) (fun c1_y => ?_)
  · exact ok_some (by trivial)
  · refine ok_if (fun c2_y => ?_) (fun c2_y => ?_)
    · refine ok_chk (by omega) ?_
      have b3_y := cx_12 hC (v1).toNat
      exact ok_some (by trivial)
    · exact ok_some (by trivial)
set_option maxHeartbeats 4000000 in
theorem ok_Pile_markAt (S : SS) (v1 : Int) (hC : CX S) : okk (f_Pile_markAt S v1) (fun r => ∀ j, r = some j → j < 40) := by
  unfold f_Pile_markAt
  refine ok_if (fun c1_y => ?_) (fun c1_y => ?_)
  · exact ok_some (fun j hj => by cases hj)
  · refine ok_if (fun c2_y => ?_) (fun c2_y => ?_)
    · refine ok_chk (by omega) ?_
      refine ok_lt (fun o2_z eo2_z => ?_)
      exact ok_some (fun j hj => by rw [eo2_z, (hC).2.1 _ (by omega)] at hj; cases hj; omega)
    · exact ok_some (fun j hj => by cases hj)
set_option maxHeartbeats 4000000 in
theorem ok_Pile_find (S : SS) (v1 : Int) (hC : CX S) : okk (f_Pile_find S v1) (fun r => ∀ j, r = some j → j < 40) := by
  unfold f_Pile_find
  have b1_y := cx_10_3 hC
  refine ok_if (fun c2_y => ?_) (fun c2_y => ?_)
  · refine ok_b1 (ok_Pile_markAt S v1 hC) (fun o2_z h3_y => ?_)
    exact ok_some (fun j hj => h3_y j hj)
  · exact ok_some (fun j hj => by cases hj)
set_option maxHeartbeats 4000000 in
theorem ok_Pile_findNoStet (S : SS) (v1 : Int) (hC : CX S) : okk (f_Pile_findNoStet S v1) (fun r => ∀ j, r = some j → j < 40) := by
  unfold f_Pile_findNoStet
  refine ok_b1 (ok_Pile_find S v1 hC) (fun o1_z h1_y => ?_)
  refine ok_on (fun h2_y => ?_) (fun j3_z h2_y => ?_)
  · exact ok_some (fun j hj => by cases hj)
  · have hj3_z : j3_z < 40 := h1_y j3_z h2_y
    refine ok_chk (by omega) ?_
    have b3_y := cx_mk_2 hC hj3_z
    refine ok_if (fun c4_y => ?_) (fun c4_y => ?_)
    · exact ok_some (fun j hj => by cases hj)
    · exact ok_some (fun j hj => by cases hj; exact hj3_z)
set_option maxHeartbeats 4000000 in
theorem ok_Pile_doneNumber (S : SS) (v1 : Int) (hC : CX S) : okk (f_Pile_doneNumber S v1) (fun r => True) := by
  unfold f_Pile_doneNumber
  refine ok_if (fun c1_y => ?_) (fun c1_y => ?_)
  · exact ok_some (by trivial)
  · have b2_y := cx_10_5 hC
    refine ok_if (fun c3_y => ?_) (fun c3_y => ?_)
    · exact ok_some (by trivial)
    · refine ok_if (fun c4_y => ?_) (fun c4_y => ?_)
      · refine ok_chk (by omega) ?_
        have b5_y := cx_13 hC (v1).toNat
        exact ok_some (by trivial)
      · exact ok_some (by trivial)
set_option maxHeartbeats 4000000 in
theorem okl_Pile_tally_4 (S : SS) (v1 : Int) (hC : CX S) : ∀ (n : Nat) (v2_ : Int) (v3_ : Int), (0 ≤ v2_ ∧ v2_ ≤ v3_ ∧ 0 ≤ v3_ ∧ v3_ ≤ 40) → 40 - v3_ < (n : Int) → okk (f_Pile_tally_4 S v1 n v2_ v3_) (fun r => 0 ≤ r ∧ r ≤ 40) := by
  intro n
  induction n with
  | zero => intro v2_ v3_ hi hm; exfalso; omega
  | succ n ih =>
    intro v2_ v3_ hi hm
    have hm : 40 - v3_ < (n : Int) + 1 := by omega
    show okk (f_Pile_tally_4_b S v1 (f_Pile_tally_4 S v1 n) v2_ v3_) _
    unfold f_Pile_tally_4_b
    have b1_y := cx_10_3 hC
    refine ok_if (fun c2_y => ?_) (fun c2_y => ?_)
    · exact ok_some (by omega)
    · refine ok_b1 (ok_Pile_find S v3_ hC) (fun o2_z h3_y => ?_)
      refine ok_on (fun h4_y => ?_) (fun j4_z h4_y => ?_)
      · unfold f_Pile_tally_36
        refine ok_chk (by omega) ?_
        exact ih v2_ (v3_ + 1) (by omega) (by omega)
      · have hj4_z : j4_z < 40 := h3_y j4_z h4_y
        refine ok_chk (by omega) ?_
        have b5_y := cx_mk_11 hC hj4_z
        refine ok_if (fun c6_y => ?_) (fun c6_y => ?_)
        · refine ok_chk (by omega) ?_
          unfold f_Pile_tally_36
          refine ok_chk (by omega) ?_
          exact ih (v2_ + 1) (v3_ + 1) (by omega) (by omega)
        · unfold f_Pile_tally_36
          refine ok_chk (by omega) ?_
          exact ih v2_ (v3_ + 1) (by omega) (by omega)
set_option maxHeartbeats 4000000 in
theorem ok_Pile_tally (S : SS) (v1 : Int) (hC : CX S) : okk (f_Pile_tally S v1) (fun r => 0 ≤ r ∧ r ≤ 40) := by
  unfold f_Pile_tally
  exact okl_Pile_tally_4 S v1 hC FU 0 0 (by omega) (by unfold FU; omega)
set_option maxHeartbeats 4000000 in
theorem okl_Bill_sum_5 (S : SS) (v2 : Int) (hC : CX S) : ∀ (n : Nat) (v3_ : Int) (v4_ : Int), (0 ≤ v3_ ∧ v3_ ≤ 999 * v4_ ∧ 0 ≤ v4_ ∧ v4_ ≤ 40) → 40 - v4_ < (n : Int) → okk (f_Bill_sum_5 S v2 n v3_ v4_) (fun r => True) := by
  intro n
  induction n with
  | zero => intro v3_ v4_ hi hm; exfalso; omega
  | succ n ih =>
    intro v3_ v4_ hi hm
    have hm : 40 - v4_ < (n : Int) + 1 := by omega
    show okk (f_Bill_sum_5_b S v2 (f_Bill_sum_5 S v2 n) v3_ v4_) _
    unfold f_Bill_sum_5_b
    have b1_y := cx_10_5 hC
    refine ok_if (fun c2_y => ?_) (fun c2_y => ?_)
    · exact ok_some (by trivial)
    · refine ok_b1 (ok_Pile_doneNumber S v4_ hC) (fun r2_z h3_y => ?_)
      refine ok_b1 (ok_Pile_find S r2_z hC) (fun o4_z h4_y => ?_)
      refine ok_on (fun h5_y => ?_) (fun j6_z h5_y => ?_)
      · unfold f_Bill_sum_69
        refine ok_chk (by omega) ?_
        exact ih v3_ (v4_ + 1) (by omega) (by omega)
      · have hj6_z : j6_z < 40 := h4_y j6_z h5_y
        refine ok_chk (by omega) ?_
        have b6_y := cx_mk_3 hC hj6_z
        refine ok_if (fun c7_y => ?_) (fun c7_y => ?_)
        · unfold f_Bill_sum_48
          unfold f_Bill_sum_53
          refine ok_if (fun c8_y => ?_) (fun c8_y => ?_)
          · have b9_y := cx_mk_2 hC hj6_z
            refine ok_b1 (ok_Bill_priceOf S (gi S (14 + 4 * j6_z) 2) hC) (fun r2_z h10_y => ?_)
            refine ok_chk (by omega) ?_
            unfold f_Bill_sum_69
            refine ok_chk (by omega) ?_
            exact ih (v3_ + r2_z) (v4_ + 1) (by omega) (by omega)
          · unfold f_Bill_sum_69
            refine ok_chk (by omega) ?_
            exact ih v3_ (v4_ + 1) (by omega) (by omega)
        · have b11_y := cx_mk_9 hC hj6_z
          refine ok_if (fun c12_y => ?_) (fun c12_y => ?_)
          · unfold f_Bill_sum_53
            refine ok_if (fun c13_y => ?_) (fun c13_y => ?_)
            · have b14_y := cx_mk_2 hC hj6_z
              refine ok_b1 (ok_Bill_priceOf S (gi S (14 + 4 * j6_z) 2) hC) (fun r2_z h15_y => ?_)
              refine ok_chk (by omega) ?_
              unfold f_Bill_sum_69
              refine ok_chk (by omega) ?_
              exact ih (v3_ + r2_z) (v4_ + 1) (by omega) (by omega)
            · unfold f_Bill_sum_69
              refine ok_chk (by omega) ?_
              exact ih v3_ (v4_ + 1) (by omega) (by omega)
          · unfold f_Bill_sum_48
            unfold f_Bill_sum_53
            refine ok_if (fun c16_y => ?_) (fun c16_y => ?_)
            · have b17_y := cx_mk_2 hC hj6_z
              refine ok_b1 (ok_Bill_priceOf S (gi S (14 + 4 * j6_z) 2) hC) (fun r2_z h18_y => ?_)
              refine ok_chk (by omega) ?_
              unfold f_Bill_sum_69
              refine ok_chk (by omega) ?_
              exact ih (v3_ + r2_z) (v4_ + 1) (by omega) (by omega)
            · unfold f_Bill_sum_69
              refine ok_chk (by omega) ?_
              exact ih v3_ (v4_ + 1) (by omega) (by omega)
set_option maxHeartbeats 4000000 in
theorem ok_Bill_sum (S : SS) (v2 : Int) (hC : CX S) : okk (f_Bill_sum S v2) (fun r => True) := by
  unfold f_Bill_sum
  exact okl_Bill_sum_5 S v2 hC FU 0 0 (by omega) (by unfold FU; omega)
