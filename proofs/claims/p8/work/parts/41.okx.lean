theorem cx_Fault_clear {b : Nat} {S : SS} (hC : CX b S) : CX b (f_Fault_clear S) := cs_3 (cs_3 hC (by omega) (by omega)) (by omega) (by omega)
theorem cx_Sheet_clear {b : Nat} {S : SS} (hC : CX b S) {q0 : Nat} (hq : shOk q0) : CX b (f_Sheet_clear S q0) := by have h := cap_le q0; exact cs_sh hC hq (by omega) (by omega)
theorem cx_Pile_clear {S : SS} (hC : CX 0 S) : CX 0 (f_Pile_clear S) := cs_10_5 (cs_10_4 (cs_10_3 hC (by decide) (by omega) (by omega)) (by decide) (by omega) (by omega)) (by omega) (by omega)
theorem cx_Mark_voidByStet {b : Nat} {S : SS} (hC : CX b S) {j0 : Nat} (hj : j0 < 40) {v1 : Int} (h1 : -1 ≤ v1 ∧ v1 ≤ 100) : CX b (f_Mark_voidByStet S j0 v1) := by
  unfold f_Mark_voidByStet
  split
  · exact cs_mk_10 (cs_mk_8 hC hj (by omega) (by omega)) hj (by omega) (by omega)
  · exact hC
theorem andi255 (a : Int) : 0 ≤ andi a 255 ∧ andi a 255 ≤ 255 := t_byte (oi a)
theorem i_rng (x : Int32) : -2147483648 ≤ x.toInt ∧ x.toInt ≤ 2147483647 := by
  have h1 := Int32.toInt_lt x
  have h2 := Int32.le_toInt x
  omega
theorem tob_rng (a : Int) : -2147483648 ≤ tob a ∧ tob a ≤ 2147483647 := i_rng _
theorem l2i_rng (w : Int64) : -2147483648 ≤ l2i w ∧ l2i w ≤ 2147483647 := i_rng _
theorem shli_rng (a d : Int) : -2147483648 ≤ shli a d ∧ shli a d ≤ 2147483647 := i_rng _
theorem andi1 (a : Int) : 0 ≤ andi a 1 ∧ andi a 1 ≤ 1 := by
  unfold andi
  rw [show oi 1 = 1 from rfl]
  obtain ⟨j, hj, ej⟩ := pk_andE (oi a) (m := 1) 1 (by decide)
  rw [ej, nI_toInt (by omega)]
  omega
set_option maxHeartbeats 4000000 in
theorem ok_Fault_tellOf {b : Nat} (S : SS) (v1 : Int) (v2 : Int) (hC : CX b S) (hp0 : i32 v1) (hp1 : i32 v2) : okk (f_Fault_tellOf S v1 v2) (fun u => CX b u.2 ∧ (u.1 = 0)) := by
  unfold f_Fault_tellOf
  refine ok_lt (fun S1x1_z eS1x1_z => ?_)
  have h2_y : CX b S1x1_z := by rw [eS1x1_z]; exact cs_3 hC (by omega) (by omega)
  have f3_y : gi S1x1_z 3 0 = v1 := gi_eq eS1x1_z
  refine ok_lt (fun S2x1_z eS2x1_z => ?_)
  have h4_y : CX b S2x1_z := by rw [eS2x1_z]; exact cs_3 h2_y (by omega) (by omega)
  have f5_y : gi S2x1_z 3 1 = v2 := gi_eq eS2x1_z
  have f6_y : gi S2x1_z 3 0 = gi S1x1_z 3 0 := gi_ne eS2x1_z (by omega)
  exact ok_some ⟨h4_y, by omega⟩
set_option maxHeartbeats 4000000 in
theorem ok_Tape_byteAt {b : Nat} (S : SS) (v1 : Int) (hC : CX b S) : okk (f_Tape_byteAt S v1) (fun r => -1 ≤ r ∧ r ≤ 255 ∧ (r = -1 ∨ (0 ≤ v1 ∧ v1 < gi S 1 1))) := by
  unfold f_Tape_byteAt
  refine ok_if (fun c2_y => ?_) (fun c2_y => ?_)
  · exact ok_some (by omega)
  · have b3_y := cx_1_1 hC
    refine ok_if (fun c4_y => ?_) (fun c4_y => ?_)
    · exact ok_some (by omega)
    · refine ok_if (fun c5_y => ?_) (fun c5_y => ?_)
      · refine ok_chk (by omega) ?_
        have b6_y := cx_2 hC (v1).toNat
        have b7_y := andi255 (gi S 2 (v1).toNat)
        exact ok_some (by omega)
      · exact ok_some (by omega)
set_option maxHeartbeats 4000000 in
theorem okl_Tape_addFour_3 {b : Nat} (v1 : Int) : ∀ (n : Nat) (S : SS) (v2_ : Int), CX b S → (-8 ≤ v2_ ∧ v2_ ≤ 24) → v2_ + 8 < (n : Int) → okk (f_Tape_addFour_3 v1 n S v2_) (fun S1 => CX b S1 ∧ (True)) := by
  intro n
  induction n with
  | zero => intro S v2_ hC hi hm; exfalso; omega
  | succ n ih =>
    intro S v2_ hC hi hm
    have hm : v2_ + 8 < (n : Int) + 1 := by omega
    show okk (f_Tape_addFour_3_b v1 (f_Tape_addFour_3 v1 n) S v2_) _
    unfold f_Tape_addFour_3_b
    refine ok_if (fun c1_y => ?_) (fun c1_y => ?_)
    · exact ok_some ⟨hC, by trivial⟩
    · have b2_y := cx_1_1 hC
      refine ok_if (fun c3_y => ?_) (fun c3_y => ?_)
      · unfold f_Tape_addFour_49
        refine ok_chk (by omega) ?_
        exact ih S (v2_ + (-8)) hC (by omega) (by omega)
      · refine ok_if (fun c5_y => ?_) (fun c5_y => ?_)
        · unfold f_Tape_addFour_49
          refine ok_chk (by omega) ?_
          exact ih S (v2_ + (-8)) hC (by omega) (by omega)
        · refine ok_chk (by omega) ?_
          have b7_y := tob_rng (tob (ushri v1 v2_))
          have b8_y := tob_rng (ushri v1 v2_)
          refine ok_lt (fun S6_z eS6_z => ?_)
          have h9_y : CX b S6_z := by rw [eS6_z]; exact cs_2 hC (by omega) (by omega)
          have f10_y : gi S6_z 1 1 = gi S 1 1 := gi_ne eS6_z (by omega)
          refine ok_chk (by omega) ?_
          refine ok_lt (fun S9_z eS9_z => ?_)
          have h11_y : CX b S9_z := by rw [eS9_z]; exact cs_1_1 h9_y (by omega) (by omega)
          have f12_y : gi S9_z 1 1 = (gi S6_z 1 1) + 1 := gi_eq eS9_z
          unfold f_Tape_addFour_49
          refine ok_chk (by omega) ?_
          exact ih S9_z (v2_ + (-8)) h11_y (by omega) (by omega)
set_option maxHeartbeats 4000000 in
theorem ok_Tape_addFour {b : Nat} (S : SS) (v1 : Int) (hC : CX b S) (hp0 : i32 v1) : okk (f_Tape_addFour S v1) (fun S1 => CX b S1 ∧ (True)) := by
  unfold f_Tape_addFour
  exact okl_Tape_addFour_3 v1 FU S 24 hC (by omega) (by unfold FU; omega)
set_option maxHeartbeats 4000000 in
theorem ok_Sheet_add {b : Nat} (S : SS) (q0 : Nat) (w1 : Int64) (hC : CX b S) (hq0 : shOk q0) : okk (f_Sheet_add S q0 w1) (fun S1 => CX b S1 ∧ (True)) := by
  unfold f_Sheet_add
  have b2_y := cx_sh hC hq0
  refine ok_if (fun c3_y => ?_) (fun c3_y => ?_)
  · exact ok_some ⟨hC, by trivial⟩
  · refine ok_if (fun c4_y => ?_) (fun c4_y => ?_)
    · exact ok_some ⟨hC, by trivial⟩
    · refine ok_chk (by omega) ?_
      refine ok_lt (fun S5x1_z eS5x1_z => ?_)
      have h5_y : CX b S5x1_z := by rw [eS5x1_z]; exact cs_sl hC
      have f6_y : gi S5x1_z q0 1 = gi S q0 1 := gi_sl eS5x1_z
      refine ok_chk (by omega) ?_
      refine ok_lt (fun S8x1_z eS8x1_z => ?_)
      have h7_y : CX b S8x1_z := by rw [eS8x1_z]; exact cs_sh h5_y hq0 (by omega) (by omega)
      have f8_y : gi S8x1_z q0 1 = (gi S5x1_z q0 1) + 1 := gi_eq eS8x1_z
      exact ok_some ⟨h7_y, by trivial⟩
set_option maxHeartbeats 4000000 in
theorem ok_Sheet_wordAt {b : Nat} (S : SS) (q0 : Nat) (v1 : Int) (hC : CX b S) (hq0 : shOk q0) : okk (f_Sheet_wordAt S q0 v1) (fun r => True) := by
  unfold f_Sheet_wordAt
  refine ok_if (fun c2_y => ?_) (fun c2_y => ?_)
  · exact ok_some (by trivial)
  · have b3_y := cx_sh hC hq0
    refine ok_if (fun c4_y => ?_) (fun c4_y => ?_)
    · exact ok_some (by trivial)
    · refine ok_if (fun c5_y => ?_) (fun c5_y => ?_)
      · refine ok_chk (by omega) ?_
        exact ok_some (by trivial)
      · exact ok_some (by trivial)
set_option maxHeartbeats 4000000 in
theorem okl_Sheet_addAll_2 {b : Nat} (q0 : Nat) (q1 : Nat) (hq0 : shOk q0) (hq1 : shOk q1) : ∀ (n : Nat) (S : SS) (v2_ : Int), CX b S → (0 ≤ v2_ ∧ v2_ ≤ 300) → 300 - v2_ < (n : Int) → okk (f_Sheet_addAll_2 q0 q1 n S v2_) (fun S1 => CX b S1 ∧ (True)) := by
  intro n
  induction n with
  | zero => intro S v2_ hC hi hm; exfalso; omega
  | succ n ih =>
    intro S v2_ hC hi hm
    have hm : 300 - v2_ < (n : Int) + 1 := by omega
    show okk (f_Sheet_addAll_2_b q0 q1 (f_Sheet_addAll_2 q0 q1 n) S v2_) _
    unfold f_Sheet_addAll_2_b
    have b1_y := cx_sh hC hq1
    refine ok_if (fun c2_y => ?_) (fun c2_y => ?_)
    · exact ok_some ⟨hC, by trivial⟩
    · refine ok_b1 (ok_Sheet_wordAt S q1 v2_ hC hq1) (fun w2_z h3_y => ?_)
      refine ok_b1 (ok_Sheet_add S q0 w2_z hC hq0) (fun S4_z h4_y => ?_)
      obtain ⟨h5_y, p6_y⟩ := h4_y
      refine ok_chk (by omega) ?_
      exact ih S4_z (v2_ + 1) h5_y (by omega) (by omega)
set_option maxHeartbeats 4000000 in
theorem ok_Sheet_addAll {b : Nat} (S : SS) (q0 : Nat) (q1 : Nat) (hC : CX b S) (hq0 : shOk q0) (hq1 : shOk q1) : okk (f_Sheet_addAll S q0 q1) (fun S1 => CX b S1 ∧ (True)) := by
  unfold f_Sheet_addAll
  exact okl_Sheet_addAll_2 q0 q1 hq0 hq1 FU S 0 hC (by omega) (by unfold FU; omega)
set_option maxHeartbeats 4000000 in
theorem ok_Sheet_copyFrom {b : Nat} (S : SS) (q0 : Nat) (q1 : Nat) (hC : CX b S) (hq0 : shOk q0) (hq1 : shOk q1) : okk (f_Sheet_copyFrom S q0 q1) (fun S1 => CX b S1 ∧ (True)) := by
  unfold f_Sheet_copyFrom
  refine ok_lt (fun S1x1_z eS1x1_z => ?_)
  have h2_y : CX b S1x1_z := by rw [eS1x1_z]; exact cx_Sheet_clear hC hq0
  refine ok_b1 (ok_Sheet_addAll S1x1_z q0 q1 h2_y hq0 hq1) (fun S3x1_z h3_y => ?_)
  obtain ⟨h4_y, p5_y⟩ := h3_y
  exact ok_some ⟨h4_y, by trivial⟩
set_option maxHeartbeats 4000000 in
theorem ok_Bill_priceOf {b : Nat} (S : SS) (v1 : Int) (hC : CX b S) : okk (f_Bill_priceOf S v1) (fun r => 0 ≤ r ∧ r ≤ 999) := by
  unfold f_Bill_priceOf
  refine ok_if (fun c2_y => ?_) (fun c2_y => ?_)
  · exact ok_some (by omega)
  · refine ok_if (fun c3_y => ?_) (fun c3_y => ?_)
    · refine ok_chk (by omega) ?_
      have b4_y := cx_191 hC (v1).toNat
      exact ok_some (by omega)
    · exact ok_some (by omega)
set_option maxHeartbeats 4000000 in
theorem ok_Bill_setPrice {b : Nat} (S : SS) (v1 : Int) (v2 : Int) (hC : CX b S) (hp0 : 0 ≤ v2 ∧ v2 ≤ 999) : okk (f_Bill_setPrice S v1 v2) (fun u => CX b u.2 ∧ (True)) := by
  unfold f_Bill_setPrice
  refine ok_b1 (ok_Bill_priceOf S v1 hC) (fun r1x1_z h2_y => ?_)
  refine ok_if (fun c3_y => ?_) (fun c3_y => ?_)
  · exact ok_some ⟨hC, by trivial⟩
  · refine ok_if (fun c4_y => ?_) (fun c4_y => ?_)
    · exact ok_some ⟨hC, by trivial⟩
    · refine ok_chk (by omega) ?_
      refine ok_lt (fun S3x1_z eS3x1_z => ?_)
      have h5_y : CX b S3x1_z := by rw [eS3x1_z]; exact cs_191 hC (by omega) (by omega)
      exact ok_some ⟨h5_y, by trivial⟩
set_option maxHeartbeats 4000000 in
theorem ok_Pile_rankOf {b : Nat} (S : SS) (v1 : Int) (hC : CX b S) : okk (f_Pile_rankOf S v1) (fun r => True) := by
  unfold f_Pile_rankOf
  refine ok_if (fun c2_y => ?_) (fun c2_y => ?_)
  · exact ok_some (by trivial)
  · refine ok_if (fun c3_y => ?_) (fun c3_y => ?_)
    · refine ok_chk (by omega) ?_
      have b4_y := cx_12 hC (v1).toNat
      exact ok_some (by trivial)
    · exact ok_some (by trivial)
set_option maxHeartbeats 4000000 in
theorem ok_Pile_markAt {b : Nat} (S : SS) (v1 : Int) (hC : CX b S) : okk (f_Pile_markAt S v1) (fun r => ∀ j, r = some j → j < 40) := by
  unfold f_Pile_markAt
  refine ok_if (fun c2_y => ?_) (fun c2_y => ?_)
  · exact ok_some (fun j hj => by cases hj)
  · refine ok_if (fun c3_y => ?_) (fun c3_y => ?_)
    · refine ok_chk (by omega) ?_
      refine ok_lt (fun o2x1_z eo2x1_z => ?_)
      exact ok_some (fun j hj => by rw [eo2x1_z, (hC).2.1 _ (by omega)] at hj; cases hj; omega)
    · exact ok_some (fun j hj => by cases hj)
set_option maxHeartbeats 4000000 in
theorem ok_Pile_find {b : Nat} (S : SS) (v1 : Int) (hC : CX b S) : okk (f_Pile_find S v1) (fun r => ∀ j, r = some j → j < 40) := by
  unfold f_Pile_find
  have b2_y := cx_10_3 hC
  refine ok_if (fun c3_y => ?_) (fun c3_y => ?_)
  · refine ok_b1 (ok_Pile_markAt S v1 hC) (fun o2x1_z h4_y => ?_)
    exact ok_some (fun j hj => h4_y j hj)
  · exact ok_some (fun j hj => by cases hj)
set_option maxHeartbeats 4000000 in
theorem ok_Pile_findNoStet {b : Nat} (S : SS) (v1 : Int) (hC : CX b S) : okk (f_Pile_findNoStet S v1) (fun r => ∀ j, r = some j → j < 40) := by
  unfold f_Pile_findNoStet
  refine ok_b1 (ok_Pile_find S v1 hC) (fun o1x1_z h2_y => ?_)
  refine ok_on (fun h3_y => ?_) (fun j3x1_z h3_y => ?_)
  · exact ok_some (fun j hj => by cases hj)
  · have hj3x1_z : j3x1_z < 40 := h2_y j3x1_z h3_y
    refine ok_chk (by omega) ?_
    have b4_y := cx_mk_2 hC hj3x1_z
    refine ok_if (fun c5_y => ?_) (fun c5_y => ?_)
    · exact ok_some (fun j hj => by cases hj)
    · exact ok_some (fun j hj => by cases hj; exact hj3x1_z)
set_option maxHeartbeats 4000000 in
theorem ok_Pile_doneNumber {b : Nat} (S : SS) (v1 : Int) (hC : CX b S) : okk (f_Pile_doneNumber S v1) (fun r => -2147483648 ≤ r ∧ r ≤ 2147483647) := by
  unfold f_Pile_doneNumber
  refine ok_if (fun c2_y => ?_) (fun c2_y => ?_)
  · exact ok_some (by omega)
  · have b3_y := cx_10_5 hC
    refine ok_if (fun c4_y => ?_) (fun c4_y => ?_)
    · exact ok_some (by omega)
    · refine ok_if (fun c5_y => ?_) (fun c5_y => ?_)
      · refine ok_chk (by omega) ?_
        have b6_y := cx_13 hC (v1).toNat
        exact ok_some (by omega)
      · exact ok_some (by omega)
set_option maxHeartbeats 4000000 in
theorem okl_Pile_tally_4 {b : Nat} (S : SS) (v1 : Int) (hC : CX b S) : ∀ (n : Nat) (v2_ : Int) (v3_ : Int), (0 ≤ v2_ ∧ v2_ ≤ v3_ ∧ 0 ≤ v3_ ∧ v3_ ≤ 40) → 40 - v3_ < (n : Int) → okk (f_Pile_tally_4 S v1 n v2_ v3_) (fun r => 0 ≤ r ∧ r ≤ 40) := by
  intro n
  induction n with
  | zero => intro v2_ v3_ hi hm; exfalso; omega
  | succ n ih =>
    intro v2_ v3_ hi hm
    have hm : 40 - v3_ < (n : Int) + 1 := by omega
    show okk (f_Pile_tally_4_b S v1 (f_Pile_tally_4 S v1 n) v2_ v3_) _
    unfold f_Pile_tally_4_b
    have b1_y := cx_10_3 hC
    refine ok_if (fun c2_y => ?_) (fun c2_y => ?_)
    · exact ok_some (by omega)
    · refine ok_b1 (ok_Pile_find S v3_ hC) (fun o2_z h3_y => ?_)
      refine ok_on (fun h4_y => ?_) (fun j4_z h4_y => ?_)
      · unfold f_Pile_tally_36
        refine ok_chk (by omega) ?_
        exact ih v2_ (v3_ + 1) (by omega) (by omega)
      · have hj4_z : j4_z < 40 := h3_y j4_z h4_y
        refine ok_chk (by omega) ?_
        have b6_y := cx_mk_11 hC hj4_z
        refine ok_if (fun c7_y => ?_) (fun c7_y => ?_)
        · refine ok_chk (by omega) ?_
          unfold f_Pile_tally_36
          refine ok_chk (by omega) ?_
          exact ih (v2_ + 1) (v3_ + 1) (by omega) (by omega)
        · unfold f_Pile_tally_36
          refine ok_chk (by omega) ?_
          exact ih v2_ (v3_ + 1) (by omega) (by omega)
set_option maxHeartbeats 4000000 in
theorem ok_Pile_tally {b : Nat} (S : SS) (v1 : Int) (hC : CX b S) : okk (f_Pile_tally S v1) (fun r => 0 ≤ r ∧ r ≤ 40) := by
  unfold f_Pile_tally
  exact okl_Pile_tally_4 S v1 hC FU 0 0 (by omega) (by unfold FU; omega)
set_option maxHeartbeats 4000000 in
theorem okl_Bill_sum_5 {b : Nat} (S : SS) (v2 : Int) (hC : CX b S) : ∀ (n : Nat) (v3_ : Int) (v4_ : Int), (0 ≤ v3_ ∧ v3_ ≤ 999 * v4_ ∧ 0 ≤ v4_ ∧ v4_ ≤ 40) → 40 - v4_ < (n : Int) → okk (f_Bill_sum_5 S v2 n v3_ v4_) (fun r => True) := by
  intro n
  induction n with
  | zero => intro v3_ v4_ hi hm; exfalso; omega
  | succ n ih =>
    intro v3_ v4_ hi hm
    have hm : 40 - v4_ < (n : Int) + 1 := by omega
    show okk (f_Bill_sum_5_b S v2 (f_Bill_sum_5 S v2 n) v3_ v4_) _
    unfold f_Bill_sum_5_b
    have b1_y := cx_10_5 hC
    refine ok_if (fun c2_y => ?_) (fun c2_y => ?_)
    · exact ok_some (by trivial)
    · refine ok_b1 (ok_Pile_doneNumber S v4_ hC) (fun r2_z h3_y => ?_)
      refine ok_b1 (ok_Pile_find S r2_z hC) (fun o4_z h4_y => ?_)
      refine ok_on (fun h5_y => ?_) (fun j6_z h5_y => ?_)
      · unfold f_Bill_sum_69
        refine ok_chk (by omega) ?_
        exact ih v3_ (v4_ + 1) (by omega) (by omega)
      · have hj6_z : j6_z < 40 := h4_y j6_z h5_y
        refine ok_chk (by omega) ?_
        have b7_y := cx_mk_3 hC hj6_z
        refine ok_if (fun c8_y => ?_) (fun c8_y => ?_)
        · unfold f_Bill_sum_48
          unfold f_Bill_sum_53
          refine ok_if (fun c11_y => ?_) (fun c11_y => ?_)
          · have b12_y := cx_mk_2 hC hj6_z
            refine ok_b1 (ok_Bill_priceOf S (gi S (14 + 4 * j6_z) 2) hC) (fun r2x10_z h13_y => ?_)
            refine ok_chk (by omega) ?_
            unfold f_Bill_sum_69
            refine ok_chk (by omega) ?_
            exact ih (v3_ + r2x10_z) (v4_ + 1) (by omega) (by omega)
          · unfold f_Bill_sum_69
            refine ok_chk (by omega) ?_
            exact ih v3_ (v4_ + 1) (by omega) (by omega)
        · have b16_y := cx_mk_9 hC hj6_z
          refine ok_if (fun c17_y => ?_) (fun c17_y => ?_)
          · unfold f_Bill_sum_53
            refine ok_if (fun c19_y => ?_) (fun c19_y => ?_)
            · have b20_y := cx_mk_2 hC hj6_z
              refine ok_b1 (ok_Bill_priceOf S (gi S (14 + 4 * j6_z) 2) hC) (fun r2x18_z h21_y => ?_)
              refine ok_chk (by omega) ?_
              unfold f_Bill_sum_69
              refine ok_chk (by omega) ?_
              exact ih (v3_ + r2x18_z) (v4_ + 1) (by omega) (by omega)
            · unfold f_Bill_sum_69
              refine ok_chk (by omega) ?_
              exact ih v3_ (v4_ + 1) (by omega) (by omega)
          · unfold f_Bill_sum_48
            unfold f_Bill_sum_53
            refine ok_if (fun c26_y => ?_) (fun c26_y => ?_)
            · have b27_y := cx_mk_2 hC hj6_z
              refine ok_b1 (ok_Bill_priceOf S (gi S (14 + 4 * j6_z) 2) hC) (fun r2x25_z h28_y => ?_)
              refine ok_chk (by omega) ?_
              unfold f_Bill_sum_69
              refine ok_chk (by omega) ?_
              exact ih (v3_ + r2x25_z) (v4_ + 1) (by omega) (by omega)
            · unfold f_Bill_sum_69
              refine ok_chk (by omega) ?_
              exact ih v3_ (v4_ + 1) (by omega) (by omega)
set_option maxHeartbeats 4000000 in
theorem ok_Bill_sum {b : Nat} (S : SS) (v2 : Int) (hC : CX b S) : okk (f_Bill_sum S v2) (fun r => True) := by
  unfold f_Bill_sum
  exact okl_Bill_sum_5 S v2 hC FU 0 0 (by omega) (by unfold FU; omega)
theorem fits01 (S : SS) (j0 : Nat) (v1 v2 : Int) : f_Mark_fitsInside S j0 v1 v2 = 0 ∨ f_Mark_fitsInside S j0 v1 v2 = 1 := by
  unfold f_Mark_fitsInside f_Mark_fitsInside_26
  repeat' split
  all_goals omega
theorem und_rng (S : SS) (j0 : Nat) : 1 ≤ f_Mark_undecidedStatus S j0 ∧ f_Mark_undecidedStatus S j0 ≤ 4 := by
  unfold f_Mark_undecidedStatus
  repeat' split
  all_goals omega
set_option maxHeartbeats 4000000 in
theorem okl_Mark_clear_2 {b : Nat} (j0 : Nat) (hj0 : j0 < 40) : ∀ (n : Nat) (S : SS) (v1_ : Int), CX b S → (0 ≤ v1_ ∧ v1_ ≤ 3) → 3 - v1_ < (n : Int) → okk (f_Mark_clear_2 j0 n S v1_) (fun S1 => CX b S1 ∧ (True)) := by
  intro n
  induction n with
  | zero => intro S v1_ hC hi hm; exfalso; omega
  | succ n ih =>
    intro S v1_ hC hi hm
    have hm : 3 - v1_ < (n : Int) + 1 := by omega
    show okk (f_Mark_clear_2_b j0 (f_Mark_clear_2 j0 n) S v1_) _
    unfold f_Mark_clear_2_b
    refine ok_if (fun c1_y => ?_) (fun c1_y => ?_)
    · refine ok_lt (fun S1_z eS1_z => ?_)
      have h2_y : CX b S1_z := by rw [eS1_z]; exact cx_Sheet_clear hC (show shOk (14 + 4 * j0 + 2) by omega)
      refine ok_lt (fun S3_z eS3_z => ?_)
      have h3_y : CX b S3_z := by rw [eS3_z]; exact cs_mk_2 h2_y hj0 (by omega) (by omega)
      refine ok_lt (fun S4_z eS4_z => ?_)
      have h4_y : CX b S4_z := by rw [eS4_z]; exact cs_mk_3 h3_y hj0 (by omega) (by omega)
      refine ok_lt (fun S5_z eS5_z => ?_)
      have h5_y : CX b S5_z := by rw [eS5_z]; exact cs_mk_7 h4_y hj0 (by omega) (by omega)
      refine ok_lt (fun S6_z eS6_z => ?_)
      have h6_y : CX b S6_z := by rw [eS6_z]; exact cs_mk_8 h5_y hj0 (by omega) (by omega)
      refine ok_lt (fun S7_z eS7_z => ?_)
      have h7_y : CX b S7_z := by rw [eS7_z]; exact cs_mk_9 h6_y hj0 (by omega) (by omega)
      refine ok_lt (fun S8_z eS8_z => ?_)
      have h8_y : CX b S8_z := by rw [eS8_z]; exact cs_mk_10 h7_y hj0 (by omega) (by omega)
      refine ok_lt (fun S9_z eS9_z => ?_)
      have h9_y : CX b S9_z := by rw [eS9_z]; exact cs_mk_11 h8_y hj0 (by omega) (by omega)
      refine ok_lt (fun S10_z eS10_z => ?_)
      have h10_y : CX b S10_z := by rw [eS10_z]; exact cs_mk_12 h9_y hj0 (by omega) (by omega)
      exact ok_some ⟨h10_y, by trivial⟩
    · refine ok_chk (by omega) ?_
      refine ok_lt (fun S11_z eS11_z => ?_)
      have h11_y : CX b S11_z := by rw [eS11_z]; exact cs_nm hC hj0 (by omega) (by omega)
      refine ok_chk (by omega) ?_
      exact ih S11_z (v1_ + 1) h11_y (by omega) (by omega)
set_option maxHeartbeats 4000000 in
theorem ok_Mark_clear {b : Nat} (S : SS) (j0 : Nat) (hC : CX b S) (hj0 : j0 < 40) : okk (f_Mark_clear S j0) (fun S1 => CX b S1 ∧ (True)) := by
  unfold f_Mark_clear
  exact okl_Mark_clear_2 j0 hj0 FU S 0 hC (by omega) (by unfold FU; omega)
set_option maxHeartbeats 4000000 in
theorem ok_Mark_number {b : Nat} (S : SS) (j0 : Nat) (v1 : Int) (hC : CX b S) (hj0 : j0 < 40) : okk (f_Mark_number S j0 v1) (fun r => -1 ≤ r ∧ r ≤ 999) := by
  unfold f_Mark_number
  refine ok_if (fun c2_y => ?_) (fun c2_y => ?_)
  · exact ok_some (by omega)
  · refine ok_if (fun c3_y => ?_) (fun c3_y => ?_)
    · refine ok_chk (by omega) ?_
      have b4_y := cx_nm hC hj0 (v1).toNat
      exact ok_some (by omega)
    · exact ok_some (by omega)
set_option maxHeartbeats 4000000 in
theorem ok_Mark_setNumber {b : Nat} (S : SS) (j0 : Nat) (v1 : Int) (v2 : Int) (hC : CX b S) (hj0 : j0 < 40) (hp0 : -1 ≤ v2 ∧ v2 ≤ 999) : okk (f_Mark_setNumber S j0 v1 v2) (fun S1 => CX b S1 ∧ (True)) := by
  unfold f_Mark_setNumber
  refine ok_if (fun c2_y => ?_) (fun c2_y => ?_)
  · exact ok_some ⟨hC, by trivial⟩
  · refine ok_if (fun c3_y => ?_) (fun c3_y => ?_)
    · exact ok_some ⟨hC, by trivial⟩
    · refine ok_chk (by omega) ?_
      refine ok_lt (fun S1x1_z eS1x1_z => ?_)
      have h4_y : CX b S1x1_z := by rw [eS1x1_z]; exact cs_nm hC hj0 (by omega) (by omega)
      exact ok_some ⟨h4_y, by trivial⟩
set_option maxHeartbeats 4000000 in
theorem ok_Mark_place {b : Nat} (S : SS) (j0 : Nat) (hC : CX b S) (hj0 : j0 < 40) : okk (f_Mark_place S j0) (fun S1 => CX b S1 ∧ (True)) := by
  unfold f_Mark_place
  have b2_y := cx_mk_2 hC hj0
  refine ok_if (fun c3_y => ?_) (fun c3_y => ?_)
  · unfold f_Mark_place_20
    unfold f_Mark_place_21
    refine ok_if (fun c6_y => ?_) (fun c6_y => ?_)
    · unfold f_Mark_place_36
      refine ok_lt (fun S1x7_z eS1x7_z => ?_)
      have h8_y : CX b S1x7_z := by rw [eS1x7_z]; exact cs_mk_4 hC hj0 (by omega) (by omega)
      have f9_y : gi S1x7_z (14 + 4 * j0) 2 = gi S (14 + 4 * j0) 2 := gi_ne eS1x7_z (by omega)
      refine ok_if (fun c10_y => ?_) (fun c10_y => ?_)
      · unfold f_Mark_place_65
        refine ok_lt (fun S1x11_z eS1x11_z => ?_)
        have h12_y : CX b S1x11_z := by rw [eS1x11_z]; exact cs_mk_5 h8_y hj0 (by omega) (by omega)
        have f13_y : gi S1x11_z (14 + 4 * j0) 2 = gi S1x7_z (14 + 4 * j0) 2 := gi_ne eS1x11_z (by omega)
        refine ok_lt (fun S2x11_z eS2x11_z => ?_)
        have h14_y : CX b S2x11_z := by rw [eS2x11_z]; exact cs_mk_6 h12_y hj0 (by omega) (by omega)
        have f15_y : gi S2x11_z (14 + 4 * j0) 2 = gi S1x11_z (14 + 4 * j0) 2 := gi_ne eS2x11_z (by omega)
        refine ok_if (fun c16_y => ?_) (fun c16_y => ?_)
        · unfold f_Mark_place_89
          refine ok_if (fun c18_y => ?_) (fun c18_y => ?_)
          · unfold f_Mark_place_104
            refine ok_b1 (ok_Mark_number S2x11_z j0 0 h14_y hj0) (fun r1x19_z h20_y => ?_)
            refine ok_lt (fun S3x19_z eS3x19_z => ?_)
            have h21_y : CX b S3x19_z := by rw [eS3x19_z]; exact cs_mk_6 h14_y hj0 (by omega) (by omega)
            have f22_y : gi S3x19_z (14 + 4 * j0) 2 = gi S2x11_z (14 + 4 * j0) 2 := gi_ne eS3x19_z (by omega)
            exact ok_some ⟨h21_y, by trivial⟩
          · unfold f_Mark_place_104
            refine ok_b1 (ok_Mark_number S2x11_z j0 2 h14_y hj0) (fun r1x23_z h24_y => ?_)
            refine ok_lt (fun S3x23_z eS3x23_z => ?_)
            have h25_y : CX b S3x23_z := by rw [eS3x23_z]; exact cs_mk_6 h14_y hj0 (by omega) (by omega)
            have f26_y : gi S3x23_z (14 + 4 * j0) 2 = gi S2x11_z (14 + 4 * j0) 2 := gi_ne eS3x23_z (by omega)
            exact ok_some ⟨h25_y, by trivial⟩
        · refine ok_if (fun c27_y => ?_) (fun c27_y => ?_)
          · unfold f_Mark_place_89
            refine ok_if (fun c29_y => ?_) (fun c29_y => ?_)
            · unfold f_Mark_place_104
              refine ok_b1 (ok_Mark_number S2x11_z j0 0 h14_y hj0) (fun r1x30_z h31_y => ?_)
              refine ok_lt (fun S3x30_z eS3x30_z => ?_)
              have h32_y : CX b S3x30_z := by rw [eS3x30_z]; exact cs_mk_6 h14_y hj0 (by omega) (by omega)
              have f33_y : gi S3x30_z (14 + 4 * j0) 2 = gi S2x11_z (14 + 4 * j0) 2 := gi_ne eS3x30_z (by omega)
              exact ok_some ⟨h32_y, by trivial⟩
            · unfold f_Mark_place_104
              refine ok_b1 (ok_Mark_number S2x11_z j0 2 h14_y hj0) (fun r1x34_z h35_y => ?_)
              refine ok_lt (fun S3x34_z eS3x34_z => ?_)
              have h36_y : CX b S3x34_z := by rw [eS3x34_z]; exact cs_mk_6 h14_y hj0 (by omega) (by omega)
              have f37_y : gi S3x34_z (14 + 4 * j0) 2 = gi S2x11_z (14 + 4 * j0) 2 := gi_ne eS3x34_z (by omega)
              exact ok_some ⟨h36_y, by trivial⟩
          · exact ok_some ⟨h14_y, by trivial⟩
      · refine ok_if (fun c38_y => ?_) (fun c38_y => ?_)
        · unfold f_Mark_place_58
          refine ok_b1 (ok_Mark_number S1x7_z j0 2 h8_y hj0) (fun r1x39_z h40_y => ?_)
          unfold f_Mark_place_65
          refine ok_lt (fun S1x41_z eS1x41_z => ?_)
          have h42_y : CX b S1x41_z := by rw [eS1x41_z]; exact cs_mk_5 h8_y hj0 (by omega) (by omega)
          have f43_y : gi S1x41_z (14 + 4 * j0) 2 = gi S1x7_z (14 + 4 * j0) 2 := gi_ne eS1x41_z (by omega)
          refine ok_lt (fun S2x41_z eS2x41_z => ?_)
          have h44_y : CX b S2x41_z := by rw [eS2x41_z]; exact cs_mk_6 h42_y hj0 (by omega) (by omega)
          have f45_y : gi S2x41_z (14 + 4 * j0) 2 = gi S1x41_z (14 + 4 * j0) 2 := gi_ne eS2x41_z (by omega)
          refine ok_if (fun c46_y => ?_) (fun c46_y => ?_)
          · unfold f_Mark_place_89
            refine ok_if (fun c48_y => ?_) (fun c48_y => ?_)
            · unfold f_Mark_place_104
              refine ok_b1 (ok_Mark_number S2x41_z j0 0 h44_y hj0) (fun r1x49_z h50_y => ?_)
              refine ok_lt (fun S3x49_z eS3x49_z => ?_)
              have h51_y : CX b S3x49_z := by rw [eS3x49_z]; exact cs_mk_6 h44_y hj0 (by omega) (by omega)
              have f52_y : gi S3x49_z (14 + 4 * j0) 2 = gi S2x41_z (14 + 4 * j0) 2 := gi_ne eS3x49_z (by omega)
              exact ok_some ⟨h51_y, by trivial⟩
            · unfold f_Mark_place_104
              refine ok_b1 (ok_Mark_number S2x41_z j0 2 h44_y hj0) (fun r1x53_z h54_y => ?_)
              refine ok_lt (fun S3x53_z eS3x53_z => ?_)
              have h55_y : CX b S3x53_z := by rw [eS3x53_z]; exact cs_mk_6 h44_y hj0 (by omega) (by omega)
              have f56_y : gi S3x53_z (14 + 4 * j0) 2 = gi S2x41_z (14 + 4 * j0) 2 := gi_ne eS3x53_z (by omega)
              exact ok_some ⟨h55_y, by trivial⟩
          · refine ok_if (fun c57_y => ?_) (fun c57_y => ?_)
            · unfold f_Mark_place_89
              refine ok_if (fun c59_y => ?_) (fun c59_y => ?_)
              · unfold f_Mark_place_104
                refine ok_b1 (ok_Mark_number S2x41_z j0 0 h44_y hj0) (fun r1x60_z h61_y => ?_)
                refine ok_lt (fun S3x60_z eS3x60_z => ?_)
                have h62_y : CX b S3x60_z := by rw [eS3x60_z]; exact cs_mk_6 h44_y hj0 (by omega) (by omega)
                have f63_y : gi S3x60_z (14 + 4 * j0) 2 = gi S2x41_z (14 + 4 * j0) 2 := gi_ne eS3x60_z (by omega)
                exact ok_some ⟨h62_y, by trivial⟩
              · unfold f_Mark_place_104
                refine ok_b1 (ok_Mark_number S2x41_z j0 2 h44_y hj0) (fun r1x64_z h65_y => ?_)
                refine ok_lt (fun S3x64_z eS3x64_z => ?_)
                have h66_y : CX b S3x64_z := by rw [eS3x64_z]; exact cs_mk_6 h44_y hj0 (by omega) (by omega)
                have f67_y : gi S3x64_z (14 + 4 * j0) 2 = gi S2x41_z (14 + 4 * j0) 2 := gi_ne eS3x64_z (by omega)
                exact ok_some ⟨h66_y, by trivial⟩
            · exact ok_some ⟨h44_y, by trivial⟩
        · unfold f_Mark_place_58
          refine ok_b1 (ok_Mark_number S1x7_z j0 1 h8_y hj0) (fun r1x68_z h69_y => ?_)
          unfold f_Mark_place_65
          refine ok_lt (fun S1x70_z eS1x70_z => ?_)
          have h71_y : CX b S1x70_z := by rw [eS1x70_z]; exact cs_mk_5 h8_y hj0 (by omega) (by omega)
          have f72_y : gi S1x70_z (14 + 4 * j0) 2 = gi S1x7_z (14 + 4 * j0) 2 := gi_ne eS1x70_z (by omega)
          refine ok_lt (fun S2x70_z eS2x70_z => ?_)
          have h73_y : CX b S2x70_z := by rw [eS2x70_z]; exact cs_mk_6 h71_y hj0 (by omega) (by omega)
          have f74_y : gi S2x70_z (14 + 4 * j0) 2 = gi S1x70_z (14 + 4 * j0) 2 := gi_ne eS2x70_z (by omega)
          refine ok_if (fun c75_y => ?_) (fun c75_y => ?_)
          · unfold f_Mark_place_89
            refine ok_if (fun c77_y => ?_) (fun c77_y => ?_)
            · unfold f_Mark_place_104
              refine ok_b1 (ok_Mark_number S2x70_z j0 0 h73_y hj0) (fun r1x78_z h79_y => ?_)
              refine ok_lt (fun S3x78_z eS3x78_z => ?_)
              have h80_y : CX b S3x78_z := by rw [eS3x78_z]; exact cs_mk_6 h73_y hj0 (by omega) (by omega)
              have f81_y : gi S3x78_z (14 + 4 * j0) 2 = gi S2x70_z (14 + 4 * j0) 2 := gi_ne eS3x78_z (by omega)
              exact ok_some ⟨h80_y, by trivial⟩
            · unfold f_Mark_place_104
              refine ok_b1 (ok_Mark_number S2x70_z j0 2 h73_y hj0) (fun r1x82_z h83_y => ?_)
              refine ok_lt (fun S3x82_z eS3x82_z => ?_)
              have h84_y : CX b S3x82_z := by rw [eS3x82_z]; exact cs_mk_6 h73_y hj0 (by omega) (by omega)
              have f85_y : gi S3x82_z (14 + 4 * j0) 2 = gi S2x70_z (14 + 4 * j0) 2 := gi_ne eS3x82_z (by omega)
              exact ok_some ⟨h84_y, by trivial⟩
          · refine ok_if (fun c86_y => ?_) (fun c86_y => ?_)
            · unfold f_Mark_place_89
              refine ok_if (fun c88_y => ?_) (fun c88_y => ?_)
              · unfold f_Mark_place_104
                refine ok_b1 (ok_Mark_number S2x70_z j0 0 h73_y hj0) (fun r1x89_z h90_y => ?_)
                refine ok_lt (fun S3x89_z eS3x89_z => ?_)
                have h91_y : CX b S3x89_z := by rw [eS3x89_z]; exact cs_mk_6 h73_y hj0 (by omega) (by omega)
                have f92_y : gi S3x89_z (14 + 4 * j0) 2 = gi S2x70_z (14 + 4 * j0) 2 := gi_ne eS3x89_z (by omega)
                exact ok_some ⟨h91_y, by trivial⟩
              · unfold f_Mark_place_104
                refine ok_b1 (ok_Mark_number S2x70_z j0 2 h73_y hj0) (fun r1x93_z h94_y => ?_)
                refine ok_lt (fun S3x93_z eS3x93_z => ?_)
                have h95_y : CX b S3x93_z := by rw [eS3x93_z]; exact cs_mk_6 h73_y hj0 (by omega) (by omega)
                have f96_y : gi S3x93_z (14 + 4 * j0) 2 = gi S2x70_z (14 + 4 * j0) 2 := gi_ne eS3x93_z (by omega)
                exact ok_some ⟨h95_y, by trivial⟩
            · exact ok_some ⟨h73_y, by trivial⟩
    · refine ok_b1 (ok_Mark_number S j0 0 hC hj0) (fun r1x5_z h97_y => ?_)
      unfold f_Mark_place_36
      refine ok_lt (fun S1x98_z eS1x98_z => ?_)
      have h99_y : CX b S1x98_z := by rw [eS1x98_z]; exact cs_mk_4 hC hj0 (by omega) (by omega)
      have f100_y : gi S1x98_z (14 + 4 * j0) 2 = gi S (14 + 4 * j0) 2 := gi_ne eS1x98_z (by omega)
      refine ok_if (fun c101_y => ?_) (fun c101_y => ?_)
      · unfold f_Mark_place_65
        refine ok_lt (fun S1x102_z eS1x102_z => ?_)
        have h103_y : CX b S1x102_z := by rw [eS1x102_z]; exact cs_mk_5 h99_y hj0 (by omega) (by omega)
        have f104_y : gi S1x102_z (14 + 4 * j0) 2 = gi S1x98_z (14 + 4 * j0) 2 := gi_ne eS1x102_z (by omega)
        refine ok_lt (fun S2x102_z eS2x102_z => ?_)
        have h105_y : CX b S2x102_z := by rw [eS2x102_z]; exact cs_mk_6 h103_y hj0 (by omega) (by omega)
        have f106_y : gi S2x102_z (14 + 4 * j0) 2 = gi S1x102_z (14 + 4 * j0) 2 := gi_ne eS2x102_z (by omega)
        refine ok_if (fun c107_y => ?_) (fun c107_y => ?_)
        · unfold f_Mark_place_89
          refine ok_if (fun c109_y => ?_) (fun c109_y => ?_)
          · unfold f_Mark_place_104
            refine ok_b1 (ok_Mark_number S2x102_z j0 0 h105_y hj0) (fun r1x110_z h111_y => ?_)
            refine ok_lt (fun S3x110_z eS3x110_z => ?_)
            have h112_y : CX b S3x110_z := by rw [eS3x110_z]; exact cs_mk_6 h105_y hj0 (by omega) (by omega)
            have f113_y : gi S3x110_z (14 + 4 * j0) 2 = gi S2x102_z (14 + 4 * j0) 2 := gi_ne eS3x110_z (by omega)
            exact ok_some ⟨h112_y, by trivial⟩
          · unfold f_Mark_place_104
            refine ok_b1 (ok_Mark_number S2x102_z j0 2 h105_y hj0) (fun r1x114_z h115_y => ?_)
            refine ok_lt (fun S3x114_z eS3x114_z => ?_)
            have h116_y : CX b S3x114_z := by rw [eS3x114_z]; exact cs_mk_6 h105_y hj0 (by omega) (by omega)
            have f117_y : gi S3x114_z (14 + 4 * j0) 2 = gi S2x102_z (14 + 4 * j0) 2 := gi_ne eS3x114_z (by omega)
            exact ok_some ⟨h116_y, by trivial⟩
        · refine ok_if (fun c118_y => ?_) (fun c118_y => ?_)
          · unfold f_Mark_place_89
            refine ok_if (fun c120_y => ?_) (fun c120_y => ?_)
            · unfold f_Mark_place_104
              refine ok_b1 (ok_Mark_number S2x102_z j0 0 h105_y hj0) (fun r1x121_z h122_y => ?_)
              refine ok_lt (fun S3x121_z eS3x121_z => ?_)
              have h123_y : CX b S3x121_z := by rw [eS3x121_z]; exact cs_mk_6 h105_y hj0 (by omega) (by omega)
              have f124_y : gi S3x121_z (14 + 4 * j0) 2 = gi S2x102_z (14 + 4 * j0) 2 := gi_ne eS3x121_z (by omega)
              exact ok_some ⟨h123_y, by trivial⟩
            · unfold f_Mark_place_104
              refine ok_b1 (ok_Mark_number S2x102_z j0 2 h105_y hj0) (fun r1x125_z h126_y => ?_)
              refine ok_lt (fun S3x125_z eS3x125_z => ?_)
              have h127_y : CX b S3x125_z := by rw [eS3x125_z]; exact cs_mk_6 h105_y hj0 (by omega) (by omega)
              have f128_y : gi S3x125_z (14 + 4 * j0) 2 = gi S2x102_z (14 + 4 * j0) 2 := gi_ne eS3x125_z (by omega)
              exact ok_some ⟨h127_y, by trivial⟩
          · exact ok_some ⟨h105_y, by trivial⟩
      · refine ok_if (fun c129_y => ?_) (fun c129_y => ?_)
        · unfold f_Mark_place_58
          refine ok_b1 (ok_Mark_number S1x98_z j0 2 h99_y hj0) (fun r1x130_z h131_y => ?_)
          unfold f_Mark_place_65
          refine ok_lt (fun S1x132_z eS1x132_z => ?_)
          have h133_y : CX b S1x132_z := by rw [eS1x132_z]; exact cs_mk_5 h99_y hj0 (by omega) (by omega)
          have f134_y : gi S1x132_z (14 + 4 * j0) 2 = gi S1x98_z (14 + 4 * j0) 2 := gi_ne eS1x132_z (by omega)
          refine ok_lt (fun S2x132_z eS2x132_z => ?_)
          have h135_y : CX b S2x132_z := by rw [eS2x132_z]; exact cs_mk_6 h133_y hj0 (by omega) (by omega)
          have f136_y : gi S2x132_z (14 + 4 * j0) 2 = gi S1x132_z (14 + 4 * j0) 2 := gi_ne eS2x132_z (by omega)
          refine ok_if (fun c137_y => ?_) (fun c137_y => ?_)
          · unfold f_Mark_place_89
            refine ok_if (fun c139_y => ?_) (fun c139_y => ?_)
            · unfold f_Mark_place_104
              refine ok_b1 (ok_Mark_number S2x132_z j0 0 h135_y hj0) (fun r1x140_z h141_y => ?_)
              refine ok_lt (fun S3x140_z eS3x140_z => ?_)
              have h142_y : CX b S3x140_z := by rw [eS3x140_z]; exact cs_mk_6 h135_y hj0 (by omega) (by omega)
              have f143_y : gi S3x140_z (14 + 4 * j0) 2 = gi S2x132_z (14 + 4 * j0) 2 := gi_ne eS3x140_z (by omega)
              exact ok_some ⟨h142_y, by trivial⟩
            · unfold f_Mark_place_104
              refine ok_b1 (ok_Mark_number S2x132_z j0 2 h135_y hj0) (fun r1x144_z h145_y => ?_)
              refine ok_lt (fun S3x144_z eS3x144_z => ?_)
              have h146_y : CX b S3x144_z := by rw [eS3x144_z]; exact cs_mk_6 h135_y hj0 (by omega) (by omega)
              have f147_y : gi S3x144_z (14 + 4 * j0) 2 = gi S2x132_z (14 + 4 * j0) 2 := gi_ne eS3x144_z (by omega)
              exact ok_some ⟨h146_y, by trivial⟩
          · refine ok_if (fun c148_y => ?_) (fun c148_y => ?_)
            · unfold f_Mark_place_89
              refine ok_if (fun c150_y => ?_) (fun c150_y => ?_)
              · unfold f_Mark_place_104
                refine ok_b1 (ok_Mark_number S2x132_z j0 0 h135_y hj0) (fun r1x151_z h152_y => ?_)
                refine ok_lt (fun S3x151_z eS3x151_z => ?_)
                have h153_y : CX b S3x151_z := by rw [eS3x151_z]; exact cs_mk_6 h135_y hj0 (by omega) (by omega)
                have f154_y : gi S3x151_z (14 + 4 * j0) 2 = gi S2x132_z (14 + 4 * j0) 2 := gi_ne eS3x151_z (by omega)
                exact ok_some ⟨h153_y, by trivial⟩
              · unfold f_Mark_place_104
                refine ok_b1 (ok_Mark_number S2x132_z j0 2 h135_y hj0) (fun r1x155_z h156_y => ?_)
                refine ok_lt (fun S3x155_z eS3x155_z => ?_)
                have h157_y : CX b S3x155_z := by rw [eS3x155_z]; exact cs_mk_6 h135_y hj0 (by omega) (by omega)
                have f158_y : gi S3x155_z (14 + 4 * j0) 2 = gi S2x132_z (14 + 4 * j0) 2 := gi_ne eS3x155_z (by omega)
                exact ok_some ⟨h157_y, by trivial⟩
            · exact ok_some ⟨h135_y, by trivial⟩
        · unfold f_Mark_place_58
          refine ok_b1 (ok_Mark_number S1x98_z j0 1 h99_y hj0) (fun r1x159_z h160_y => ?_)
          unfold f_Mark_place_65
          refine ok_lt (fun S1x161_z eS1x161_z => ?_)
          have h162_y : CX b S1x161_z := by rw [eS1x161_z]; exact cs_mk_5 h99_y hj0 (by omega) (by omega)
          have f163_y : gi S1x161_z (14 + 4 * j0) 2 = gi S1x98_z (14 + 4 * j0) 2 := gi_ne eS1x161_z (by omega)
          refine ok_lt (fun S2x161_z eS2x161_z => ?_)
          have h164_y : CX b S2x161_z := by rw [eS2x161_z]; exact cs_mk_6 h162_y hj0 (by omega) (by omega)
          have f165_y : gi S2x161_z (14 + 4 * j0) 2 = gi S1x161_z (14 + 4 * j0) 2 := gi_ne eS2x161_z (by omega)
          refine ok_if (fun c166_y => ?_) (fun c166_y => ?_)
          · unfold f_Mark_place_89
            refine ok_if (fun c168_y => ?_) (fun c168_y => ?_)
            · unfold f_Mark_place_104
              refine ok_b1 (ok_Mark_number S2x161_z j0 0 h164_y hj0) (fun r1x169_z h170_y => ?_)
              refine ok_lt (fun S3x169_z eS3x169_z => ?_)
              have h171_y : CX b S3x169_z := by rw [eS3x169_z]; exact cs_mk_6 h164_y hj0 (by omega) (by omega)
              have f172_y : gi S3x169_z (14 + 4 * j0) 2 = gi S2x161_z (14 + 4 * j0) 2 := gi_ne eS3x169_z (by omega)
              exact ok_some ⟨h171_y, by trivial⟩
            · unfold f_Mark_place_104
              refine ok_b1 (ok_Mark_number S2x161_z j0 2 h164_y hj0) (fun r1x173_z h174_y => ?_)
              refine ok_lt (fun S3x173_z eS3x173_z => ?_)
              have h175_y : CX b S3x173_z := by rw [eS3x173_z]; exact cs_mk_6 h164_y hj0 (by omega) (by omega)
              have f176_y : gi S3x173_z (14 + 4 * j0) 2 = gi S2x161_z (14 + 4 * j0) 2 := gi_ne eS3x173_z (by omega)
              exact ok_some ⟨h175_y, by trivial⟩
          · refine ok_if (fun c177_y => ?_) (fun c177_y => ?_)
            · unfold f_Mark_place_89
              refine ok_if (fun c179_y => ?_) (fun c179_y => ?_)
              · unfold f_Mark_place_104
                refine ok_b1 (ok_Mark_number S2x161_z j0 0 h164_y hj0) (fun r1x180_z h181_y => ?_)
                refine ok_lt (fun S3x180_z eS3x180_z => ?_)
                have h182_y : CX b S3x180_z := by rw [eS3x180_z]; exact cs_mk_6 h164_y hj0 (by omega) (by omega)
                have f183_y : gi S3x180_z (14 + 4 * j0) 2 = gi S2x161_z (14 + 4 * j0) 2 := gi_ne eS3x180_z (by omega)
                exact ok_some ⟨h182_y, by trivial⟩
              · unfold f_Mark_place_104
                refine ok_b1 (ok_Mark_number S2x161_z j0 2 h164_y hj0) (fun r1x184_z h185_y => ?_)
                refine ok_lt (fun S3x184_z eS3x184_z => ?_)
                have h186_y : CX b S3x184_z := by rw [eS3x184_z]; exact cs_mk_6 h164_y hj0 (by omega) (by omega)
                have f187_y : gi S3x184_z (14 + 4 * j0) 2 = gi S2x161_z (14 + 4 * j0) 2 := gi_ne eS3x184_z (by omega)
                exact ok_some ⟨h186_y, by trivial⟩
            · exact ok_some ⟨h164_y, by trivial⟩
  · refine ok_if (fun c188_y => ?_) (fun c188_y => ?_)
    · unfold f_Mark_place_20
      unfold f_Mark_place_21
      refine ok_if (fun c191_y => ?_) (fun c191_y => ?_)
      · unfold f_Mark_place_36
        refine ok_lt (fun S1x192_z eS1x192_z => ?_)
        have h193_y : CX b S1x192_z := by rw [eS1x192_z]; exact cs_mk_4 hC hj0 (by omega) (by omega)
        have f194_y : gi S1x192_z (14 + 4 * j0) 2 = gi S (14 + 4 * j0) 2 := gi_ne eS1x192_z (by omega)
        refine ok_if (fun c195_y => ?_) (fun c195_y => ?_)
        · unfold f_Mark_place_65
          refine ok_lt (fun S1x196_z eS1x196_z => ?_)
          have h197_y : CX b S1x196_z := by rw [eS1x196_z]; exact cs_mk_5 h193_y hj0 (by omega) (by omega)
          have f198_y : gi S1x196_z (14 + 4 * j0) 2 = gi S1x192_z (14 + 4 * j0) 2 := gi_ne eS1x196_z (by omega)
          refine ok_lt (fun S2x196_z eS2x196_z => ?_)
          have h199_y : CX b S2x196_z := by rw [eS2x196_z]; exact cs_mk_6 h197_y hj0 (by omega) (by omega)
          have f200_y : gi S2x196_z (14 + 4 * j0) 2 = gi S1x196_z (14 + 4 * j0) 2 := gi_ne eS2x196_z (by omega)
          refine ok_if (fun c201_y => ?_) (fun c201_y => ?_)
          · unfold f_Mark_place_89
            refine ok_if (fun c203_y => ?_) (fun c203_y => ?_)
            · unfold f_Mark_place_104
              refine ok_b1 (ok_Mark_number S2x196_z j0 0 h199_y hj0) (fun r1x204_z h205_y => ?_)
              refine ok_lt (fun S3x204_z eS3x204_z => ?_)
              have h206_y : CX b S3x204_z := by rw [eS3x204_z]; exact cs_mk_6 h199_y hj0 (by omega) (by omega)
              have f207_y : gi S3x204_z (14 + 4 * j0) 2 = gi S2x196_z (14 + 4 * j0) 2 := gi_ne eS3x204_z (by omega)
              exact ok_some ⟨h206_y, by trivial⟩
            · unfold f_Mark_place_104
              refine ok_b1 (ok_Mark_number S2x196_z j0 2 h199_y hj0) (fun r1x208_z h209_y => ?_)
              refine ok_lt (fun S3x208_z eS3x208_z => ?_)
              have h210_y : CX b S3x208_z := by rw [eS3x208_z]; exact cs_mk_6 h199_y hj0 (by omega) (by omega)
              have f211_y : gi S3x208_z (14 + 4 * j0) 2 = gi S2x196_z (14 + 4 * j0) 2 := gi_ne eS3x208_z (by omega)
              exact ok_some ⟨h210_y, by trivial⟩
          · refine ok_if (fun c212_y => ?_) (fun c212_y => ?_)
            · unfold f_Mark_place_89
              refine ok_if (fun c214_y => ?_) (fun c214_y => ?_)
              · unfold f_Mark_place_104
                refine ok_b1 (ok_Mark_number S2x196_z j0 0 h199_y hj0) (fun r1x215_z h216_y => ?_)
                refine ok_lt (fun S3x215_z eS3x215_z => ?_)
                have h217_y : CX b S3x215_z := by rw [eS3x215_z]; exact cs_mk_6 h199_y hj0 (by omega) (by omega)
                have f218_y : gi S3x215_z (14 + 4 * j0) 2 = gi S2x196_z (14 + 4 * j0) 2 := gi_ne eS3x215_z (by omega)
                exact ok_some ⟨h217_y, by trivial⟩
              · unfold f_Mark_place_104
                refine ok_b1 (ok_Mark_number S2x196_z j0 2 h199_y hj0) (fun r1x219_z h220_y => ?_)
                refine ok_lt (fun S3x219_z eS3x219_z => ?_)
                have h221_y : CX b S3x219_z := by rw [eS3x219_z]; exact cs_mk_6 h199_y hj0 (by omega) (by omega)
                have f222_y : gi S3x219_z (14 + 4 * j0) 2 = gi S2x196_z (14 + 4 * j0) 2 := gi_ne eS3x219_z (by omega)
                exact ok_some ⟨h221_y, by trivial⟩
            · exact ok_some ⟨h199_y, by trivial⟩
        · refine ok_if (fun c223_y => ?_) (fun c223_y => ?_)
          · unfold f_Mark_place_58
            refine ok_b1 (ok_Mark_number S1x192_z j0 2 h193_y hj0) (fun r1x224_z h225_y => ?_)
            unfold f_Mark_place_65
            refine ok_lt (fun S1x226_z eS1x226_z => ?_)
            have h227_y : CX b S1x226_z := by rw [eS1x226_z]; exact cs_mk_5 h193_y hj0 (by omega) (by omega)
            have f228_y : gi S1x226_z (14 + 4 * j0) 2 = gi S1x192_z (14 + 4 * j0) 2 := gi_ne eS1x226_z (by omega)
            refine ok_lt (fun S2x226_z eS2x226_z => ?_)
            have h229_y : CX b S2x226_z := by rw [eS2x226_z]; exact cs_mk_6 h227_y hj0 (by omega) (by omega)
            have f230_y : gi S2x226_z (14 + 4 * j0) 2 = gi S1x226_z (14 + 4 * j0) 2 := gi_ne eS2x226_z (by omega)
            refine ok_if (fun c231_y => ?_) (fun c231_y => ?_)
            · unfold f_Mark_place_89
              refine ok_if (fun c233_y => ?_) (fun c233_y => ?_)
              · unfold f_Mark_place_104
                refine ok_b1 (ok_Mark_number S2x226_z j0 0 h229_y hj0) (fun r1x234_z h235_y => ?_)
                refine ok_lt (fun S3x234_z eS3x234_z => ?_)
                have h236_y : CX b S3x234_z := by rw [eS3x234_z]; exact cs_mk_6 h229_y hj0 (by omega) (by omega)
                have f237_y : gi S3x234_z (14 + 4 * j0) 2 = gi S2x226_z (14 + 4 * j0) 2 := gi_ne eS3x234_z (by omega)
                exact ok_some ⟨h236_y, by trivial⟩
              · unfold f_Mark_place_104
                refine ok_b1 (ok_Mark_number S2x226_z j0 2 h229_y hj0) (fun r1x238_z h239_y => ?_)
                refine ok_lt (fun S3x238_z eS3x238_z => ?_)
                have h240_y : CX b S3x238_z := by rw [eS3x238_z]; exact cs_mk_6 h229_y hj0 (by omega) (by omega)
                have f241_y : gi S3x238_z (14 + 4 * j0) 2 = gi S2x226_z (14 + 4 * j0) 2 := gi_ne eS3x238_z (by omega)
                exact ok_some ⟨h240_y, by trivial⟩
            · refine ok_if (fun c242_y => ?_) (fun c242_y => ?_)
              · unfold f_Mark_place_89
                refine ok_if (fun c244_y => ?_) (fun c244_y => ?_)
                · unfold f_Mark_place_104
                  refine ok_b1 (ok_Mark_number S2x226_z j0 0 h229_y hj0) (fun r1x245_z h246_y => ?_)
                  refine ok_lt (fun S3x245_z eS3x245_z => ?_)
                  have h247_y : CX b S3x245_z := by rw [eS3x245_z]; exact cs_mk_6 h229_y hj0 (by omega) (by omega)
                  have f248_y : gi S3x245_z (14 + 4 * j0) 2 = gi S2x226_z (14 + 4 * j0) 2 := gi_ne eS3x245_z (by omega)
                  exact ok_some ⟨h247_y, by trivial⟩
                · unfold f_Mark_place_104
                  refine ok_b1 (ok_Mark_number S2x226_z j0 2 h229_y hj0) (fun r1x249_z h250_y => ?_)
                  refine ok_lt (fun S3x249_z eS3x249_z => ?_)
                  have h251_y : CX b S3x249_z := by rw [eS3x249_z]; exact cs_mk_6 h229_y hj0 (by omega) (by omega)
                  have f252_y : gi S3x249_z (14 + 4 * j0) 2 = gi S2x226_z (14 + 4 * j0) 2 := gi_ne eS3x249_z (by omega)
                  exact ok_some ⟨h251_y, by trivial⟩
              · exact ok_some ⟨h229_y, by trivial⟩
          · unfold f_Mark_place_58
            refine ok_b1 (ok_Mark_number S1x192_z j0 1 h193_y hj0) (fun r1x253_z h254_y => ?_)
            unfold f_Mark_place_65
            refine ok_lt (fun S1x255_z eS1x255_z => ?_)
            have h256_y : CX b S1x255_z := by rw [eS1x255_z]; exact cs_mk_5 h193_y hj0 (by omega) (by omega)
            have f257_y : gi S1x255_z (14 + 4 * j0) 2 = gi S1x192_z (14 + 4 * j0) 2 := gi_ne eS1x255_z (by omega)
            refine ok_lt (fun S2x255_z eS2x255_z => ?_)
            have h258_y : CX b S2x255_z := by rw [eS2x255_z]; exact cs_mk_6 h256_y hj0 (by omega) (by omega)
            have f259_y : gi S2x255_z (14 + 4 * j0) 2 = gi S1x255_z (14 + 4 * j0) 2 := gi_ne eS2x255_z (by omega)
            refine ok_if (fun c260_y => ?_) (fun c260_y => ?_)
            · unfold f_Mark_place_89
              refine ok_if (fun c262_y => ?_) (fun c262_y => ?_)
              · unfold f_Mark_place_104
                refine ok_b1 (ok_Mark_number S2x255_z j0 0 h258_y hj0) (fun r1x263_z h264_y => ?_)
                refine ok_lt (fun S3x263_z eS3x263_z => ?_)
                have h265_y : CX b S3x263_z := by rw [eS3x263_z]; exact cs_mk_6 h258_y hj0 (by omega) (by omega)
                have f266_y : gi S3x263_z (14 + 4 * j0) 2 = gi S2x255_z (14 + 4 * j0) 2 := gi_ne eS3x263_z (by omega)
                exact ok_some ⟨h265_y, by trivial⟩
              · unfold f_Mark_place_104
                refine ok_b1 (ok_Mark_number S2x255_z j0 2 h258_y hj0) (fun r1x267_z h268_y => ?_)
                refine ok_lt (fun S3x267_z eS3x267_z => ?_)
                have h269_y : CX b S3x267_z := by rw [eS3x267_z]; exact cs_mk_6 h258_y hj0 (by omega) (by omega)
                have f270_y : gi S3x267_z (14 + 4 * j0) 2 = gi S2x255_z (14 + 4 * j0) 2 := gi_ne eS3x267_z (by omega)
                exact ok_some ⟨h269_y, by trivial⟩
            · refine ok_if (fun c271_y => ?_) (fun c271_y => ?_)
              · unfold f_Mark_place_89
                refine ok_if (fun c273_y => ?_) (fun c273_y => ?_)
                · unfold f_Mark_place_104
                  refine ok_b1 (ok_Mark_number S2x255_z j0 0 h258_y hj0) (fun r1x274_z h275_y => ?_)
                  refine ok_lt (fun S3x274_z eS3x274_z => ?_)
                  have h276_y : CX b S3x274_z := by rw [eS3x274_z]; exact cs_mk_6 h258_y hj0 (by omega) (by omega)
                  have f277_y : gi S3x274_z (14 + 4 * j0) 2 = gi S2x255_z (14 + 4 * j0) 2 := gi_ne eS3x274_z (by omega)
                  exact ok_some ⟨h276_y, by trivial⟩
                · unfold f_Mark_place_104
                  refine ok_b1 (ok_Mark_number S2x255_z j0 2 h258_y hj0) (fun r1x278_z h279_y => ?_)
                  refine ok_lt (fun S3x278_z eS3x278_z => ?_)
                  have h280_y : CX b S3x278_z := by rw [eS3x278_z]; exact cs_mk_6 h258_y hj0 (by omega) (by omega)
                  have f281_y : gi S3x278_z (14 + 4 * j0) 2 = gi S2x255_z (14 + 4 * j0) 2 := gi_ne eS3x278_z (by omega)
                  exact ok_some ⟨h280_y, by trivial⟩
              · exact ok_some ⟨h258_y, by trivial⟩
      · refine ok_b1 (ok_Mark_number S j0 0 hC hj0) (fun r1x190_z h282_y => ?_)
        unfold f_Mark_place_36
        refine ok_lt (fun S1x283_z eS1x283_z => ?_)
        have h284_y : CX b S1x283_z := by rw [eS1x283_z]; exact cs_mk_4 hC hj0 (by omega) (by omega)
        have f285_y : gi S1x283_z (14 + 4 * j0) 2 = gi S (14 + 4 * j0) 2 := gi_ne eS1x283_z (by omega)
        refine ok_if (fun c286_y => ?_) (fun c286_y => ?_)
        · unfold f_Mark_place_65
          refine ok_lt (fun S1x287_z eS1x287_z => ?_)
          have h288_y : CX b S1x287_z := by rw [eS1x287_z]; exact cs_mk_5 h284_y hj0 (by omega) (by omega)
          have f289_y : gi S1x287_z (14 + 4 * j0) 2 = gi S1x283_z (14 + 4 * j0) 2 := gi_ne eS1x287_z (by omega)
          refine ok_lt (fun S2x287_z eS2x287_z => ?_)
          have h290_y : CX b S2x287_z := by rw [eS2x287_z]; exact cs_mk_6 h288_y hj0 (by omega) (by omega)
          have f291_y : gi S2x287_z (14 + 4 * j0) 2 = gi S1x287_z (14 + 4 * j0) 2 := gi_ne eS2x287_z (by omega)
          refine ok_if (fun c292_y => ?_) (fun c292_y => ?_)
          · unfold f_Mark_place_89
            refine ok_if (fun c294_y => ?_) (fun c294_y => ?_)
            · unfold f_Mark_place_104
              refine ok_b1 (ok_Mark_number S2x287_z j0 0 h290_y hj0) (fun r1x295_z h296_y => ?_)
              refine ok_lt (fun S3x295_z eS3x295_z => ?_)
              have h297_y : CX b S3x295_z := by rw [eS3x295_z]; exact cs_mk_6 h290_y hj0 (by omega) (by omega)
              have f298_y : gi S3x295_z (14 + 4 * j0) 2 = gi S2x287_z (14 + 4 * j0) 2 := gi_ne eS3x295_z (by omega)
              exact ok_some ⟨h297_y, by trivial⟩
            · unfold f_Mark_place_104
              refine ok_b1 (ok_Mark_number S2x287_z j0 2 h290_y hj0) (fun r1x299_z h300_y => ?_)
              refine ok_lt (fun S3x299_z eS3x299_z => ?_)
              have h301_y : CX b S3x299_z := by rw [eS3x299_z]; exact cs_mk_6 h290_y hj0 (by omega) (by omega)
              have f302_y : gi S3x299_z (14 + 4 * j0) 2 = gi S2x287_z (14 + 4 * j0) 2 := gi_ne eS3x299_z (by omega)
              exact ok_some ⟨h301_y, by trivial⟩
          · refine ok_if (fun c303_y => ?_) (fun c303_y => ?_)
            · unfold f_Mark_place_89
              refine ok_if (fun c305_y => ?_) (fun c305_y => ?_)
              · unfold f_Mark_place_104
                refine ok_b1 (ok_Mark_number S2x287_z j0 0 h290_y hj0) (fun r1x306_z h307_y => ?_)
                refine ok_lt (fun S3x306_z eS3x306_z => ?_)
                have h308_y : CX b S3x306_z := by rw [eS3x306_z]; exact cs_mk_6 h290_y hj0 (by omega) (by omega)
                have f309_y : gi S3x306_z (14 + 4 * j0) 2 = gi S2x287_z (14 + 4 * j0) 2 := gi_ne eS3x306_z (by omega)
                exact ok_some ⟨h308_y, by trivial⟩
              · unfold f_Mark_place_104
                refine ok_b1 (ok_Mark_number S2x287_z j0 2 h290_y hj0) (fun r1x310_z h311_y => ?_)
                refine ok_lt (fun S3x310_z eS3x310_z => ?_)
                have h312_y : CX b S3x310_z := by rw [eS3x310_z]; exact cs_mk_6 h290_y hj0 (by omega) (by omega)
                have f313_y : gi S3x310_z (14 + 4 * j0) 2 = gi S2x287_z (14 + 4 * j0) 2 := gi_ne eS3x310_z (by omega)
                exact ok_some ⟨h312_y, by trivial⟩
            · exact ok_some ⟨h290_y, by trivial⟩
        · refine ok_if (fun c314_y => ?_) (fun c314_y => ?_)
          · unfold f_Mark_place_58
            refine ok_b1 (ok_Mark_number S1x283_z j0 2 h284_y hj0) (fun r1x315_z h316_y => ?_)
            unfold f_Mark_place_65
            refine ok_lt (fun S1x317_z eS1x317_z => ?_)
            have h318_y : CX b S1x317_z := by rw [eS1x317_z]; exact cs_mk_5 h284_y hj0 (by omega) (by omega)
            have f319_y : gi S1x317_z (14 + 4 * j0) 2 = gi S1x283_z (14 + 4 * j0) 2 := gi_ne eS1x317_z (by omega)
            refine ok_lt (fun S2x317_z eS2x317_z => ?_)
            have h320_y : CX b S2x317_z := by rw [eS2x317_z]; exact cs_mk_6 h318_y hj0 (by omega) (by omega)
            have f321_y : gi S2x317_z (14 + 4 * j0) 2 = gi S1x317_z (14 + 4 * j0) 2 := gi_ne eS2x317_z (by omega)
            refine ok_if (fun c322_y => ?_) (fun c322_y => ?_)
            · unfold f_Mark_place_89
              refine ok_if (fun c324_y => ?_) (fun c324_y => ?_)
              · unfold f_Mark_place_104
                refine ok_b1 (ok_Mark_number S2x317_z j0 0 h320_y hj0) (fun r1x325_z h326_y => ?_)
                refine ok_lt (fun S3x325_z eS3x325_z => ?_)
                have h327_y : CX b S3x325_z := by rw [eS3x325_z]; exact cs_mk_6 h320_y hj0 (by omega) (by omega)
                have f328_y : gi S3x325_z (14 + 4 * j0) 2 = gi S2x317_z (14 + 4 * j0) 2 := gi_ne eS3x325_z (by omega)
                exact ok_some ⟨h327_y, by trivial⟩
              · unfold f_Mark_place_104
                refine ok_b1 (ok_Mark_number S2x317_z j0 2 h320_y hj0) (fun r1x329_z h330_y => ?_)
                refine ok_lt (fun S3x329_z eS3x329_z => ?_)
                have h331_y : CX b S3x329_z := by rw [eS3x329_z]; exact cs_mk_6 h320_y hj0 (by omega) (by omega)
                have f332_y : gi S3x329_z (14 + 4 * j0) 2 = gi S2x317_z (14 + 4 * j0) 2 := gi_ne eS3x329_z (by omega)
                exact ok_some ⟨h331_y, by trivial⟩
            · refine ok_if (fun c333_y => ?_) (fun c333_y => ?_)
              · unfold f_Mark_place_89
                refine ok_if (fun c335_y => ?_) (fun c335_y => ?_)
                · unfold f_Mark_place_104
                  refine ok_b1 (ok_Mark_number S2x317_z j0 0 h320_y hj0) (fun r1x336_z h337_y => ?_)
                  refine ok_lt (fun S3x336_z eS3x336_z => ?_)
                  have h338_y : CX b S3x336_z := by rw [eS3x336_z]; exact cs_mk_6 h320_y hj0 (by omega) (by omega)
                  have f339_y : gi S3x336_z (14 + 4 * j0) 2 = gi S2x317_z (14 + 4 * j0) 2 := gi_ne eS3x336_z (by omega)
                  exact ok_some ⟨h338_y, by trivial⟩
                · unfold f_Mark_place_104
                  refine ok_b1 (ok_Mark_number S2x317_z j0 2 h320_y hj0) (fun r1x340_z h341_y => ?_)
                  refine ok_lt (fun S3x340_z eS3x340_z => ?_)
                  have h342_y : CX b S3x340_z := by rw [eS3x340_z]; exact cs_mk_6 h320_y hj0 (by omega) (by omega)
                  have f343_y : gi S3x340_z (14 + 4 * j0) 2 = gi S2x317_z (14 + 4 * j0) 2 := gi_ne eS3x340_z (by omega)
                  exact ok_some ⟨h342_y, by trivial⟩
              · exact ok_some ⟨h320_y, by trivial⟩
          · unfold f_Mark_place_58
            refine ok_b1 (ok_Mark_number S1x283_z j0 1 h284_y hj0) (fun r1x344_z h345_y => ?_)
            unfold f_Mark_place_65
            refine ok_lt (fun S1x346_z eS1x346_z => ?_)
            have h347_y : CX b S1x346_z := by rw [eS1x346_z]; exact cs_mk_5 h284_y hj0 (by omega) (by omega)
            have f348_y : gi S1x346_z (14 + 4 * j0) 2 = gi S1x283_z (14 + 4 * j0) 2 := gi_ne eS1x346_z (by omega)
            refine ok_lt (fun S2x346_z eS2x346_z => ?_)
            have h349_y : CX b S2x346_z := by rw [eS2x346_z]; exact cs_mk_6 h347_y hj0 (by omega) (by omega)
            have f350_y : gi S2x346_z (14 + 4 * j0) 2 = gi S1x346_z (14 + 4 * j0) 2 := gi_ne eS2x346_z (by omega)
            refine ok_if (fun c351_y => ?_) (fun c351_y => ?_)
            · unfold f_Mark_place_89
              refine ok_if (fun c353_y => ?_) (fun c353_y => ?_)
              · unfold f_Mark_place_104
                refine ok_b1 (ok_Mark_number S2x346_z j0 0 h349_y hj0) (fun r1x354_z h355_y => ?_)
                refine ok_lt (fun S3x354_z eS3x354_z => ?_)
                have h356_y : CX b S3x354_z := by rw [eS3x354_z]; exact cs_mk_6 h349_y hj0 (by omega) (by omega)
                have f357_y : gi S3x354_z (14 + 4 * j0) 2 = gi S2x346_z (14 + 4 * j0) 2 := gi_ne eS3x354_z (by omega)
                exact ok_some ⟨h356_y, by trivial⟩
              · unfold f_Mark_place_104
                refine ok_b1 (ok_Mark_number S2x346_z j0 2 h349_y hj0) (fun r1x358_z h359_y => ?_)
                refine ok_lt (fun S3x358_z eS3x358_z => ?_)
                have h360_y : CX b S3x358_z := by rw [eS3x358_z]; exact cs_mk_6 h349_y hj0 (by omega) (by omega)
                have f361_y : gi S3x358_z (14 + 4 * j0) 2 = gi S2x346_z (14 + 4 * j0) 2 := gi_ne eS3x358_z (by omega)
                exact ok_some ⟨h360_y, by trivial⟩
            · refine ok_if (fun c362_y => ?_) (fun c362_y => ?_)
              · unfold f_Mark_place_89
                refine ok_if (fun c364_y => ?_) (fun c364_y => ?_)
                · unfold f_Mark_place_104
                  refine ok_b1 (ok_Mark_number S2x346_z j0 0 h349_y hj0) (fun r1x365_z h366_y => ?_)
                  refine ok_lt (fun S3x365_z eS3x365_z => ?_)
                  have h367_y : CX b S3x365_z := by rw [eS3x365_z]; exact cs_mk_6 h349_y hj0 (by omega) (by omega)
                  have f368_y : gi S3x365_z (14 + 4 * j0) 2 = gi S2x346_z (14 + 4 * j0) 2 := gi_ne eS3x365_z (by omega)
                  exact ok_some ⟨h367_y, by trivial⟩
                · unfold f_Mark_place_104
                  refine ok_b1 (ok_Mark_number S2x346_z j0 2 h349_y hj0) (fun r1x369_z h370_y => ?_)
                  refine ok_lt (fun S3x369_z eS3x369_z => ?_)
                  have h371_y : CX b S3x369_z := by rw [eS3x369_z]; exact cs_mk_6 h349_y hj0 (by omega) (by omega)
                  have f372_y : gi S3x369_z (14 + 4 * j0) 2 = gi S2x346_z (14 + 4 * j0) 2 := gi_ne eS3x369_z (by omega)
                  exact ok_some ⟨h371_y, by trivial⟩
              · exact ok_some ⟨h349_y, by trivial⟩
    · unfold f_Mark_place_21
      refine ok_if (fun c374_y => ?_) (fun c374_y => ?_)
      · unfold f_Mark_place_36
        refine ok_lt (fun S1x375_z eS1x375_z => ?_)
        have h376_y : CX b S1x375_z := by rw [eS1x375_z]; exact cs_mk_4 hC hj0 (by omega) (by omega)
        have f377_y : gi S1x375_z (14 + 4 * j0) 2 = gi S (14 + 4 * j0) 2 := gi_ne eS1x375_z (by omega)
        refine ok_if (fun c378_y => ?_) (fun c378_y => ?_)
        · unfold f_Mark_place_65
          refine ok_lt (fun S1x379_z eS1x379_z => ?_)
          have h380_y : CX b S1x379_z := by rw [eS1x379_z]; exact cs_mk_5 h376_y hj0 (by omega) (by omega)
          have f381_y : gi S1x379_z (14 + 4 * j0) 2 = gi S1x375_z (14 + 4 * j0) 2 := gi_ne eS1x379_z (by omega)
          refine ok_lt (fun S2x379_z eS2x379_z => ?_)
          have h382_y : CX b S2x379_z := by rw [eS2x379_z]; exact cs_mk_6 h380_y hj0 (by omega) (by omega)
          have f383_y : gi S2x379_z (14 + 4 * j0) 2 = gi S1x379_z (14 + 4 * j0) 2 := gi_ne eS2x379_z (by omega)
          refine ok_if (fun c384_y => ?_) (fun c384_y => ?_)
          · unfold f_Mark_place_89
            refine ok_if (fun c386_y => ?_) (fun c386_y => ?_)
            · unfold f_Mark_place_104
              refine ok_b1 (ok_Mark_number S2x379_z j0 0 h382_y hj0) (fun r1x387_z h388_y => ?_)
              refine ok_lt (fun S3x387_z eS3x387_z => ?_)
              have h389_y : CX b S3x387_z := by rw [eS3x387_z]; exact cs_mk_6 h382_y hj0 (by omega) (by omega)
              have f390_y : gi S3x387_z (14 + 4 * j0) 2 = gi S2x379_z (14 + 4 * j0) 2 := gi_ne eS3x387_z (by omega)
              exact ok_some ⟨h389_y, by trivial⟩
            · unfold f_Mark_place_104
              refine ok_b1 (ok_Mark_number S2x379_z j0 2 h382_y hj0) (fun r1x391_z h392_y => ?_)
              refine ok_lt (fun S3x391_z eS3x391_z => ?_)
              have h393_y : CX b S3x391_z := by rw [eS3x391_z]; exact cs_mk_6 h382_y hj0 (by omega) (by omega)
              have f394_y : gi S3x391_z (14 + 4 * j0) 2 = gi S2x379_z (14 + 4 * j0) 2 := gi_ne eS3x391_z (by omega)
              exact ok_some ⟨h393_y, by trivial⟩
          · refine ok_if (fun c395_y => ?_) (fun c395_y => ?_)
            · unfold f_Mark_place_89
              refine ok_if (fun c397_y => ?_) (fun c397_y => ?_)
              · unfold f_Mark_place_104
                refine ok_b1 (ok_Mark_number S2x379_z j0 0 h382_y hj0) (fun r1x398_z h399_y => ?_)
                refine ok_lt (fun S3x398_z eS3x398_z => ?_)
                have h400_y : CX b S3x398_z := by rw [eS3x398_z]; exact cs_mk_6 h382_y hj0 (by omega) (by omega)
                have f401_y : gi S3x398_z (14 + 4 * j0) 2 = gi S2x379_z (14 + 4 * j0) 2 := gi_ne eS3x398_z (by omega)
                exact ok_some ⟨h400_y, by trivial⟩
              · unfold f_Mark_place_104
                refine ok_b1 (ok_Mark_number S2x379_z j0 2 h382_y hj0) (fun r1x402_z h403_y => ?_)
                refine ok_lt (fun S3x402_z eS3x402_z => ?_)
                have h404_y : CX b S3x402_z := by rw [eS3x402_z]; exact cs_mk_6 h382_y hj0 (by omega) (by omega)
                have f405_y : gi S3x402_z (14 + 4 * j0) 2 = gi S2x379_z (14 + 4 * j0) 2 := gi_ne eS3x402_z (by omega)
                exact ok_some ⟨h404_y, by trivial⟩
            · exact ok_some ⟨h382_y, by trivial⟩
        · refine ok_if (fun c406_y => ?_) (fun c406_y => ?_)
          · unfold f_Mark_place_58
            refine ok_b1 (ok_Mark_number S1x375_z j0 2 h376_y hj0) (fun r1x407_z h408_y => ?_)
            unfold f_Mark_place_65
            refine ok_lt (fun S1x409_z eS1x409_z => ?_)
            have h410_y : CX b S1x409_z := by rw [eS1x409_z]; exact cs_mk_5 h376_y hj0 (by omega) (by omega)
            have f411_y : gi S1x409_z (14 + 4 * j0) 2 = gi S1x375_z (14 + 4 * j0) 2 := gi_ne eS1x409_z (by omega)
            refine ok_lt (fun S2x409_z eS2x409_z => ?_)
            have h412_y : CX b S2x409_z := by rw [eS2x409_z]; exact cs_mk_6 h410_y hj0 (by omega) (by omega)
            have f413_y : gi S2x409_z (14 + 4 * j0) 2 = gi S1x409_z (14 + 4 * j0) 2 := gi_ne eS2x409_z (by omega)
            refine ok_if (fun c414_y => ?_) (fun c414_y => ?_)
            · unfold f_Mark_place_89
              refine ok_if (fun c416_y => ?_) (fun c416_y => ?_)
              · unfold f_Mark_place_104
                refine ok_b1 (ok_Mark_number S2x409_z j0 0 h412_y hj0) (fun r1x417_z h418_y => ?_)
                refine ok_lt (fun S3x417_z eS3x417_z => ?_)
                have h419_y : CX b S3x417_z := by rw [eS3x417_z]; exact cs_mk_6 h412_y hj0 (by omega) (by omega)
                have f420_y : gi S3x417_z (14 + 4 * j0) 2 = gi S2x409_z (14 + 4 * j0) 2 := gi_ne eS3x417_z (by omega)
                exact ok_some ⟨h419_y, by trivial⟩
              · unfold f_Mark_place_104
                refine ok_b1 (ok_Mark_number S2x409_z j0 2 h412_y hj0) (fun r1x421_z h422_y => ?_)
                refine ok_lt (fun S3x421_z eS3x421_z => ?_)
                have h423_y : CX b S3x421_z := by rw [eS3x421_z]; exact cs_mk_6 h412_y hj0 (by omega) (by omega)
                have f424_y : gi S3x421_z (14 + 4 * j0) 2 = gi S2x409_z (14 + 4 * j0) 2 := gi_ne eS3x421_z (by omega)
                exact ok_some ⟨h423_y, by trivial⟩
            · refine ok_if (fun c425_y => ?_) (fun c425_y => ?_)
              · unfold f_Mark_place_89
                refine ok_if (fun c427_y => ?_) (fun c427_y => ?_)
                · unfold f_Mark_place_104
                  refine ok_b1 (ok_Mark_number S2x409_z j0 0 h412_y hj0) (fun r1x428_z h429_y => ?_)
                  refine ok_lt (fun S3x428_z eS3x428_z => ?_)
                  have h430_y : CX b S3x428_z := by rw [eS3x428_z]; exact cs_mk_6 h412_y hj0 (by omega) (by omega)
                  have f431_y : gi S3x428_z (14 + 4 * j0) 2 = gi S2x409_z (14 + 4 * j0) 2 := gi_ne eS3x428_z (by omega)
                  exact ok_some ⟨h430_y, by trivial⟩
                · unfold f_Mark_place_104
                  refine ok_b1 (ok_Mark_number S2x409_z j0 2 h412_y hj0) (fun r1x432_z h433_y => ?_)
                  refine ok_lt (fun S3x432_z eS3x432_z => ?_)
                  have h434_y : CX b S3x432_z := by rw [eS3x432_z]; exact cs_mk_6 h412_y hj0 (by omega) (by omega)
                  have f435_y : gi S3x432_z (14 + 4 * j0) 2 = gi S2x409_z (14 + 4 * j0) 2 := gi_ne eS3x432_z (by omega)
                  exact ok_some ⟨h434_y, by trivial⟩
              · exact ok_some ⟨h412_y, by trivial⟩
          · unfold f_Mark_place_58
            refine ok_b1 (ok_Mark_number S1x375_z j0 1 h376_y hj0) (fun r1x436_z h437_y => ?_)
            unfold f_Mark_place_65
            refine ok_lt (fun S1x438_z eS1x438_z => ?_)
            have h439_y : CX b S1x438_z := by rw [eS1x438_z]; exact cs_mk_5 h376_y hj0 (by omega) (by omega)
            have f440_y : gi S1x438_z (14 + 4 * j0) 2 = gi S1x375_z (14 + 4 * j0) 2 := gi_ne eS1x438_z (by omega)
            refine ok_lt (fun S2x438_z eS2x438_z => ?_)
            have h441_y : CX b S2x438_z := by rw [eS2x438_z]; exact cs_mk_6 h439_y hj0 (by omega) (by omega)
            have f442_y : gi S2x438_z (14 + 4 * j0) 2 = gi S1x438_z (14 + 4 * j0) 2 := gi_ne eS2x438_z (by omega)
            refine ok_if (fun c443_y => ?_) (fun c443_y => ?_)
            · unfold f_Mark_place_89
              refine ok_if (fun c445_y => ?_) (fun c445_y => ?_)
              · unfold f_Mark_place_104
                refine ok_b1 (ok_Mark_number S2x438_z j0 0 h441_y hj0) (fun r1x446_z h447_y => ?_)
                refine ok_lt (fun S3x446_z eS3x446_z => ?_)
                have h448_y : CX b S3x446_z := by rw [eS3x446_z]; exact cs_mk_6 h441_y hj0 (by omega) (by omega)
                have f449_y : gi S3x446_z (14 + 4 * j0) 2 = gi S2x438_z (14 + 4 * j0) 2 := gi_ne eS3x446_z (by omega)
                exact ok_some ⟨h448_y, by trivial⟩
              · unfold f_Mark_place_104
                refine ok_b1 (ok_Mark_number S2x438_z j0 2 h441_y hj0) (fun r1x450_z h451_y => ?_)
                refine ok_lt (fun S3x450_z eS3x450_z => ?_)
                have h452_y : CX b S3x450_z := by rw [eS3x450_z]; exact cs_mk_6 h441_y hj0 (by omega) (by omega)
                have f453_y : gi S3x450_z (14 + 4 * j0) 2 = gi S2x438_z (14 + 4 * j0) 2 := gi_ne eS3x450_z (by omega)
                exact ok_some ⟨h452_y, by trivial⟩
            · refine ok_if (fun c454_y => ?_) (fun c454_y => ?_)
              · unfold f_Mark_place_89
                refine ok_if (fun c456_y => ?_) (fun c456_y => ?_)
                · unfold f_Mark_place_104
                  refine ok_b1 (ok_Mark_number S2x438_z j0 0 h441_y hj0) (fun r1x457_z h458_y => ?_)
                  refine ok_lt (fun S3x457_z eS3x457_z => ?_)
                  have h459_y : CX b S3x457_z := by rw [eS3x457_z]; exact cs_mk_6 h441_y hj0 (by omega) (by omega)
                  have f460_y : gi S3x457_z (14 + 4 * j0) 2 = gi S2x438_z (14 + 4 * j0) 2 := gi_ne eS3x457_z (by omega)
                  exact ok_some ⟨h459_y, by trivial⟩
                · unfold f_Mark_place_104
                  refine ok_b1 (ok_Mark_number S2x438_z j0 2 h441_y hj0) (fun r1x461_z h462_y => ?_)
                  refine ok_lt (fun S3x461_z eS3x461_z => ?_)
                  have h463_y : CX b S3x461_z := by rw [eS3x461_z]; exact cs_mk_6 h441_y hj0 (by omega) (by omega)
                  have f464_y : gi S3x461_z (14 + 4 * j0) 2 = gi S2x438_z (14 + 4 * j0) 2 := gi_ne eS3x461_z (by omega)
                  exact ok_some ⟨h463_y, by trivial⟩
              · exact ok_some ⟨h441_y, by trivial⟩
      · refine ok_b1 (ok_Mark_number S j0 0 hC hj0) (fun r1x373_z h465_y => ?_)
        unfold f_Mark_place_36
        refine ok_lt (fun S1x466_z eS1x466_z => ?_)
        have h467_y : CX b S1x466_z := by rw [eS1x466_z]; exact cs_mk_4 hC hj0 (by omega) (by omega)
        have f468_y : gi S1x466_z (14 + 4 * j0) 2 = gi S (14 + 4 * j0) 2 := gi_ne eS1x466_z (by omega)
        refine ok_if (fun c469_y => ?_) (fun c469_y => ?_)
        · unfold f_Mark_place_65
          refine ok_lt (fun S1x470_z eS1x470_z => ?_)
          have h471_y : CX b S1x470_z := by rw [eS1x470_z]; exact cs_mk_5 h467_y hj0 (by omega) (by omega)
          have f472_y : gi S1x470_z (14 + 4 * j0) 2 = gi S1x466_z (14 + 4 * j0) 2 := gi_ne eS1x470_z (by omega)
          refine ok_lt (fun S2x470_z eS2x470_z => ?_)
          have h473_y : CX b S2x470_z := by rw [eS2x470_z]; exact cs_mk_6 h471_y hj0 (by omega) (by omega)
          have f474_y : gi S2x470_z (14 + 4 * j0) 2 = gi S1x470_z (14 + 4 * j0) 2 := gi_ne eS2x470_z (by omega)
          refine ok_if (fun c475_y => ?_) (fun c475_y => ?_)
          · unfold f_Mark_place_89
            refine ok_if (fun c477_y => ?_) (fun c477_y => ?_)
            · unfold f_Mark_place_104
              refine ok_b1 (ok_Mark_number S2x470_z j0 0 h473_y hj0) (fun r1x478_z h479_y => ?_)
              refine ok_lt (fun S3x478_z eS3x478_z => ?_)
              have h480_y : CX b S3x478_z := by rw [eS3x478_z]; exact cs_mk_6 h473_y hj0 (by omega) (by omega)
              have f481_y : gi S3x478_z (14 + 4 * j0) 2 = gi S2x470_z (14 + 4 * j0) 2 := gi_ne eS3x478_z (by omega)
              exact ok_some ⟨h480_y, by trivial⟩
            · unfold f_Mark_place_104
              refine ok_b1 (ok_Mark_number S2x470_z j0 2 h473_y hj0) (fun r1x482_z h483_y => ?_)
              refine ok_lt (fun S3x482_z eS3x482_z => ?_)
              have h484_y : CX b S3x482_z := by rw [eS3x482_z]; exact cs_mk_6 h473_y hj0 (by omega) (by omega)
              have f485_y : gi S3x482_z (14 + 4 * j0) 2 = gi S2x470_z (14 + 4 * j0) 2 := gi_ne eS3x482_z (by omega)
              exact ok_some ⟨h484_y, by trivial⟩
          · refine ok_if (fun c486_y => ?_) (fun c486_y => ?_)
            · unfold f_Mark_place_89
              refine ok_if (fun c488_y => ?_) (fun c488_y => ?_)
              · unfold f_Mark_place_104
                refine ok_b1 (ok_Mark_number S2x470_z j0 0 h473_y hj0) (fun r1x489_z h490_y => ?_)
                refine ok_lt (fun S3x489_z eS3x489_z => ?_)
                have h491_y : CX b S3x489_z := by rw [eS3x489_z]; exact cs_mk_6 h473_y hj0 (by omega) (by omega)
                have f492_y : gi S3x489_z (14 + 4 * j0) 2 = gi S2x470_z (14 + 4 * j0) 2 := gi_ne eS3x489_z (by omega)
                exact ok_some ⟨h491_y, by trivial⟩
              · unfold f_Mark_place_104
                refine ok_b1 (ok_Mark_number S2x470_z j0 2 h473_y hj0) (fun r1x493_z h494_y => ?_)
                refine ok_lt (fun S3x493_z eS3x493_z => ?_)
                have h495_y : CX b S3x493_z := by rw [eS3x493_z]; exact cs_mk_6 h473_y hj0 (by omega) (by omega)
                have f496_y : gi S3x493_z (14 + 4 * j0) 2 = gi S2x470_z (14 + 4 * j0) 2 := gi_ne eS3x493_z (by omega)
                exact ok_some ⟨h495_y, by trivial⟩
            · exact ok_some ⟨h473_y, by trivial⟩
        · refine ok_if (fun c497_y => ?_) (fun c497_y => ?_)
          · unfold f_Mark_place_58
            refine ok_b1 (ok_Mark_number S1x466_z j0 2 h467_y hj0) (fun r1x498_z h499_y => ?_)
            unfold f_Mark_place_65
            refine ok_lt (fun S1x500_z eS1x500_z => ?_)
            have h501_y : CX b S1x500_z := by rw [eS1x500_z]; exact cs_mk_5 h467_y hj0 (by omega) (by omega)
            have f502_y : gi S1x500_z (14 + 4 * j0) 2 = gi S1x466_z (14 + 4 * j0) 2 := gi_ne eS1x500_z (by omega)
            refine ok_lt (fun S2x500_z eS2x500_z => ?_)
            have h503_y : CX b S2x500_z := by rw [eS2x500_z]; exact cs_mk_6 h501_y hj0 (by omega) (by omega)
            have f504_y : gi S2x500_z (14 + 4 * j0) 2 = gi S1x500_z (14 + 4 * j0) 2 := gi_ne eS2x500_z (by omega)
            refine ok_if (fun c505_y => ?_) (fun c505_y => ?_)
            · unfold f_Mark_place_89
              refine ok_if (fun c507_y => ?_) (fun c507_y => ?_)
              · unfold f_Mark_place_104
                refine ok_b1 (ok_Mark_number S2x500_z j0 0 h503_y hj0) (fun r1x508_z h509_y => ?_)
                refine ok_lt (fun S3x508_z eS3x508_z => ?_)
                have h510_y : CX b S3x508_z := by rw [eS3x508_z]; exact cs_mk_6 h503_y hj0 (by omega) (by omega)
                have f511_y : gi S3x508_z (14 + 4 * j0) 2 = gi S2x500_z (14 + 4 * j0) 2 := gi_ne eS3x508_z (by omega)
                exact ok_some ⟨h510_y, by trivial⟩
              · unfold f_Mark_place_104
                refine ok_b1 (ok_Mark_number S2x500_z j0 2 h503_y hj0) (fun r1x512_z h513_y => ?_)
                refine ok_lt (fun S3x512_z eS3x512_z => ?_)
                have h514_y : CX b S3x512_z := by rw [eS3x512_z]; exact cs_mk_6 h503_y hj0 (by omega) (by omega)
                have f515_y : gi S3x512_z (14 + 4 * j0) 2 = gi S2x500_z (14 + 4 * j0) 2 := gi_ne eS3x512_z (by omega)
                exact ok_some ⟨h514_y, by trivial⟩
            · refine ok_if (fun c516_y => ?_) (fun c516_y => ?_)
              · unfold f_Mark_place_89
                refine ok_if (fun c518_y => ?_) (fun c518_y => ?_)
                · unfold f_Mark_place_104
                  refine ok_b1 (ok_Mark_number S2x500_z j0 0 h503_y hj0) (fun r1x519_z h520_y => ?_)
                  refine ok_lt (fun S3x519_z eS3x519_z => ?_)
                  have h521_y : CX b S3x519_z := by rw [eS3x519_z]; exact cs_mk_6 h503_y hj0 (by omega) (by omega)
                  have f522_y : gi S3x519_z (14 + 4 * j0) 2 = gi S2x500_z (14 + 4 * j0) 2 := gi_ne eS3x519_z (by omega)
                  exact ok_some ⟨h521_y, by trivial⟩
                · unfold f_Mark_place_104
                  refine ok_b1 (ok_Mark_number S2x500_z j0 2 h503_y hj0) (fun r1x523_z h524_y => ?_)
                  refine ok_lt (fun S3x523_z eS3x523_z => ?_)
                  have h525_y : CX b S3x523_z := by rw [eS3x523_z]; exact cs_mk_6 h503_y hj0 (by omega) (by omega)
                  have f526_y : gi S3x523_z (14 + 4 * j0) 2 = gi S2x500_z (14 + 4 * j0) 2 := gi_ne eS3x523_z (by omega)
                  exact ok_some ⟨h525_y, by trivial⟩
              · exact ok_some ⟨h503_y, by trivial⟩
          · unfold f_Mark_place_58
            refine ok_b1 (ok_Mark_number S1x466_z j0 1 h467_y hj0) (fun r1x527_z h528_y => ?_)
            unfold f_Mark_place_65
            refine ok_lt (fun S1x529_z eS1x529_z => ?_)
            have h530_y : CX b S1x529_z := by rw [eS1x529_z]; exact cs_mk_5 h467_y hj0 (by omega) (by omega)
            have f531_y : gi S1x529_z (14 + 4 * j0) 2 = gi S1x466_z (14 + 4 * j0) 2 := gi_ne eS1x529_z (by omega)
            refine ok_lt (fun S2x529_z eS2x529_z => ?_)
            have h532_y : CX b S2x529_z := by rw [eS2x529_z]; exact cs_mk_6 h530_y hj0 (by omega) (by omega)
            have f533_y : gi S2x529_z (14 + 4 * j0) 2 = gi S1x529_z (14 + 4 * j0) 2 := gi_ne eS2x529_z (by omega)
            refine ok_if (fun c534_y => ?_) (fun c534_y => ?_)
            · unfold f_Mark_place_89
              refine ok_if (fun c536_y => ?_) (fun c536_y => ?_)
              · unfold f_Mark_place_104
                refine ok_b1 (ok_Mark_number S2x529_z j0 0 h532_y hj0) (fun r1x537_z h538_y => ?_)
                refine ok_lt (fun S3x537_z eS3x537_z => ?_)
                have h539_y : CX b S3x537_z := by rw [eS3x537_z]; exact cs_mk_6 h532_y hj0 (by omega) (by omega)
                have f540_y : gi S3x537_z (14 + 4 * j0) 2 = gi S2x529_z (14 + 4 * j0) 2 := gi_ne eS3x537_z (by omega)
                exact ok_some ⟨h539_y, by trivial⟩
              · unfold f_Mark_place_104
                refine ok_b1 (ok_Mark_number S2x529_z j0 2 h532_y hj0) (fun r1x541_z h542_y => ?_)
                refine ok_lt (fun S3x541_z eS3x541_z => ?_)
                have h543_y : CX b S3x541_z := by rw [eS3x541_z]; exact cs_mk_6 h532_y hj0 (by omega) (by omega)
                have f544_y : gi S3x541_z (14 + 4 * j0) 2 = gi S2x529_z (14 + 4 * j0) 2 := gi_ne eS3x541_z (by omega)
                exact ok_some ⟨h543_y, by trivial⟩
            · refine ok_if (fun c545_y => ?_) (fun c545_y => ?_)
              · unfold f_Mark_place_89
                refine ok_if (fun c547_y => ?_) (fun c547_y => ?_)
                · unfold f_Mark_place_104
                  refine ok_b1 (ok_Mark_number S2x529_z j0 0 h532_y hj0) (fun r1x548_z h549_y => ?_)
                  refine ok_lt (fun S3x548_z eS3x548_z => ?_)
                  have h550_y : CX b S3x548_z := by rw [eS3x548_z]; exact cs_mk_6 h532_y hj0 (by omega) (by omega)
                  have f551_y : gi S3x548_z (14 + 4 * j0) 2 = gi S2x529_z (14 + 4 * j0) 2 := gi_ne eS3x548_z (by omega)
                  exact ok_some ⟨h550_y, by trivial⟩
                · unfold f_Mark_place_104
                  refine ok_b1 (ok_Mark_number S2x529_z j0 2 h532_y hj0) (fun r1x552_z h553_y => ?_)
                  refine ok_lt (fun S3x552_z eS3x552_z => ?_)
                  have h554_y : CX b S3x552_z := by rw [eS3x552_z]; exact cs_mk_6 h532_y hj0 (by omega) (by omega)
                  have f555_y : gi S3x552_z (14 + 4 * j0) 2 = gi S2x529_z (14 + 4 * j0) 2 := gi_ne eS3x552_z (by omega)
                  exact ok_some ⟨h554_y, by trivial⟩
              · exact ok_some ⟨h532_y, by trivial⟩
set_option maxHeartbeats 4000000 in
theorem ok_Mark_isWithin {b : Nat} (S : SS) (j0 : Nat) (j1 : Nat) (hC : CX b S) (hj0 : j0 < 40) (hj1 : j1 < 40) : okk (f_Mark_isWithin S j0 j1) (fun r => r = 0 ∨ r = 1) := by
  unfold f_Mark_isWithin
  have b2_y := cx_mk_2 hC hj1
  refine ok_if (fun c3_y => ?_) (fun c3_y => ?_)
  · have b4_y := cx_mk_4 hC hj1
    have b5_y := cx_mk_5 hC hj1
    have b6_y := fits01 S j0 (gi S (14 + 4 * j1) 4) (gi S (14 + 4 * j1) 5)
    refine ok_chk (by omega) ?_
    exact ok_some (by omega)
  · refine ok_if (fun c7_y => ?_) (fun c7_y => ?_)
    · refine ok_b1 (ok_Mark_number S j1 1 hC hj1) (fun r3x1_z h8_y => ?_)
      refine ok_chk (by omega) ?_
      have b9_y := cx_mk_4 hC hj1
      have b10_y := fits01 S j0 (gi S (14 + 4 * j1) 4) (r3x1_z - 1)
      refine ok_if (fun c11_y => ?_) (fun c11_y => ?_)
      · have b12_y := cx_mk_5 hC hj1
        have b13_y := fits01 S j0 r3x1_z (gi S (14 + 4 * j1) 5)
        refine ok_if (fun c14_y => ?_) (fun c14_y => ?_)
        · exact ok_some (by omega)
        · exact ok_some (by omega)
      · exact ok_some (by omega)
    · exact ok_some (by omega)
set_option maxHeartbeats 4000000 in
theorem ok_Mark_meets {b : Nat} (S : SS) (j0 : Nat) (j1 : Nat) (hC : CX b S) (hj0 : j0 < 40) (hj1 : j1 < 40) : okk (f_Mark_meets S j0 j1) (fun r => r = 0 ∨ r = 1) := by
  unfold f_Mark_meets
  refine ok_b1 (ok_Mark_isWithin S j0 j1 hC hj0 hj1) (fun r1x1_z h2_y => ?_)
  refine ok_if (fun c3_y => ?_) (fun c3_y => ?_)
  · refine ok_b1 (ok_Mark_isWithin S j1 j0 hC hj1 hj0) (fun r3x1_z h4_y => ?_)
    refine ok_if (fun c5_y => ?_) (fun c5_y => ?_)
    · have b6_y := cx_mk_5 hC hj1
      have b7_y := cx_mk_4 hC hj0
      refine ok_if (fun c8_y => ?_) (fun c8_y => ?_)
      · unfold f_Mark_meets_40
        have b10_y := cx_mk_6 hC hj0
        have b11_y := cx_mk_4 hC hj1
        refine ok_if (fun c12_y => ?_) (fun c12_y => ?_)
        · unfold f_Mark_meets_62
          have b14_y := cx_mk_6 hC hj1
          refine ok_if (fun c15_y => ?_) (fun c15_y => ?_)
          · exact ok_some (by omega)
          · have b16_y := cx_mk_5 hC hj0
            refine ok_if (fun c17_y => ?_) (fun c17_y => ?_)
            · exact ok_some (by omega)
            · exact ok_some (by omega)
        · refine ok_if (fun c18_y => ?_) (fun c18_y => ?_)
          · exact ok_some (by omega)
          · unfold f_Mark_meets_62
            have b20_y := cx_mk_6 hC hj1
            refine ok_if (fun c21_y => ?_) (fun c21_y => ?_)
            · exact ok_some (by omega)
            · have b22_y := cx_mk_5 hC hj0
              refine ok_if (fun c23_y => ?_) (fun c23_y => ?_)
              · exact ok_some (by omega)
              · exact ok_some (by omega)
      · have b24_y := cx_mk_4 hC hj1
        have b25_y := cx_mk_5 hC hj0
        refine ok_if (fun c26_y => ?_) (fun c26_y => ?_)
        · exact ok_some (by omega)
        · unfold f_Mark_meets_40
          have b28_y := cx_mk_6 hC hj0
          refine ok_if (fun c29_y => ?_) (fun c29_y => ?_)
          · unfold f_Mark_meets_62
            have b31_y := cx_mk_6 hC hj1
            refine ok_if (fun c32_y => ?_) (fun c32_y => ?_)
            · exact ok_some (by omega)
            · refine ok_if (fun c33_y => ?_) (fun c33_y => ?_)
              · exact ok_some (by omega)
              · exact ok_some (by omega)
          · refine ok_if (fun c34_y => ?_) (fun c34_y => ?_)
            · exact ok_some (by omega)
            · unfold f_Mark_meets_62
              have b36_y := cx_mk_6 hC hj1
              refine ok_if (fun c37_y => ?_) (fun c37_y => ?_)
              · exact ok_some (by omega)
              · refine ok_if (fun c38_y => ?_) (fun c38_y => ?_)
                · exact ok_some (by omega)
                · exact ok_some (by omega)
    · exact ok_some (by omega)
  · exact ok_some (by omega)
set_option maxHeartbeats 4000000 in
theorem ok_Mark_tell {b : Nat} (S : SS) (j0 : Nat) (v1 : Int) (hC : CX b S) (hj0 : j0 < 40) : okk (f_Mark_tell S j0 v1) (fun r => True) := by
  unfold f_Mark_tell
  refine ok_if (fun c2_y => ?_) (fun c2_y => ?_)
  · have b3_y := cx_mk_2 hC hj0
    exact ok_some (by trivial)
  · refine ok_if (fun c4_y => ?_) (fun c4_y => ?_)
    · have b5_y := cx_mk_3 hC hj0
      exact ok_some (by trivial)
    · refine ok_if (fun c6_y => ?_) (fun c6_y => ?_)
      · refine ok_chk (by omega) ?_
        refine ok_b1 (ok_Mark_number S j0 (v1 - 2) hC hj0) (fun r7x1_z h7_y => ?_)
        exact ok_some (by trivial)
      · refine ok_if (fun c8_y => ?_) (fun c8_y => ?_)
        · refine ok_chk (by omega) ?_
          refine ok_b1 (ok_Mark_number S j0 (v1 - 2) hC hj0) (fun r11x1_z h9_y => ?_)
          exact ok_some (by trivial)
        · refine ok_if (fun c10_y => ?_) (fun c10_y => ?_)
          · refine ok_chk (by omega) ?_
            refine ok_b1 (ok_Mark_number S j0 (v1 - 2) hC hj0) (fun r15x1_z h11_y => ?_)
            exact ok_some (by trivial)
          · refine ok_if (fun c12_y => ?_) (fun c12_y => ?_)
            · have b13_y := cx_sh hC (show shOk (14 + 4 * j0 + 2) by omega)
              exact ok_some (by trivial)
            · refine ok_if (fun c14_y => ?_) (fun c14_y => ?_)
              · have b15_y := cx_mk_11 hC hj0
                exact ok_some (by trivial)
              · refine ok_if (fun c16_y => ?_) (fun c16_y => ?_)
                · exact ok_some (by trivial)
                · refine ok_if (fun c17_y => ?_) (fun c17_y => ?_)
                  · have b18_y := cx_mk_9 hC hj0
                    refine ok_if (fun c19_y => ?_) (fun c19_y => ?_)
                    · exact ok_some (by trivial)
                    · exact ok_some (by trivial)
                  · exact ok_some (by trivial)
set_option maxHeartbeats 4000000 in
theorem ok_Mark_tellWord {b : Nat} (S : SS) (j0 : Nat) (v1 : Int) (hC : CX b S) (hj0 : j0 < 40) : okk (f_Mark_tellWord S j0 v1) (fun r => True) := by
  unfold f_Mark_tellWord
  refine ok_if (fun c2_y => ?_) (fun c2_y => ?_)
  · exact ok_some (by trivial)
  · have b3_y := cx_sh hC (show shOk (14 + 4 * j0 + 2) by omega)
    refine ok_if (fun c4_y => ?_) (fun c4_y => ?_)
    · refine ok_b1 (ok_Sheet_wordAt S (14 + 4 * j0 + 2) v1 hC (show shOk (14 + 4 * j0 + 2) by omega)) (fun w2x1_z h5_y => ?_)
      have b6_y := l2i_rng w2x1_z
      exact ok_some (by trivial)
    · exact ok_some (by trivial)
set_option maxHeartbeats 4000000 in
theorem ok_Pile_blank {b : Nat} (S : SS) (hC : CX b S) : okk (f_Pile_blank S) (fun u => CX b u.2 ∧ (∀ j, u.1 = some j → j < 40)) := by
  unfold f_Pile_blank
  have b2_y := cx_10_3 hC
  have b3_y := cx_10_4 hC
  refine ok_chk (by omega) ?_
  refine ok_b1 (ok_Pile_markAt S ((gi S 10 3) + (gi S 10 4)) hC) (fun o4x1_z h4_y => ?_)
  refine ok_on (fun h5_y => ?_) (fun j6x1_z h5_y => ?_)
  · exact ok_some ⟨hC, fun j hj => by cases hj⟩
  · have hj6x1_z : j6x1_z < 40 := h4_y j6x1_z h5_y
    refine ok_chk (by omega) ?_
    refine ok_b1 (ok_Mark_clear S j6x1_z hC hj6x1_z) (fun S7x1_z h6_y => ?_)
    obtain ⟨h7_y, p8_y⟩ := h6_y
    exact ok_some ⟨h7_y, fun j hj => by cases hj; exact hj6x1_z⟩
set_option maxHeartbeats 4000000 in
theorem ok_Pile_canBeStet {b : Nat} (S : SS) (v1 : Int) (hC : CX b S) : okk (f_Pile_canBeStet S v1) (fun r => r = 0 ∨ r = 1) := by
  unfold f_Pile_canBeStet
  have b2_y := cx_10_3 hC
  have b3_y := cx_10_4 hC
  refine ok_chk (by omega) ?_
  refine ok_if (fun c4_y => ?_) (fun c4_y => ?_)
  · refine ok_b1 (ok_Pile_markAt S v1 hC) (fun o4x1_z h5_y => ?_)
    unfold f_Pile_canBeStet_22
    refine ok_on (fun h7_y => ?_) (fun j1x6_z h7_y => ?_)
    · exact ok_some (by omega)
    · have hj1x6_z : j1x6_z < 40 := h5_y j1x6_z h7_y
      refine ok_chk (by omega) ?_
      have b8_y := cx_mk_2 hC hj1x6_z
      refine ok_if (fun c9_y => ?_) (fun c9_y => ?_)
      · exact ok_some (by omega)
      · exact ok_some (by omega)
  · unfold f_Pile_canBeStet_22
    refine ok_on (fun _ => ?_) (fun _ h => by cases h)
    exact ok_some (by omega)
set_option maxHeartbeats 4000000 in
theorem okl_Pile_accept_30 : ∀ (n : Nat) (S : SS) (v1_ : Int) (v2_ : Int), CX 0 S → (0 ≤ v2_ ∧ v2_ ≤ 40) → 40 - v2_ < (n : Int) → okk (f_Pile_accept_30 n S v1_ v2_) (fun u => CX 0 u.2 ∧ (True)) := by
  intro n
  induction n with
  | zero => intro S v1_ v2_ hC hi hm; exfalso; omega
  | succ n ih =>
    intro S v1_ v2_ hC hi hm
    have hm : 40 - v2_ < (n : Int) + 1 := by omega
    show okk (f_Pile_accept_30_b (f_Pile_accept_30 n) S v1_ v2_) _
    unfold f_Pile_accept_30_b
    have b1_y := cx_10_3 hC
    refine ok_if (fun c2_y => ?_) (fun c2_y => ?_)
    · exact ok_some ⟨hC, by trivial⟩
    · refine ok_b1 (ok_Pile_find S v2_ hC) (fun o2_z h3_y => ?_)
      refine ok_on (fun h4_y => ?_) (fun j4_z h4_y => ?_)
      · unfold f_Pile_accept_81
        refine ok_chk (by omega) ?_
        exact ih S v1_ (v2_ + 1) hC (by omega) (by omega)
      · have hj4_z : j4_z < 40 := h3_y j4_z h4_y
        refine ok_chk (by omega) ?_
        have b6_y := cx_mk_2 hC hj4_z
        refine ok_if (fun c7_y => ?_) (fun c7_y => ?_)
        · refine ok_b1 (ok_Mark_number S j4_z 0 hC hj4_z) (fun r6_z h8_y => ?_)
          refine ok_b1 (ok_Pile_find S r6_z hC) (fun o8_z h9_y => ?_)
          refine ok_on (fun h10_y => ?_) (fun j10_z h10_y => ?_)
          · unfold f_Pile_accept_81
            refine ok_chk (by omega) ?_
            exact ih S v1_ (v2_ + 1) hC (by omega) (by omega)
          · have hj10_z : j10_z < 40 := h9_y j10_z h10_y
            refine ok_chk (by omega) ?_
            refine ok_lt (fun S11_z eS11_z => ?_)
            have h12_y : CX 0 S11_z := by rw [eS11_z]; exact cx_Mark_voidByStet hC hj10_z (by omega)
            unfold f_Pile_accept_81
            refine ok_chk (by omega) ?_
            exact ih S11_z v1_ (v2_ + 1) h12_y (by omega) (by omega)
        · unfold f_Pile_accept_81
          refine ok_chk (by omega) ?_
          exact ih S v1_ (v2_ + 1) hC (by omega) (by omega)
set_option maxHeartbeats 4000000 in
theorem ok_Pile_accept (S : SS) (hC : CX 0 S) (hp0 : gi S 10 3 + gi S 10 4 ≤ 40) : okk (f_Pile_accept S) (fun u => CX 0 u.2 ∧ (True)) := by
  unfold f_Pile_accept
  have b2_y := cx_10_3 hC
  have b3_y := cx_10_4 hC
  refine ok_chk (by omega) ?_
  refine ok_lt (fun S5x1_z eS5x1_z => ?_)
  have h4_y : CX 0 S5x1_z := by rw [eS5x1_z]; exact cs_10_3 hC (by decide) (by omega) (by omega)
  have f5_y : gi S5x1_z 10 3 = (gi S 10 3) + (gi S 10 4) := gi_eq eS5x1_z
  have f6_y : gi S5x1_z 10 4 = gi S 10 4 := gi_ne eS5x1_z (by omega)
  refine ok_lt (fun S6x1_z eS6x1_z => ?_)
  have h7_y : CX 0 S6x1_z := by rw [eS6x1_z]; exact cs_10_4 h4_y (by decide) (by omega) (by omega)
  have f8_y : gi S6x1_z 10 4 = 0 := gi_eq eS6x1_z
  have f9_y : gi S6x1_z 10 3 = gi S5x1_z 10 3 := gi_ne eS6x1_z (by omega)
  refine ok_chk (by omega) ?_
  exact okl_Pile_accept_30  FU S6x1_z (gi S 10 4) ((gi S6x1_z 10 3) - (gi S 10 4)) h7_y (by omega) (by unfold FU; omega)
set_option maxHeartbeats 4000000 in
theorem okl_Pile_firstDoneThatMeets_2 {b : Nat} (S : SS) (j1 : Nat) (hC : CX b S) (hj1 : j1 < 40) : ∀ (n : Nat) (v2_ : Int), (0 ≤ v2_ ∧ v2_ ≤ 40) → 40 - v2_ < (n : Int) → okk (f_Pile_firstDoneThatMeets_2 S j1 n v2_) (fun r => -1 ≤ r ∧ r ≤ 40) := by
  intro n
  induction n with
  | zero => intro v2_ hi hm; exfalso; omega
  | succ n ih =>
    intro v2_ hi hm
    have hm : 40 - v2_ < (n : Int) + 1 := by omega
    show okk (f_Pile_firstDoneThatMeets_2_b S j1 (f_Pile_firstDoneThatMeets_2 S j1 n) v2_) _
    unfold f_Pile_firstDoneThatMeets_2_b
    have b1_y := cx_10_3 hC
    refine ok_if (fun c2_y => ?_) (fun c2_y => ?_)
    · exact ok_some (by omega)
    · refine ok_b1 (ok_Pile_find S v2_ hC) (fun o2_z h3_y => ?_)
      refine ok_on (fun h4_y => ?_) (fun j4_z h4_y => ?_)
      · unfold f_Pile_firstDoneThatMeets_42
        refine ok_chk (by omega) ?_
        exact ih (v2_ + 1) (by omega) (by omega)
      · have hj4_z : j4_z < 40 := h3_y j4_z h4_y
        refine ok_chk (by omega) ?_
        refine ok_if (fun c6_y => ?_) (fun c6_y => ?_)
        · unfold f_Pile_firstDoneThatMeets_42
          refine ok_chk (by omega) ?_
          exact ih (v2_ + 1) (by omega) (by omega)
        · have b8_y := cx_mk_11 hC hj4_z
          refine ok_if (fun c9_y => ?_) (fun c9_y => ?_)
          · refine ok_b1 (ok_Mark_meets S j1 j4_z hC hj1 hj4_z) (fun r6_z h10_y => ?_)
            refine ok_if (fun c11_y => ?_) (fun c11_y => ?_)
            · unfold f_Pile_firstDoneThatMeets_42
              refine ok_chk (by omega) ?_
              exact ih (v2_ + 1) (by omega) (by omega)
            · exact ok_some (by omega)
          · unfold f_Pile_firstDoneThatMeets_42
            refine ok_chk (by omega) ?_
            exact ih (v2_ + 1) (by omega) (by omega)
set_option maxHeartbeats 4000000 in
theorem ok_Pile_firstDoneThatMeets {b : Nat} (S : SS) (j1 : Nat) (hC : CX b S) (hj1 : j1 < 40) : okk (f_Pile_firstDoneThatMeets S j1) (fun r => -1 ≤ r ∧ r ≤ 40) := by
  unfold f_Pile_firstDoneThatMeets
  exact okl_Pile_firstDoneThatMeets_2 S j1 hC hj1 FU 0 (by omega) (by unfold FU; omega)
set_option maxHeartbeats 4000000 in
theorem okl_Pile_listDone_7 {b : Nat} : ∀ (n : Nat) (S : SS) (v1_ : Int), CX b S → (0 ≤ v1_ ∧ v1_ ≤ 40) → 40 - v1_ < (n : Int) → okk (f_Pile_listDone_7 n S v1_) (fun S1 => CX b S1 ∧ (True)) := by
  intro n
  induction n with
  | zero => intro S v1_ hC hi hm; exfalso; omega
  | succ n ih =>
    intro S v1_ hC hi hm
    have hm : 40 - v1_ < (n : Int) + 1 := by omega
    show okk (f_Pile_listDone_7_b (f_Pile_listDone_7 n) S v1_) _
    unfold f_Pile_listDone_7_b
    have b1_y := cx_10_3 hC
    refine ok_if (fun c2_y => ?_) (fun c2_y => ?_)
    · exact ok_some ⟨hC, by trivial⟩
    · refine ok_b1 (ok_Pile_find S v1_ hC) (fun o2_z h3_y => ?_)
      refine ok_on (fun h4_y => ?_) (fun j4_z h4_y => ?_)
      · unfold f_Pile_listDone_64
        refine ok_chk (by omega) ?_
        exact ih S (v1_ + 1) hC (by omega) (by omega)
      · have hj4_z : j4_z < 40 := h3_y j4_z h4_y
        refine ok_chk (by omega) ?_
        have b6_y := cx_mk_11 hC hj4_z
        refine ok_if (fun c7_y => ?_) (fun c7_y => ?_)
        · have b8_y := cx_10_5 hC
          refine ok_if (fun c9_y => ?_) (fun c9_y => ?_)
          · unfold f_Pile_listDone_64
            refine ok_chk (by omega) ?_
            exact ih S (v1_ + 1) hC (by omega) (by omega)
          · refine ok_chk (by omega) ?_
            refine ok_lt (fun S8_z eS8_z => ?_)
            have h11_y : CX b S8_z := by rw [eS8_z]; exact cs_13 hC (by omega) (by omega)
            have f12_y : gi S8_z 10 5 = gi S 10 5 := gi_ne eS8_z (by omega)
            have f13_y : gi S8_z (14 + 4 * j4_z) 11 = gi S (14 + 4 * j4_z) 11 := gi_ne eS8_z (by omega)
            have f14_y : gi S8_z 10 3 = gi S 10 3 := gi_ne eS8_z (by omega)
            refine ok_chk (by omega) ?_
            refine ok_lt (fun S11_z eS11_z => ?_)
            have h15_y : CX b S11_z := by rw [eS11_z]; exact cs_10_5 h11_y (by omega) (by omega)
            have f16_y : gi S11_z 10 5 = (gi S8_z 10 5) + 1 := gi_eq eS11_z
            have f17_y : gi S11_z 10 3 = gi S8_z 10 3 := gi_ne eS11_z (by omega)
            have f18_y : gi S11_z (14 + 4 * j4_z) 11 = gi S8_z (14 + 4 * j4_z) 11 := gi_ne eS11_z (by omega)
            unfold f_Pile_listDone_64
            refine ok_chk (by omega) ?_
            exact ih S11_z (v1_ + 1) h15_y (by omega) (by omega)
        · unfold f_Pile_listDone_64
          refine ok_chk (by omega) ?_
          exact ih S (v1_ + 1) hC (by omega) (by omega)
set_option maxHeartbeats 4000000 in
theorem ok_Pile_listDone {b : Nat} (S : SS) (hC : CX b S) : okk (f_Pile_listDone S) (fun S1 => CX b S1 ∧ (True)) := by
  unfold f_Pile_listDone
  refine ok_lt (fun S1x1_z eS1x1_z => ?_)
  have h2_y : CX b S1x1_z := by rw [eS1x1_z]; exact cs_10_5 hC (by omega) (by omega)
  have f3_y : gi S1x1_z 10 5 = 0 := gi_eq eS1x1_z
  exact okl_Pile_listDone_7  FU S1x1_z 0 h2_y (by omega) (by unfold FU; omega)
set_option maxHeartbeats 4000000 in
theorem okl_Pile_decide_49 {b : Nat} (kf41_ : SS → Int → Option SS) (m_ : Int) (hk : ∀ (S : SS) (v1_ : Int), CX b S → (v1_ = m_ + 1) → okk (kf41_ S v1_) (fun S1 => CX b S1 ∧ (True))) : ∀ (n : Nat) (S : SS) (v1_ : Int) (v2_ : Int), CX b S → (v1_ = m_ ∧ 0 ≤ v1_ ∧ v1_ ≤ 9 ∧ 0 ≤ v2_ ∧ v2_ ≤ 40) → 40 - v2_ < (n : Int) → okk (f_Pile_decide_49 kf41_ n S v1_ v2_) (fun S1 => CX b S1 ∧ (True)) := by
  intro n
  induction n with
  | zero => intro S v1_ v2_ hC hi hm; exfalso; omega
  | succ n ih =>
    intro S v1_ v2_ hC hi hm
    have hm : 40 - v2_ < (n : Int) + 1 := by omega
    show okk (f_Pile_decide_49_b kf41_ (f_Pile_decide_49 kf41_ n) S v1_ v2_) _
    unfold f_Pile_decide_49_b
    have b1_y := cx_10_3 hC
    refine ok_if (fun c2_y => ?_) (fun c2_y => ?_)
    · refine ok_chk (by omega) ?_
      exact hk S (v1_ + 1) hC (by omega)
    · refine ok_b1 (ok_Pile_find S v2_ hC) (fun o3_z h3_y => ?_)
      refine ok_on (fun h4_y => ?_) (fun j5_z h4_y => ?_)
      · unfold f_Pile_decide_112
        refine ok_chk (by omega) ?_
        exact ih S v1_ (v2_ + 1) hC (by omega) (by omega)
      · have hj5_z : j5_z < 40 := h3_y j5_z h4_y
        refine ok_chk (by omega) ?_
        refine ok_if (fun c6_y => ?_) (fun c6_y => ?_)
        · unfold f_Pile_decide_112
          refine ok_chk (by omega) ?_
          exact ih S v1_ (v2_ + 1) hC (by omega) (by omega)
        · have b8_y := cx_mk_3 hC hj5_z
          refine ok_b1 (ok_Pile_rankOf S (gi S (14 + 4 * j5_z) 3) hC) (fun r8_z h9_y => ?_)
          refine ok_if (fun c10_y => ?_) (fun c10_y => ?_)
          · refine ok_b1 (ok_Pile_firstDoneThatMeets S j5_z hC hj5_z) (fun r10_z h11_y => ?_)
            refine ok_lt (fun S12_z eS12_z => ?_)
            have h12_y : CX b S12_z := by rw [eS12_z]; exact cs_mk_12 hC hj5_z (by omega) (by omega)
            have f13_y : gi S12_z (14 + 4 * j5_z) 3 = gi S (14 + 4 * j5_z) 3 := gi_ne eS12_z (by omega)
            have f14_y : gi S12_z 10 3 = gi S 10 3 := gi_ne eS12_z (by omega)
            have b15_y := cx_mk_12 h12_y hj5_z
            refine ok_if (fun c16_y => ?_) (fun c16_y => ?_)
            · unfold f_Pile_decide_109
              refine ok_lt (fun S1x17_z eS1x17_z => ?_)
              have h18_y : CX b S1x17_z := by rw [eS1x17_z]; exact cs_mk_11 h12_y hj5_z (by omega) (by omega)
              have f19_y : gi S1x17_z (14 + 4 * j5_z) 3 = gi S12_z (14 + 4 * j5_z) 3 := gi_ne eS1x17_z (by omega)
              have f20_y : gi S1x17_z (14 + 4 * j5_z) 12 = gi S12_z (14 + 4 * j5_z) 12 := gi_ne eS1x17_z (by omega)
              have f21_y : gi S1x17_z 10 3 = gi S12_z 10 3 := gi_ne eS1x17_z (by omega)
              unfold f_Pile_decide_112
              refine ok_chk (by omega) ?_
              exact ih S1x17_z v1_ (v2_ + 1) h18_y (by omega) (by omega)
            · unfold f_Pile_decide_109
              refine ok_lt (fun S1x23_z eS1x23_z => ?_)
              have h24_y : CX b S1x23_z := by rw [eS1x23_z]; exact cs_mk_11 h12_y hj5_z (by omega) (by omega)
              have f25_y : gi S1x23_z (14 + 4 * j5_z) 3 = gi S12_z (14 + 4 * j5_z) 3 := gi_ne eS1x23_z (by omega)
              have f26_y : gi S1x23_z (14 + 4 * j5_z) 12 = gi S12_z (14 + 4 * j5_z) 12 := gi_ne eS1x23_z (by omega)
              have f27_y : gi S1x23_z 10 3 = gi S12_z 10 3 := gi_ne eS1x23_z (by omega)
              unfold f_Pile_decide_112
              refine ok_chk (by omega) ?_
              exact ih S1x23_z v1_ (v2_ + 1) h24_y (by omega) (by omega)
          · unfold f_Pile_decide_112
            refine ok_chk (by omega) ?_
            exact ih S v1_ (v2_ + 1) hC (by omega) (by omega)
set_option maxHeartbeats 4000000 in
theorem okl_Pile_decide_41 {b : Nat} : ∀ (n : Nat) (S : SS) (v1_ : Int), CX b S → (0 ≤ v1_ ∧ v1_ ≤ 10) → 10 - v1_ < (n : Int) → okk (f_Pile_decide_41 n S v1_) (fun S1 => CX b S1 ∧ (True)) := by
  intro n
  induction n with
  | zero => intro S v1_ hC hi hm; exfalso; omega
  | succ n ih =>
    intro S v1_ hC hi hm
    have hm : 10 - v1_ < (n : Int) + 1 := by omega
    show okk (f_Pile_decide_41_b (f_Pile_decide_41 n) S v1_) _
    unfold f_Pile_decide_41_b
    refine ok_if (fun c1_y => ?_) (fun c1_y => ?_)
    · refine ok_b1 (ok_Pile_listDone S hC) (fun S1_z h2_y => ?_)
      obtain ⟨h3_y, p4_y⟩ := h2_y
      exact ok_some ⟨h3_y, by trivial⟩
    · exact okl_Pile_decide_49  _ (v1_) (fun S v1_ hC e => ih S v1_ hC (by omega) (by omega)) FU S v1_ 0 hC (by omega) (by unfold FU; omega)
set_option maxHeartbeats 4000000 in
theorem okl_Pile_decide_2 {b : Nat} : ∀ (n : Nat) (S : SS) (v1_ : Int), CX b S → (0 ≤ v1_ ∧ v1_ ≤ 40) → 40 - v1_ < (n : Int) → okk (f_Pile_decide_2 n S v1_) (fun S1 => CX b S1 ∧ (True)) := by
  intro n
  induction n with
  | zero => intro S v1_ hC hi hm; exfalso; omega
  | succ n ih =>
    intro S v1_ hC hi hm
    have hm : 40 - v1_ < (n : Int) + 1 := by omega
    show okk (f_Pile_decide_2_b (f_Pile_decide_2 n) S v1_) _
    unfold f_Pile_decide_2_b
    have b1_y := cx_10_3 hC
    refine ok_if (fun c2_y => ?_) (fun c2_y => ?_)
    · exact okl_Pile_decide_41  FU S 0 hC (by omega) (by unfold FU; omega)
    · refine ok_b1 (ok_Pile_find S v1_ hC) (fun o2_z h3_y => ?_)
      refine ok_on (fun h4_y => ?_) (fun j4_z h4_y => ?_)
      · unfold f_Pile_decide_33
        refine ok_chk (by omega) ?_
        exact ih S (v1_ + 1) hC (by omega) (by omega)
      · have hj4_z : j4_z < 40 := h3_y j4_z h4_y
        refine ok_chk (by omega) ?_
        refine ok_lt (fun S5_z eS5_z => ?_)
        have h6_y : CX b S5_z := by rw [eS5_z]; exact cs_mk_12 hC hj4_z (by omega) (by omega)
        have f7_y : gi S5_z 10 3 = gi S 10 3 := gi_ne eS5_z (by omega)
        have b8_y := und_rng S5_z j4_z
        refine ok_lt (fun S7_z eS7_z => ?_)
        have h9_y : CX b S7_z := by rw [eS7_z]; exact cs_mk_11 h6_y hj4_z (by omega) (by omega)
        have f10_y : gi S7_z 10 3 = gi S5_z 10 3 := gi_ne eS7_z (by omega)
        unfold f_Pile_decide_33
        refine ok_chk (by omega) ?_
        exact ih S7_z (v1_ + 1) h9_y (by omega) (by omega)
set_option maxHeartbeats 4000000 in
theorem ok_Pile_decide {b : Nat} (S : SS) (hC : CX b S) : okk (f_Pile_decide S) (fun S1 => CX b S1 ∧ (True)) := by
  unfold f_Pile_decide
  exact okl_Pile_decide_2  FU S 0 hC (by omega) (by unfold FU; omega)
set_option maxHeartbeats 4000000 in
theorem ok_Setter_takenAt {b : Nat} (S : SS) (v1 : Int) (hC : CX b S) : okk (f_Setter_takenAt S v1) (fun r => ∀ j, r = some j → j < 40) := by
  unfold f_Setter_takenAt
  refine ok_if (fun c2_y => ?_) (fun c2_y => ?_)
  · exact ok_some (fun j hj => by cases hj)
  · have b3_y := cx_178_2 hC
    refine ok_if (fun c4_y => ?_) (fun c4_y => ?_)
    · exact ok_some (fun j hj => by cases hj)
    · refine ok_if (fun c5_y => ?_) (fun c5_y => ?_)
      · refine ok_chk (by omega) ?_
        refine ok_lt (fun o3x1_z eo3x1_z => ?_)
        exact ok_some (fun j hj => (hC).2.2.1 _ j (by rw [← eo3x1_z]; exact hj))
      · exact ok_some (fun j hj => by cases hj)
set_option maxHeartbeats 4000000 in
theorem ok_Setter_isOpen {b : Nat} (S : SS) (v1 : Int) (hC : CX b S) : okk (f_Setter_isOpen S v1) (fun r => True) := by
  unfold f_Setter_isOpen
  refine ok_if (fun c2_y => ?_) (fun c2_y => ?_)
  · exact ok_some (by trivial)
  · refine ok_if (fun c3_y => ?_) (fun c3_y => ?_)
    · exact ok_some (by trivial)
    · refine ok_chk (by omega) ?_
      have b4_y := cx_180 hC (v1).toNat
      refine ok_if (fun c5_y => ?_) (fun c5_y => ?_)
      · exact ok_some (by trivial)
      · exact ok_some (by trivial)
set_option maxHeartbeats 4000000 in
theorem ok_Setter_mind {b : Nat} (S : SS) (v1 : Int) (v2 : Int) (hC : CX b S) (hp0 : 0 ≤ v2 ∧ v2 ≤ 1) : okk (f_Setter_mind S v1 v2) (fun S1 => CX b S1 ∧ (True)) := by
  unfold f_Setter_mind
  refine ok_if (fun c2_y => ?_) (fun c2_y => ?_)
  · exact ok_some ⟨hC, by trivial⟩
  · refine ok_if (fun c3_y => ?_) (fun c3_y => ?_)
    · exact ok_some ⟨hC, by trivial⟩
    · refine ok_chk (by omega) ?_
      refine ok_chk (by omega) ?_
      refine ok_lt (fun S2x1_z eS2x1_z => ?_)
      have h4_y : CX b S2x1_z := by rw [eS2x1_z]; exact cs_180 hC (by omega) (by omega)
      exact ok_some ⟨h4_y, by trivial⟩
set_option maxHeartbeats 4000000 in
theorem okl_Setter_outermostAt_7 {b : Nat} (S : SS) (v1 : Int) (hC : CX b S) : ∀ (n : Nat) (v2_ : Int) (v3_ : Int) (v4_ : Int), (0 ≤ v4_ ∧ v4_ ≤ 40) → 40 - v4_ < (n : Int) → okk (f_Setter_outermostAt_7 S v1 n v2_ v3_ v4_) (fun r => True) := by
  intro n
  induction n with
  | zero => intro v2_ v3_ v4_ hi hm; exfalso; omega
  | succ n ih =>
    intro v2_ v3_ v4_ hi hm
    have hm : 40 - v4_ < (n : Int) + 1 := by omega
    show okk (f_Setter_outermostAt_7_b S v1 (f_Setter_outermostAt_7 S v1 n) v2_ v3_ v4_) _
    unfold f_Setter_outermostAt_7_b
    have b1_y := cx_178_2 hC
    refine ok_if (fun c2_y => ?_) (fun c2_y => ?_)
    · exact ok_some (by trivial)
    · refine ok_b1 (ok_Setter_takenAt S v4_ hC) (fun o2_z h3_y => ?_)
      refine ok_on (fun h4_y => ?_) (fun j4_z h4_y => ?_)
      · unfold f_Setter_outermostAt_95
        refine ok_chk (by omega) ?_
        exact ih v2_ v3_ (v4_ + 1) (by omega) (by omega)
      · have hj4_z : j4_z < 40 := h3_y j4_z h4_y
        refine ok_chk (by omega) ?_
        refine ok_b1 (ok_Setter_isOpen S v4_ hC) (fun r5_z h6_y => ?_)
        refine ok_if (fun c7_y => ?_) (fun c7_y => ?_)
        · have b8_y := cx_mk_2 hC hj4_z
          refine ok_if (fun c9_y => ?_) (fun c9_y => ?_)
          · unfold f_Setter_outermostAt_95
            refine ok_chk (by omega) ?_
            exact ih v2_ v3_ (v4_ + 1) (by omega) (by omega)
          · have b11_y := cx_mk_4 hC hj4_z
            refine ok_if (fun c12_y => ?_) (fun c12_y => ?_)
            · have b13_y := cx_mk_5 hC hj4_z
              refine ok_if (fun c14_y => ?_) (fun c14_y => ?_)
              · unfold f_Setter_outermostAt_86
                unfold f_Setter_outermostAt_95
                refine ok_chk (by omega) ?_
                exact ih v4_ (gi S (14 + 4 * j4_z) 5) (v4_ + 1) (by omega) (by omega)
              · refine ok_if (fun c17_y => ?_) (fun c17_y => ?_)
                · refine ok_if (fun c18_y => ?_) (fun c18_y => ?_)
                  · unfold f_Setter_outermostAt_86
                    unfold f_Setter_outermostAt_95
                    refine ok_chk (by omega) ?_
                    exact ih v4_ (gi S (14 + 4 * j4_z) 5) (v4_ + 1) (by omega) (by omega)
                  · unfold f_Setter_outermostAt_95
                    refine ok_chk (by omega) ?_
                    exact ih v2_ v3_ (v4_ + 1) (by omega) (by omega)
                · unfold f_Setter_outermostAt_95
                  refine ok_chk (by omega) ?_
                  exact ih v2_ v3_ (v4_ + 1) (by omega) (by omega)
            · unfold f_Setter_outermostAt_95
              refine ok_chk (by omega) ?_
              exact ih v2_ v3_ (v4_ + 1) (by omega) (by omega)
        · unfold f_Setter_outermostAt_95
          refine ok_chk (by omega) ?_
          exact ih v2_ v3_ (v4_ + 1) (by omega) (by omega)
set_option maxHeartbeats 4000000 in
theorem ok_Setter_outermostAt {b : Nat} (S : SS) (v1 : Int) (hC : CX b S) : okk (f_Setter_outermostAt S v1) (fun r => True) := by
  unfold f_Setter_outermostAt
  exact okl_Setter_outermostAt_7 S v1 hC FU (-1) (-1) 0 (by omega) (by unfold FU; omega)
set_option maxHeartbeats 4000000 in
theorem okl_Setter_takeDone_7 {b : Nat} (v2 : Int) : ∀ (n : Nat) (S : SS) (v3_ : Int), CX b S → (0 ≤ v3_ ∧ v3_ ≤ 40) → 40 - v3_ < (n : Int) → okk (f_Setter_takeDone_7 v2 n S v3_) (fun S1 => CX b S1 ∧ (True)) := by
  intro n
  induction n with
  | zero => intro S v3_ hC hi hm; exfalso; omega
  | succ n ih =>
    intro S v3_ hC hi hm
    have hm : 40 - v3_ < (n : Int) + 1 := by omega
    show okk (f_Setter_takeDone_7_b v2 (f_Setter_takeDone_7 v2 n) S v3_) _
    unfold f_Setter_takeDone_7_b
    have b1_y := cx_10_5 hC
    refine ok_if (fun c2_y => ?_) (fun c2_y => ?_)
    · exact ok_some ⟨hC, by trivial⟩
    · refine ok_if (fun c3_y => ?_) (fun c3_y => ?_)
      · unfold f_Setter_takeDone_34
        unfold f_Setter_takeDone_35
        refine ok_b1 (ok_Pile_doneNumber S v3_ hC) (fun r1x5_z h6_y => ?_)
        refine ok_b1 (ok_Pile_find S r1x5_z hC) (fun o3x5_z h7_y => ?_)
        refine ok_if (fun c8_y => ?_) (fun c8_y => ?_)
        · refine ok_on (fun h9_y => ?_) (fun j5x5_z h9_y => ?_)
          · unfold f_Setter_takeDone_101
            refine ok_chk (by omega) ?_
            exact ih S (v3_ + 1) hC (by omega) (by omega)
          · have hj5x5_z : j5x5_z < 40 := h7_y j5x5_z h9_y
            refine ok_chk (by omega) ?_
            have b11_y := cx_178_2 hC
            refine ok_if (fun c12_y => ?_) (fun c12_y => ?_)
            · unfold f_Setter_takeDone_101
              refine ok_chk (by omega) ?_
              exact ih S (v3_ + 1) hC (by omega) (by omega)
            · refine ok_chk (by omega) ?_
              refine ok_lt (fun S8x5_z eS8x5_z => ?_)
              have h14_y : CX b S8x5_z := by rw [eS8x5_z]; exact cs_q179 hC hj5x5_z
              have f15_y : gi S8x5_z 10 5 = gi S 10 5 := gi_sq eS8x5_z
              have f16_y : gi S8x5_z 178 2 = gi S 178 2 := gi_sq eS8x5_z
              refine ok_chk (by omega) ?_
              refine ok_lt (fun S10x5_z eS10x5_z => ?_)
              have h17_y : CX b S10x5_z := by rw [eS10x5_z]; exact cs_180 h14_y (by omega) (by omega)
              have f18_y : gi S10x5_z 178 2 = gi S8x5_z 178 2 := gi_ne eS10x5_z (by omega)
              have f19_y : gi S10x5_z 10 5 = gi S8x5_z 10 5 := gi_ne eS10x5_z (by omega)
              refine ok_chk (by omega) ?_
              refine ok_lt (fun S13x5_z eS13x5_z => ?_)
              have h20_y : CX b S13x5_z := by rw [eS13x5_z]; exact cs_178_2 h17_y (by omega) (by omega)
              have f21_y : gi S13x5_z 10 5 = gi S10x5_z 10 5 := gi_ne eS13x5_z (by omega)
              have f22_y : gi S13x5_z 178 2 = (gi S10x5_z 178 2) + 1 := gi_eq eS13x5_z
              unfold f_Setter_takeDone_101
              refine ok_chk (by omega) ?_
              exact ih S13x5_z (v3_ + 1) h20_y (by omega) (by omega)
        · unfold f_Setter_takeDone_101
          refine ok_chk (by omega) ?_
          exact ih S (v3_ + 1) hC (by omega) (by omega)
      · have b25_y := andi1 (shri v2 v3_)
        refine ok_if (fun c26_y => ?_) (fun c26_y => ?_)
        · unfold f_Setter_takeDone_35
          refine ok_b1 (ok_Pile_doneNumber S v3_ hC) (fun r1x27_z h28_y => ?_)
          refine ok_b1 (ok_Pile_find S r1x27_z hC) (fun o3x27_z h29_y => ?_)
          refine ok_if (fun c30_y => ?_) (fun c30_y => ?_)
          · refine ok_on (fun h31_y => ?_) (fun j5x27_z h31_y => ?_)
            · unfold f_Setter_takeDone_101
              refine ok_chk (by omega) ?_
              exact ih S (v3_ + 1) hC (by omega) (by omega)
            · have hj5x27_z : j5x27_z < 40 := h29_y j5x27_z h31_y
              refine ok_chk (by omega) ?_
              have b33_y := cx_178_2 hC
              refine ok_if (fun c34_y => ?_) (fun c34_y => ?_)
              · unfold f_Setter_takeDone_101
                refine ok_chk (by omega) ?_
                exact ih S (v3_ + 1) hC (by omega) (by omega)
              · refine ok_chk (by omega) ?_
                refine ok_lt (fun S8x27_z eS8x27_z => ?_)
                have h36_y : CX b S8x27_z := by rw [eS8x27_z]; exact cs_q179 hC hj5x27_z
                have f37_y : gi S8x27_z 178 2 = gi S 178 2 := gi_sq eS8x27_z
                have f38_y : gi S8x27_z 10 5 = gi S 10 5 := gi_sq eS8x27_z
                refine ok_chk (by omega) ?_
                refine ok_lt (fun S10x27_z eS10x27_z => ?_)
                have h39_y : CX b S10x27_z := by rw [eS10x27_z]; exact cs_180 h36_y (by omega) (by omega)
                have f40_y : gi S10x27_z 10 5 = gi S8x27_z 10 5 := gi_ne eS10x27_z (by omega)
                have f41_y : gi S10x27_z 178 2 = gi S8x27_z 178 2 := gi_ne eS10x27_z (by omega)
                refine ok_chk (by omega) ?_
                refine ok_lt (fun S13x27_z eS13x27_z => ?_)
                have h42_y : CX b S13x27_z := by rw [eS13x27_z]; exact cs_178_2 h39_y (by omega) (by omega)
                have f43_y : gi S13x27_z 178 2 = (gi S10x27_z 178 2) + 1 := gi_eq eS13x27_z
                have f44_y : gi S13x27_z 10 5 = gi S10x27_z 10 5 := gi_ne eS13x27_z (by omega)
                unfold f_Setter_takeDone_101
                refine ok_chk (by omega) ?_
                exact ih S13x27_z (v3_ + 1) h42_y (by omega) (by omega)
          · unfold f_Setter_takeDone_101
            refine ok_chk (by omega) ?_
            exact ih S (v3_ + 1) hC (by omega) (by omega)
        · unfold f_Setter_takeDone_34
          unfold f_Setter_takeDone_35
          refine ok_b1 (ok_Pile_doneNumber S v3_ hC) (fun r1x48_z h49_y => ?_)
          refine ok_b1 (ok_Pile_find S r1x48_z hC) (fun o3x48_z h50_y => ?_)
          refine ok_if (fun c51_y => ?_) (fun c51_y => ?_)
          · refine ok_on (fun h52_y => ?_) (fun j5x48_z h52_y => ?_)
            · unfold f_Setter_takeDone_101
              refine ok_chk (by omega) ?_
              exact ih S (v3_ + 1) hC (by omega) (by omega)
            · have hj5x48_z : j5x48_z < 40 := h50_y j5x48_z h52_y
              refine ok_chk (by omega) ?_
              have b54_y := cx_178_2 hC
              refine ok_if (fun c55_y => ?_) (fun c55_y => ?_)
              · unfold f_Setter_takeDone_101
                refine ok_chk (by omega) ?_
                exact ih S (v3_ + 1) hC (by omega) (by omega)
              · refine ok_chk (by omega) ?_
                refine ok_lt (fun S8x48_z eS8x48_z => ?_)
                have h57_y : CX b S8x48_z := by rw [eS8x48_z]; exact cs_q179 hC hj5x48_z
                have f58_y : gi S8x48_z 178 2 = gi S 178 2 := gi_sq eS8x48_z
                have f59_y : gi S8x48_z 10 5 = gi S 10 5 := gi_sq eS8x48_z
                refine ok_chk (by omega) ?_
                refine ok_lt (fun S10x48_z eS10x48_z => ?_)
                have h60_y : CX b S10x48_z := by rw [eS10x48_z]; exact cs_180 h57_y (by omega) (by omega)
                have f61_y : gi S10x48_z 178 2 = gi S8x48_z 178 2 := gi_ne eS10x48_z (by omega)
                have f62_y : gi S10x48_z 10 5 = gi S8x48_z 10 5 := gi_ne eS10x48_z (by omega)
                refine ok_chk (by omega) ?_
                refine ok_lt (fun S13x48_z eS13x48_z => ?_)
                have h63_y : CX b S13x48_z := by rw [eS13x48_z]; exact cs_178_2 h60_y (by omega) (by omega)
                have f64_y : gi S13x48_z 10 5 = gi S10x48_z 10 5 := gi_ne eS13x48_z (by omega)
                have f65_y : gi S13x48_z 178 2 = (gi S10x48_z 178 2) + 1 := gi_eq eS13x48_z
                unfold f_Setter_takeDone_101
                refine ok_chk (by omega) ?_
                exact ih S13x48_z (v3_ + 1) h63_y (by omega) (by omega)
          · unfold f_Setter_takeDone_101
            refine ok_chk (by omega) ?_
            exact ih S (v3_ + 1) hC (by omega) (by omega)
set_option maxHeartbeats 4000000 in
theorem ok_Setter_takeDone {b : Nat} (S : SS) (v2 : Int) (hC : CX b S) : okk (f_Setter_takeDone S v2) (fun S1 => CX b S1 ∧ (True)) := by
  unfold f_Setter_takeDone
  refine ok_lt (fun S1x1_z eS1x1_z => ?_)
  have h2_y : CX b S1x1_z := by rw [eS1x1_z]; exact cs_178_2 hC (by omega) (by omega)
  have f3_y : gi S1x1_z 178 2 = 0 := gi_eq eS1x1_z
  exact okl_Setter_takeDone_7 v2 FU S1x1_z 0 h2_y (by omega) (by unfold FU; omega)
set_option maxHeartbeats 4000000 in
theorem okl_Setter_setGap_2 (rk : SS → Int → Int → Int → Option SS) (v1 : Int) (v2 : Int) (D : Int) (hrk : ∀ (S : SS) (a b c : Int), CX 1 S → (-2 ≤ a ∧ a ≤ 1000 ∧ -2 ≤ b ∧ b ≤ 1000 ∧ 0 ≤ c ∧ c = D) → okk (rk S a b c) (fun S1 => CX 1 S1 ∧ True)) (hp0 : 0 ≤ v2 ∧ v2 + 1 = D ∧ D ≤ 1000) : ∀ (n : Nat) (S : SS) (v3_ : Int), CX 1 S → (0 ≤ v3_ ∧ v3_ ≤ 40) → 40 - v3_ < (n : Int) → okk (f_Setter_setGap_2 rk v1 v2 n S v3_) (fun S1 => CX 1 S1 ∧ (True)) := by
  intro n
  induction n with
  | zero => intro S v3_ hC hi hm; exfalso; omega
  | succ n ih =>
    intro S v3_ hC hi hm
    have hm : 40 - v3_ < (n : Int) + 1 := by omega
    show okk (f_Setter_setGap_2_b rk v1 v2 (f_Setter_setGap_2 rk v1 v2 n) S v3_) _
    unfold f_Setter_setGap_2_b
    have b1_y := cx_178_2 hC
    refine ok_if (fun c2_y => ?_) (fun c2_y => ?_)
    · exact ok_some ⟨hC, by trivial⟩
    · refine ok_b1 (ok_Setter_takenAt S v3_ hC) (fun o2_z h3_y => ?_)
      refine ok_on (fun h4_y => ?_) (fun j4_z h4_y => ?_)
      · unfold f_Setter_setGap_95
        refine ok_chk (by omega) ?_
        exact ih S (v3_ + 1) hC (by omega) (by omega)
      · have hj4_z : j4_z < 40 := h3_y j4_z h4_y
        refine ok_chk (by omega) ?_
        have b6_y := cx_mk_6 hC hj4_z
        refine ok_if (fun c7_y => ?_) (fun c7_y => ?_)
        · refine ok_b1 (ok_Setter_isOpen S v3_ hC) (fun r6_z h8_y => ?_)
          refine ok_if (fun c9_y => ?_) (fun c9_y => ?_)
          · have b10_y := cx_mk_2 hC hj4_z
            refine ok_if (fun c11_y => ?_) (fun c11_y => ?_)
            · refine ok_on (fun h => absurd h (cx_n hC).2) (fun q18_z h12_y => ?_)
              have hq18_z : shOk q18_z := (hC).2.2.2.1 _ _ h12_y
              refine ok_chk (by omega) ?_
              refine ok_b1 (ok_Sheet_addAll S q18_z (14 + 4 * j4_z + 2) hC hq18_z (show shOk (14 + 4 * j4_z + 2) by omega)) (fun S19_z h13_y => ?_)
              obtain ⟨h14_y, p15_y⟩ := h13_y
              unfold f_Setter_setGap_95
              refine ok_chk (by omega) ?_
              exact ih S19_z (v3_ + 1) h14_y (by omega) (by omega)
            · refine ok_b1 (ok_Setter_mind S v3_ 1 hC (by omega)) (fun S9_z h17_y => ?_)
              obtain ⟨h18_y, p19_y⟩ := h17_y
              refine ok_chk (by omega) ?_
              have b20_y := cx_mk_4 h18_y hj4_z
              have b21_y := cx_mk_5 h18_y hj4_z
              refine ok_b1 (hrk S9_z (gi S9_z (14 + 4 * j4_z) 4) (gi S9_z (14 + 4 * j4_z) 5) (v2 + 1) h18_y (by omega)) (fun S14_z h22_y => ?_)
              obtain ⟨h23_y, p24_y⟩ := h22_y
              refine ok_b1 (ok_Setter_mind S14_z v3_ 0 h23_y (by omega)) (fun S16_z h25_y => ?_)
              obtain ⟨h26_y, p27_y⟩ := h25_y
              unfold f_Setter_setGap_95
              refine ok_chk (by omega) ?_
              exact ih S16_z (v3_ + 1) h26_y (by omega) (by omega)
          · unfold f_Setter_setGap_95
            refine ok_chk (by omega) ?_
            exact ih S (v3_ + 1) hC (by omega) (by omega)
        · unfold f_Setter_setGap_95
          refine ok_chk (by omega) ?_
          exact ih S (v3_ + 1) hC (by omega) (by omega)
set_option maxHeartbeats 4000000 in
theorem ok_Setter_setGap (rk : SS → Int → Int → Int → Option SS) (S : SS) (v1 : Int) (v2 : Int) (D : Int) (hrk : ∀ (S : SS) (a b c : Int), CX 1 S → (-2 ≤ a ∧ a ≤ 1000 ∧ -2 ≤ b ∧ b ≤ 1000 ∧ 0 ≤ c ∧ c = D) → okk (rk S a b c) (fun S1 => CX 1 S1 ∧ True)) (hC : CX 1 S) (hp0 : 0 ≤ v2 ∧ v2 + 1 = D ∧ D ≤ 1000) : okk (f_Setter_setGap rk S v1 v2) (fun S1 => CX 1 S1 ∧ (True)) := by
  unfold f_Setter_setGap
  exact okl_Setter_setGap_2 rk v1 v2 D hrk (by omega) FU S 0 hC (by omega) (by unfold FU; omega)
set_option maxHeartbeats 4000000 in
theorem ok_Setter_setPiece (rk : SS → Int → Int → Int → Option SS) (S : SS) (v1 : Int) (v2 : Int) (D : Int) (hrk : ∀ (S : SS) (a b c : Int), CX 1 S → (-2 ≤ a ∧ a ≤ 1000 ∧ -2 ≤ b ∧ b ≤ 1000 ∧ 0 ≤ c ∧ c = D) → okk (rk S a b c) (fun S1 => CX 1 S1 ∧ True)) (hC : CX 1 S) (hp0 : 0 ≤ v2 ∧ v2 + 1 = D ∧ D ≤ 1000) (hp1 : -2 ≤ v1 ∧ v1 ≤ 1000) : okk (f_Setter_setPiece rk S v1 v2) (fun u => CX 1 u.2 ∧ (True)) := by
  unfold f_Setter_setPiece
  refine ok_b1 (ok_Setter_outermostAt S v1 hC) (fun r1x1_z h2_y => ?_)
  refine ok_b1 (ok_Setter_takenAt S r1x1_z hC) (fun o3x1_z h3_y => ?_)
  refine ok_on (fun h4_y => ?_) (fun j5x1_z h4_y => ?_)
  · refine ok_on (fun h => absurd h (cx_n hC).2) (fun q6x1_z h5_y => ?_)
    have hq6x1_z : shOk q6x1_z := (hC).2.2.2.1 _ _ h5_y
    refine ok_chk (by omega) ?_
    refine ok_on (fun h => absurd h (cx_n hC).1) (fun q7x1_z h6_y => ?_)
    have hq7x1_z : shOk q7x1_z := (hC).2.2.2.1 _ _ h6_y
    refine ok_chk (by omega) ?_
    refine ok_b1 (ok_Sheet_wordAt S q7x1_z v1 hC hq7x1_z) (fun w8x1_z h7_y => ?_)
    refine ok_b1 (ok_Sheet_add S q6x1_z w8x1_z hC hq6x1_z) (fun S10x1_z h8_y => ?_)
    obtain ⟨h9_y, p10_y⟩ := h8_y
    refine ok_chk (by omega) ?_
    exact ok_some ⟨h9_y, by trivial⟩
  · have hj5x1_z : j5x1_z < 40 := h3_y j5x1_z h4_y
    refine ok_chk (by omega) ?_
    have b11_y := cx_mk_2 hC hj5x1_z
    refine ok_if (fun c12_y => ?_) (fun c12_y => ?_)
    · refine ok_on (fun h => absurd h (cx_n hC).2) (fun q14x1_z h13_y => ?_)
      have hq14x1_z : shOk q14x1_z := (hC).2.2.2.1 _ _ h13_y
      refine ok_chk (by omega) ?_
      refine ok_b1 (ok_Sheet_addAll S q14x1_z (14 + 4 * j5x1_z + 2) hC hq14x1_z (show shOk (14 + 4 * j5x1_z + 2) by omega)) (fun S15x1_z h14_y => ?_)
      obtain ⟨h15_y, p16_y⟩ := h14_y
      unfold f_Setter_setPiece_58
      have b18_y := cx_mk_2 h15_y hj5x1_z
      refine ok_if (fun c19_y => ?_) (fun c19_y => ?_)
      · refine ok_b1 (ok_Setter_mind S15x1_z r1x1_z 1 h15_y (by omega)) (fun S4x17_z h20_y => ?_)
        obtain ⟨h21_y, p22_y⟩ := h20_y
        refine ok_b1 (ok_Mark_number S4x17_z j5x1_z 1 h21_y hj5x1_z) (fun r6x17_z h23_y => ?_)
        refine ok_chk (by omega) ?_
        have b24_y := cx_mk_5 h21_y hj5x1_z
        refine ok_b1 (hrk S4x17_z r6x17_z (gi S4x17_z (14 + 4 * j5x1_z) 5) (v2 + 1) h21_y (by omega)) (fun S10x17_z h25_y => ?_)
        obtain ⟨h26_y, p27_y⟩ := h25_y
        refine ok_b1 (ok_Mark_number S10x17_z j5x1_z 1 h26_y hj5x1_z) (fun r13x17_z h28_y => ?_)
        refine ok_chk (by omega) ?_
        refine ok_chk (by omega) ?_
        have b29_y := cx_mk_4 h26_y hj5x1_z
        refine ok_b1 (hrk S10x17_z (gi S10x17_z (14 + 4 * j5x1_z) 4) (r13x17_z - 1) (v2 + 1) h26_y (by omega)) (fun S17x17_z h30_y => ?_)
        obtain ⟨h31_y, p32_y⟩ := h30_y
        refine ok_b1 (ok_Setter_mind S17x17_z r1x1_z 0 h31_y (by omega)) (fun S19x17_z h33_y => ?_)
        obtain ⟨h34_y, p35_y⟩ := h33_y
        have b36_y := cx_mk_5 h34_y hj5x1_z
        refine ok_chk (by omega) ?_
        exact ok_some ⟨h34_y, by trivial⟩
      · have b37_y := cx_mk_5 h15_y hj5x1_z
        refine ok_chk (by omega) ?_
        exact ok_some ⟨h15_y, by trivial⟩
    · unfold f_Setter_setPiece_58
      refine ok_if (fun c39_y => ?_) (fun c39_y => ?_)
      · refine ok_b1 (ok_Setter_mind S r1x1_z 1 hC (by omega)) (fun S4x38_z h40_y => ?_)
        obtain ⟨h41_y, p42_y⟩ := h40_y
        refine ok_b1 (ok_Mark_number S4x38_z j5x1_z 1 h41_y hj5x1_z) (fun r6x38_z h43_y => ?_)
        refine ok_chk (by omega) ?_
        have b44_y := cx_mk_5 h41_y hj5x1_z
        refine ok_b1 (hrk S4x38_z r6x38_z (gi S4x38_z (14 + 4 * j5x1_z) 5) (v2 + 1) h41_y (by omega)) (fun S10x38_z h45_y => ?_)
        obtain ⟨h46_y, p47_y⟩ := h45_y
        refine ok_b1 (ok_Mark_number S10x38_z j5x1_z 1 h46_y hj5x1_z) (fun r13x38_z h48_y => ?_)
        refine ok_chk (by omega) ?_
        refine ok_chk (by omega) ?_
        have b49_y := cx_mk_4 h46_y hj5x1_z
        refine ok_b1 (hrk S10x38_z (gi S10x38_z (14 + 4 * j5x1_z) 4) (r13x38_z - 1) (v2 + 1) h46_y (by omega)) (fun S17x38_z h50_y => ?_)
        obtain ⟨h51_y, p52_y⟩ := h50_y
        refine ok_b1 (ok_Setter_mind S17x38_z r1x1_z 0 h51_y (by omega)) (fun S19x38_z h53_y => ?_)
        obtain ⟨h54_y, p55_y⟩ := h53_y
        have b56_y := cx_mk_5 h54_y hj5x1_z
        refine ok_chk (by omega) ?_
        exact ok_some ⟨h54_y, by trivial⟩
      · have b57_y := cx_mk_5 hC hj5x1_z
        refine ok_chk (by omega) ?_
        exact ok_some ⟨hC, by trivial⟩
set_option maxHeartbeats 4000000 in
theorem okl_Setter_setRowB_13 (rk : SS → Int → Int → Int → Option SS) (v1 : Int) (v2 : Int) (v3 : Int) (D : Int) (hrk : ∀ (S : SS) (a b c : Int), CX 1 S → (-2 ≤ a ∧ a ≤ 1000 ∧ -2 ≤ b ∧ b ≤ 1000 ∧ 0 ≤ c ∧ c = D) → okk (rk S a b c) (fun S1 => CX 1 S1 ∧ True)) (hp0 : 0 ≤ v3 ∧ (v3 ≤ 40 → v3 + 1 = D) ∧ D ≤ 1000) (hp1 : -2 ≤ v1 ∧ v1 ≤ 1000) (hp2 : -2 ≤ v2 ∧ v2 ≤ 1000) : ∀ (n : Nat) (S : SS) (v4_ : Int) (v5_ : Int), CX 1 S → (v3 ≤ 40 ∧ -2 ≤ v5_ ∧ v5_ ≤ 1001) → 1001 - v5_ < (n : Int) → okk (f_Setter_setRowB_13 rk v1 v2 v3 n S v4_ v5_) (fun S1 => CX 1 S1 ∧ (True)) := by
  intro n
  induction n with
  | zero => intro S v4_ v5_ hC hi hm; exfalso; omega
  | succ n ih =>
    intro S v4_ v5_ hC hi hm
    have hm : 1001 - v5_ < (n : Int) + 1 := by omega
    show okk (f_Setter_setRowB_13_b rk v1 v2 v3 (f_Setter_setRowB_13 rk v1 v2 v3 n) S v4_ v5_) _
    unfold f_Setter_setRowB_13_b
    refine ok_if (fun c1_y => ?_) (fun c1_y => ?_)
    · exact ok_some ⟨hC, by trivial⟩
    · refine ok_if (fun c2_y => ?_) (fun c2_y => ?_)
      · refine ok_if (fun c3_y => ?_) (fun c3_y => ?_)
        · unfold f_Setter_setRowB_42
          refine ok_b2 (ok_Setter_setPiece rk S v5_ v3 D hrk hC (by omega) (by omega)) (fun r2x4_z S1x4_z h5_y => ?_)
          obtain ⟨h6_y, p7_y⟩ := h5_y
          unfold f_Setter_setRowB_51
          refine ok_chk (by omega) ?_
          exact ih S1x4_z r2x4_z (v5_ + 1) h6_y (by omega) (by omega)
        · refine ok_b1 (ok_Setter_setGap rk S v5_ v3 D hrk hC (by omega)) (fun S1_z h9_y => ?_)
          obtain ⟨h10_y, p11_y⟩ := h9_y
          unfold f_Setter_setRowB_42
          refine ok_b2 (ok_Setter_setPiece rk S1_z v5_ v3 D hrk h10_y (by omega) (by omega)) (fun r2x12_z S1x12_z h13_y => ?_)
          obtain ⟨h14_y, p15_y⟩ := h13_y
          unfold f_Setter_setRowB_51
          refine ok_chk (by omega) ?_
          exact ih S1x12_z r2x12_z (v5_ + 1) h14_y (by omega) (by omega)
      · unfold f_Setter_setRowB_51
        refine ok_chk (by omega) ?_
        exact ih S v4_ (v5_ + 1) hC (by omega) (by omega)
set_option maxHeartbeats 4000000 in
theorem ok_Setter_setRowB (rk : SS → Int → Int → Int → Option SS) (S : SS) (v1 : Int) (v2 : Int) (v3 : Int) (D : Int) (hrk : ∀ (S : SS) (a b c : Int), CX 1 S → (-2 ≤ a ∧ a ≤ 1000 ∧ -2 ≤ b ∧ b ≤ 1000 ∧ 0 ≤ c ∧ c = D) → okk (rk S a b c) (fun S1 => CX 1 S1 ∧ True)) (hC : CX 1 S) (hp0 : 0 ≤ v3 ∧ (v3 ≤ 40 → v3 + 1 = D) ∧ D ≤ 1000) (hp1 : -2 ≤ v1 ∧ v1 ≤ 1000) (hp2 : -2 ≤ v2 ∧ v2 ≤ 1000) : okk (f_Setter_setRowB rk S v1 v2 v3) (fun S1 => CX 1 S1 ∧ (True)) := by
  unfold f_Setter_setRowB
  refine ok_if (fun c2_y => ?_) (fun c2_y => ?_)
  · exact okl_Setter_setRowB_13 rk v1 v2 v3 D hrk (by omega) (by omega) (by omega) FU S v1 v1 hC (by omega) (by unfold FU; omega)
  · exact ok_some ⟨hC, by trivial⟩
theorem ok_Setter_setRow : ∀ (n : Nat) (S : SS) (a b c : Int), CX 1 S → (-2 ≤ a ∧ a ≤ 1000 ∧ -2 ≤ b ∧ b ≤ 1000 ∧ 0 ≤ c ∧ c ≤ 41 ∧ 42 - c ≤ (n : Int)) → okk (f_Setter_setRow n S a b c) (fun S1 => CX 1 S1 ∧ True) := by
  intro n
  induction n with
  | zero => intro S a b c hC h; exfalso; omega
  | succ n ih =>
    intro S a b c hC h
    have h6 : 42 - c ≤ (n : Int) + 1 := by omega
    exact ok_Setter_setRowB (f_Setter_setRow n) S a b c (if c ≤ 40 then c + 1 else -1) (fun S a b c' hC h' => ih S a b c' hC (by split at h' <;> omega)) hC (by split <;> omega) (by omega) (by omega)
theorem ok_setRow43 (S : SS) (a b c : Int) (hC : CX 1 S) (h : -2 ≤ a ∧ a ≤ 1000 ∧ -2 ≤ b ∧ b ≤ 1000 ∧ 0 ≤ c ∧ c ≤ 1) : okk (f_Setter_setRow 43 S a b c) (fun S1 => CX 1 S1 ∧ True) := ok_Setter_setRow 43 S a b c hC (by omega)
theorem ok_Setter_make_44 (q1 q2 : Nat) (S : SS) (v3_ : Int) (hC : CX 1 S) : okk (f_Setter_make_44 q1 q2 S v3_) (fun S1 => CX 0 S1 ∧ True) := by
  unfold f_Setter_make_44
  refine ok_b1 (ok_Setter_setGap (f_Setter_setRow 43) S v3_ 0 1 (fun S a b c hC h => ok_setRow43 S a b c hC (by omega)) hC (by omega)) (fun S1 h1 => ?_)
  exact ok_some ⟨h1.1.weak, trivial⟩
theorem ok_Setter_make (S : SS) (q1 q2 : Nat) (hC : CX 0 S) (hq1 : shOk q1) (hq2 : shOk q2) : okk (f_Setter_make S q1 q2) (fun S1 => CX 0 S1 ∧ True) := by
  unfold f_Setter_make
  refine ok_lt (fun S1 e1 => ?_)
  have h1 : CX 0 S1 := by rw [e1]; exact cs_q178 hC hq1
  refine ok_lt (fun S2 e2 => ?_)
  have h2 : CX 0 S2 := by rw [e2]; exact cs_q178 h1 hq2
  have n3 : gq S2 178 3 ≠ none := by rw [e2, gq_sq, if_neg (by omega), e1, gq_sq, if_pos ⟨rfl, rfl⟩]; exact fun q => nomatch q
  have n4 : gq S2 178 4 ≠ none := by rw [e2, gq_sq, if_pos ⟨rfl, rfl⟩]; exact fun q => nomatch q
  have h2 : CX 1 S2 := h2.one n3 n4
  refine ok_on (fun h => absurd h n4) (fun q3 h3 => ?_)
  have hq3 : shOk q3 := h2.2.2.2.1 _ _ h3
  refine ok_chk hq3 ?_
  refine ok_lt (fun S4 e4 => ?_)
  have h4 : CX 1 S4 := by rw [e4]; exact cx_Sheet_clear h2 hq3
  refine ok_on (fun h => absurd h (cx_n h4).1) (fun q6 h6 => ?_)
  have hq6 : shOk q6 := h4.2.2.2.1 _ _ h6
  refine ok_chk hq6 ?_
  have b6 := cx_sh h4 hq6
  refine ok_if (fun _ => ok_Setter_make_44 q1 q2 S4 _ h4) (fun _ => ?_)
  refine ok_b1 (ok_Setter_setGap (f_Setter_setRow 43) S4 0 0 1 (fun S a b c hC h => ok_setRow43 S a b c hC (by omega)) h4 (by omega)) (fun S8 h8 => ?_)
  refine ok_chk (by omega) ?_
  refine ok_b1 (ok_setRow43 S8 0 _ 0 h8.1 (by omega)) (fun S11 h11 => ?_)
  exact ok_Setter_make_44 q1 q2 S11 _ h11.1
set_option maxHeartbeats 4000000 in
theorem ok_MP_settle (S : SS) (hC : CX 0 S) : okk (f_MP_settle S) (fun S1 => CX 0 S1 ∧ (True)) := by
  unfold f_MP_settle
  refine ok_b1 (ok_Pile_decide S hC) (fun S1x1_z h2_y => ?_)
  obtain ⟨h3_y, p4_y⟩ := h2_y
  refine ok_b1 (ok_Setter_takeDone S1x1_z 0 h3_y) (fun S3x1_z h5_y => ?_)
  obtain ⟨h6_y, p7_y⟩ := h5_y
  refine ok_b1 (ok_Setter_make S3x1_z 4 8 h6_y (show shOk 4 by decide) (show shOk 8 by decide)) (fun S5x1_z h8_y => ?_)
  obtain ⟨h9_y, p10_y⟩ := h8_y
  exact ok_some ⟨h9_y, by trivial⟩
set_option maxHeartbeats 4000000 in
theorem ok_MP_answer (S : SS) (v1 : Int) (v2 : Int) (hC : CX 0 S) : okk (f_MP_answer S v1 v2) (fun u => CX 0 u.2 ∧ (True)) := by
  unfold f_MP_answer
  refine ok_b1 (ok_Pile_find S v1 hC) (fun o1x1_z h2_y => ?_)
  refine ok_on (fun h3_y => ?_) (fun j3x1_z h3_y => ?_)
  · exact ok_some ⟨hC, by trivial⟩
  · have hj3x1_z : j3x1_z < 40 := h2_y j3x1_z h3_y
    refine ok_chk (by omega) ?_
    have b4_y := cx_mk_11 hC hj3x1_z
    refine ok_if (fun c5_y => ?_) (fun c5_y => ?_)
    · refine ok_lt (fun S5x1_z eS5x1_z => ?_)
      have h6_y : CX 0 S5x1_z := by rw [eS5x1_z]; exact cs_mk_7 hC hj3x1_z (by omega) (by omega)
      have f7_y : gi S5x1_z (14 + 4 * j3x1_z) 11 = gi S (14 + 4 * j3x1_z) 11 := gi_ne eS5x1_z (by omega)
      refine ok_if (fun c8_y => ?_) (fun c8_y => ?_)
      · unfold f_MP_answer_42
        refine ok_chk (by omega) ?_
        refine ok_lt (fun S2x9_z eS2x9_z => ?_)
        have h10_y : CX 0 S2x9_z := by rw [eS2x9_z]; exact cs_mk_8 h6_y hj3x1_z (by omega) (by omega)
        have f11_y : gi S2x9_z (14 + 4 * j3x1_z) 11 = gi S5x1_z (14 + 4 * j3x1_z) 11 := gi_ne eS2x9_z (by omega)
        refine ok_b1 (ok_MP_settle S2x9_z h10_y) (fun S3x9_z h12_y => ?_)
        obtain ⟨h13_y, p14_y⟩ := h12_y
        exact ok_some ⟨h13_y, by trivial⟩
      · unfold f_MP_answer_42
        refine ok_chk (by omega) ?_
        refine ok_lt (fun S2x15_z eS2x15_z => ?_)
        have h16_y : CX 0 S2x15_z := by rw [eS2x15_z]; exact cs_mk_8 h6_y hj3x1_z (by omega) (by omega)
        have f17_y : gi S2x15_z (14 + 4 * j3x1_z) 11 = gi S5x1_z (14 + 4 * j3x1_z) 11 := gi_ne eS2x15_z (by omega)
        refine ok_b1 (ok_MP_settle S2x15_z h16_y) (fun S3x15_z h18_y => ?_)
        obtain ⟨h19_y, p20_y⟩ := h18_y
        exact ok_some ⟨h19_y, by trivial⟩
    · exact ok_some ⟨hC, by trivial⟩
set_option maxHeartbeats 4000000 in
theorem ok_MP_rank (S : SS) (v1 : Int) (v2 : Int) (hC : CX 0 S) : okk (f_MP_rank S v1 v2) (fun u => CX 0 u.2 ∧ (True)) := by
  unfold f_MP_rank
  refine ok_if (fun c2_y => ?_) (fun c2_y => ?_)
  · exact ok_some ⟨hC, by trivial⟩
  · refine ok_if (fun c3_y => ?_) (fun c3_y => ?_)
    · exact ok_some ⟨hC, by trivial⟩
    · refine ok_if (fun c4_y => ?_) (fun c4_y => ?_)
      · exact ok_some ⟨hC, by trivial⟩
      · refine ok_if (fun c5_y => ?_) (fun c5_y => ?_)
        · refine ok_b1 (ok_Pile_rankOf S v1 hC) (fun r1x1_z h6_y => ?_)
          refine ok_chk (by omega) ?_
          refine ok_lt (fun S3x1_z eS3x1_z => ?_)
          have h7_y : CX 0 S3x1_z := by rw [eS3x1_z]; exact cs_12 hC (by omega) (by omega)
          refine ok_b1 (ok_MP_settle S3x1_z h7_y) (fun S4x1_z h8_y => ?_)
          obtain ⟨h9_y, p10_y⟩ := h8_y
          exact ok_some ⟨h9_y, by trivial⟩
        · exact ok_some ⟨hC, by trivial⟩
set_option maxHeartbeats 4000000 in
theorem ok_MP_next (S : SS) (hC : CX 0 S) : okk (f_MP_next S) (fun u => CX 0 u.2 ∧ (True)) := by
  unfold f_MP_next
  have b2_y := cx_sh hC (show shOk 6 by decide)
  refine ok_if (fun c3_y => ?_) (fun c3_y => ?_)
  · exact ok_some ⟨hC, by trivial⟩
  · refine ok_if (fun c4_y => ?_) (fun c4_y => ?_)
    · refine ok_b1 (ok_Sheet_copyFrom S 4 6 hC (show shOk 4 by decide) (show shOk 6 by decide)) (fun S3x1_z h5_y => ?_)
      obtain ⟨h6_y, p7_y⟩ := h5_y
      refine ok_lt (fun S5x1_z eS5x1_z => ?_)
      have h8_y : CX 0 S5x1_z := by rw [eS5x1_z]; exact cx_Sheet_clear h6_y (show shOk 6 by decide)
      refine ok_lt (fun S7x1_z eS7x1_z => ?_)
      have h9_y : CX 0 S7x1_z := by rw [eS7x1_z]; exact cx_Pile_clear h8_y
      refine ok_b1 (ok_MP_settle S7x1_z h9_y) (fun S9x1_z h10_y => ?_)
      obtain ⟨h11_y, p12_y⟩ := h10_y
      have b13_y := cx_sh h11_y (show shOk 4 by decide)
      exact ok_some ⟨h11_y, by trivial⟩
    · exact ok_some ⟨hC, by trivial⟩
set_option maxHeartbeats 4000000 in
theorem okl_Holding_listMissed_7 {b : Nat} : ∀ (n : Nat) (S : SS) (v2_ : Int), CX b S → (0 ≤ v2_ ∧ v2_ ≤ 8) → 8 - v2_ < (n : Int) → okk (f_Holding_listMissed_7 n S v2_) (fun S1 => CX b S1 ∧ (True)) := by
  intro n
  induction n with
  | zero => intro S v2_ hC hi hm; exfalso; omega
  | succ n ih =>
    intro S v2_ hC hi hm
    have hm : 8 - v2_ < (n : Int) + 1 := by omega
    show okk (f_Holding_listMissed_7_b (f_Holding_listMissed_7 n) S v2_) _
    unfold f_Holding_listMissed_7_b
    refine ok_if (fun c1_y => ?_) (fun c1_y => ?_)
    · exact ok_some ⟨hC, by trivial⟩
    · have b2_y := cx_183_8 hC
      have b3_y := andi1 (shri (gi S 183 8) v2_)
      refine ok_if (fun c4_y => ?_) (fun c4_y => ?_)
      · have b5_y := cx_183_9 hC
        refine ok_if (fun c6_y => ?_) (fun c6_y => ?_)
        · unfold f_Holding_listMissed_61
          refine ok_chk (by omega) ?_
          exact ih S (v2_ + 1) hC (by omega) (by omega)
        · refine ok_b1 (ok_Pile_doneNumber S v2_ hC) (fun r6_z h8_y => ?_)
          refine ok_chk (by omega) ?_
          refine ok_lt (fun S8_z eS8_z => ?_)
          have h9_y : CX b S8_z := by rw [eS8_z]; exact cs_186 hC (by omega) (by omega)
          have f10_y : gi S8_z 183 8 = gi S 183 8 := gi_ne eS8_z (by omega)
          have f11_y : gi S8_z 183 9 = gi S 183 9 := gi_ne eS8_z (by omega)
          refine ok_chk (by omega) ?_
          refine ok_lt (fun S11_z eS11_z => ?_)
          have h12_y : CX b S11_z := by rw [eS11_z]; exact cs_183_9 h9_y (by omega) (by omega)
          have f13_y : gi S11_z 183 8 = gi S8_z 183 8 := gi_ne eS11_z (by omega)
          have f14_y : gi S11_z 183 9 = (gi S8_z 183 9) + 1 := gi_eq eS11_z
          unfold f_Holding_listMissed_61
          refine ok_chk (by omega) ?_
          exact ih S11_z (v2_ + 1) h12_y (by omega) (by omega)
      · unfold f_Holding_listMissed_61
        refine ok_chk (by omega) ?_
        exact ih S (v2_ + 1) hC (by omega) (by omega)
set_option maxHeartbeats 4000000 in
theorem ok_Holding_listMissed {b : Nat} (S : SS) (hC : CX b S) : okk (f_Holding_listMissed S) (fun S1 => CX b S1 ∧ (True)) := by
  unfold f_Holding_listMissed
  refine ok_lt (fun S1x1_z eS1x1_z => ?_)
  have h2_y : CX b S1x1_z := by rw [eS1x1_z]; exact cs_183_9 hC (by omega) (by omega)
  have f3_y : gi S1x1_z 183 9 = 0 := gi_eq eS1x1_z
  exact okl_Holding_listMissed_7  FU S1x1_z 0 h2_y (by omega) (by unfold FU; omega)
set_option maxHeartbeats 4000000 in
theorem ok_Holding_note {b : Nat} (S : SS) (v1 : Int) (v2 : Int) (v3 : Int) (hC : CX b S) (hp0 : i32 v1) (hp1 : i32 v2) (hp2 : i32 v3) : okk (f_Holding_note S v1 v2 v3) (fun S1 => CX b S1 ∧ (True)) := by
  unfold f_Holding_note
  have b2_y := cx_183_11 hC
  refine ok_if (fun c3_y => ?_) (fun c3_y => ?_)
  · exact ok_some ⟨hC, by trivial⟩
  · refine ok_if (fun c4_y => ?_) (fun c4_y => ?_)
    · exact ok_some ⟨hC, by trivial⟩
    · refine ok_chk (by omega) ?_
      refine ok_lt (fun S4x1_z eS4x1_z => ?_)
      have h5_y : CX b S4x1_z := by rw [eS4x1_z]; exact cs_187 hC (by omega) (by omega)
      have f6_y : gi S4x1_z 183 11 = gi S 183 11 := gi_ne eS4x1_z (by omega)
      refine ok_chk (by omega) ?_
      refine ok_lt (fun S6x1_z eS6x1_z => ?_)
      have h7_y : CX b S6x1_z := by rw [eS6x1_z]; exact cs_188 h5_y (by omega) (by omega)
      have f8_y : gi S6x1_z 183 11 = gi S4x1_z 183 11 := gi_ne eS6x1_z (by omega)
      refine ok_chk (by omega) ?_
      refine ok_lt (fun S8x1_z eS8x1_z => ?_)
      have h9_y : CX b S8x1_z := by rw [eS8x1_z]; exact cs_189 h7_y (by omega) (by omega)
      have f10_y : gi S8x1_z 183 11 = gi S6x1_z 183 11 := gi_ne eS8x1_z (by omega)
      refine ok_chk (by omega) ?_
      refine ok_lt (fun S11x1_z eS11x1_z => ?_)
      have h11_y : CX b S11x1_z := by rw [eS11x1_z]; exact cs_183_11 h9_y (by omega) (by omega)
      have f12_y : gi S11x1_z 183 11 = (gi S8x1_z 183 11) + 1 := gi_eq eS11x1_z
      exact ok_some ⟨h11_y, by trivial⟩
set_option maxHeartbeats 4000000 in
theorem ok_Holding_tellMissed {b : Nat} (S : SS) (v1 : Int) (hC : CX b S) (hp0 : i32 v1) : okk (f_Holding_tellMissed S v1) (fun r => True) := by
  unfold f_Holding_tellMissed
  refine ok_if (fun c2_y => ?_) (fun c2_y => ?_)
  · refine ok_chk (by omega) ?_
    have b3_y := cx_183_9 hC
    refine ok_if (fun c4_y => ?_) (fun c4_y => ?_)
    · exact ok_some (by trivial)
    · refine ok_if (fun c5_y => ?_) (fun c5_y => ?_)
      · refine ok_chk (by omega) ?_
        have b6_y := cx_186 hC (v1 - 10).toNat
        exact ok_some (by trivial)
      · exact ok_some (by trivial)
  · exact ok_some (by trivial)
set_option maxHeartbeats 4000000 in
theorem ok_Holding_tell {b : Nat} (S : SS) (v1 : Int) (hC : CX b S) (hp0 : i32 v1) : okk (f_Holding_tell S v1) (fun r => True) := by
  unfold f_Holding_tell
  have b2_y := cx_183_7 hC
  refine ok_if (fun c3_y => ?_) (fun c3_y => ?_)
  · exact ok_some (by trivial)
  · refine ok_if (fun c4_y => ?_) (fun c4_y => ?_)
    · have b5_y := cx_183_8 hC
      exact ok_some (by trivial)
    · refine ok_if (fun c6_y => ?_) (fun c6_y => ?_)
      · have b7_y := cx_183_9 hC
        exact ok_some (by trivial)
      · refine ok_if (fun c8_y => ?_) (fun c8_y => ?_)
        · have b9_y := cx_183_10 hC
          exact ok_some (by trivial)
        · refine ok_b1 (ok_Holding_tellMissed S v1 hC (by omega)) (fun r8x1_z h10_y => ?_)
          exact ok_some (by trivial)
set_option maxHeartbeats 4000000 in
theorem ok_Holding_tellChange {b : Nat} (S : SS) (v1 : Int) (v2 : Int) (hC : CX b S) : okk (f_Holding_tellChange S v1 v2) (fun r => True) := by
  unfold f_Holding_tellChange
  refine ok_if (fun c2_y => ?_) (fun c2_y => ?_)
  · exact ok_some (by trivial)
  · have b3_y := cx_183_11 hC
    refine ok_if (fun c4_y => ?_) (fun c4_y => ?_)
    · exact ok_some (by trivial)
    · refine ok_if (fun c5_y => ?_) (fun c5_y => ?_)
      · refine ok_if (fun c6_y => ?_) (fun c6_y => ?_)
        · refine ok_chk (by omega) ?_
          have b7_y := cx_187 hC (v1).toNat
          exact ok_some (by trivial)
        · refine ok_if (fun c8_y => ?_) (fun c8_y => ?_)
          · refine ok_chk (by omega) ?_
            have b9_y := cx_188 hC (v1).toNat
            exact ok_some (by trivial)
          · refine ok_if (fun c10_y => ?_) (fun c10_y => ?_)
            · refine ok_chk (by omega) ?_
              have b11_y := cx_189 hC (v1).toNat
              exact ok_some (by trivial)
            · exact ok_some (by trivial)
      · exact ok_some (by trivial)
theorem so_rng {S : SS} {v : Int} {q : Nat} (h : f_MP_sheetOf S v = some q) : shOk q := by
  unfold f_MP_sheetOf at h
  split at h
  · cases h; decide
  · split at h
    · cases h; decide
    · split at h
      · cases h; decide
      · cases h
set_option maxHeartbeats 4000000 in
theorem ok_MP_sizeOf {b : Nat} (S : SS) (v1 : Int) (hC : CX b S) : okk (f_MP_sizeOf S v1) (fun r => True) := by
  unfold f_MP_sizeOf
  refine ok_lt (fun o1x1_z eo1x1_z => ?_)
  refine ok_on (fun h2_y => ?_) (fun q3x1_z h2_y => ?_)
  · exact ok_some (by trivial)
  · have hq3x1_z : shOk q3x1_z := so_rng (by rw [← eo1x1_z]; exact h2_y)
    refine ok_chk (by omega) ?_
    have b3_y := cx_sh hC hq3x1_z
    exact ok_some (by trivial)
set_option maxHeartbeats 4000000 in
theorem ok_MP_feed {b : Nat} (S : SS) (v1 : Int) (v2 : Int) (v3 : Int) (v4 : Int) (v5 : Int) (hC : CX b S) (hp0 : i32 v1) (hp1 : i32 v2) (hp2 : i32 v3) (hp3 : i32 v4) (hp4 : i32 v5) : okk (f_MP_feed S v1 v2 v3 v4 v5) (fun u => CX b u.2 ∧ (True)) := by
  unfold f_MP_feed
  have b2_y := cx_1_1 hC
  refine ok_chk (by omega) ?_
  refine ok_if (fun c3_y => ?_) (fun c3_y => ?_)
  · refine ok_b1 (ok_Tape_addFour S v1 hC (by omega)) (fun S3x1_z h4_y => ?_)
    obtain ⟨h5_y, p6_y⟩ := h4_y
    refine ok_b1 (ok_Tape_addFour S3x1_z v2 h5_y (by omega)) (fun S5x1_z h7_y => ?_)
    obtain ⟨h8_y, p9_y⟩ := h7_y
    refine ok_b1 (ok_Tape_addFour S5x1_z v3 h8_y (by omega)) (fun S7x1_z h10_y => ?_)
    obtain ⟨h11_y, p12_y⟩ := h10_y
    refine ok_b1 (ok_Tape_addFour S7x1_z v4 h11_y (by omega)) (fun S9x1_z h13_y => ?_)
    obtain ⟨h14_y, p15_y⟩ := h13_y
    refine ok_b1 (ok_Tape_addFour S9x1_z v5 h14_y (by omega)) (fun S11x1_z h16_y => ?_)
    obtain ⟨h17_y, p18_y⟩ := h16_y
    have b19_y := cx_1_1 h17_y
    exact ok_some ⟨h17_y, by trivial⟩
  · exact ok_some ⟨hC, by trivial⟩
set_option maxHeartbeats 4000000 in
theorem ok_MP_end {b : Nat} (S : SS) (v1 : Int) (hC : CX b S) : okk (f_MP_end S v1) (fun u => CX b u.2 ∧ (True)) := by
  unfold f_MP_end
  refine ok_if (fun c2_y => ?_) (fun c2_y => ?_)
  · exact ok_some ⟨hC, by trivial⟩
  · have b3_y := cx_1_1 hC
    refine ok_if (fun c4_y => ?_) (fun c4_y => ?_)
    · refine ok_lt (fun S2x1_z eS2x1_z => ?_)
      have h5_y : CX b S2x1_z := by rw [eS2x1_z]; exact cs_1_1 hC (by omega) (by omega)
      have f6_y : gi S2x1_z 1 1 = v1 := gi_eq eS2x1_z
      exact ok_some ⟨h5_y, by trivial⟩
    · exact ok_some ⟨hC, by trivial⟩
set_option maxHeartbeats 4000000 in
theorem ok_MP_word {b : Nat} (S : SS) (v1 : Int) (v2 : Int) (hC : CX b S) : okk (f_MP_word S v1 v2) (fun r => True) := by
  unfold f_MP_word
  refine ok_lt (fun o1x1_z eo1x1_z => ?_)
  refine ok_on (fun h2_y => ?_) (fun q3x1_z h2_y => ?_)
  · exact ok_some (by trivial)
  · have hq3x1_z : shOk q3x1_z := so_rng (by rw [← eo1x1_z]; exact h2_y)
    refine ok_chk (by omega) ?_
    refine ok_b1 (ok_Sheet_wordAt S q3x1_z v2 hC hq3x1_z) (fun w4x1_z h3_y => ?_)
    exact ok_some (by trivial)
set_option maxHeartbeats 4000000 in
theorem ok_MP_mark {b : Nat} (S : SS) (v1 : Int) (v2 : Int) (hC : CX b S) (hp0 : i32 v2) : okk (f_MP_mark S v1 v2) (fun r => True) := by
  unfold f_MP_mark
  refine ok_b1 (ok_Pile_find S v1 hC) (fun o1x1_z h2_y => ?_)
  refine ok_on (fun h3_y => ?_) (fun j3x1_z h3_y => ?_)
  · exact ok_some (by trivial)
  · have hj3x1_z : j3x1_z < 40 := h2_y j3x1_z h3_y
    refine ok_chk (by omega) ?_
    refine ok_if (fun c4_y => ?_) (fun c4_y => ?_)
    · refine ok_chk (by omega) ?_
      refine ok_b1 (ok_Mark_tellWord S j3x1_z (v2 - 10) hC hj3x1_z) (fun r5x1_z h5_y => ?_)
      exact ok_some (by trivial)
    · refine ok_b1 (ok_Mark_tell S j3x1_z v2 hC hj3x1_z) (fun r7x1_z h6_y => ?_)
      exact ok_some (by trivial)
set_option maxHeartbeats 4000000 in
theorem ok_MP_meet {b : Nat} (S : SS) (v1 : Int) (v2 : Int) (hC : CX b S) : okk (f_MP_meet S v1 v2) (fun r => True) := by
  unfold f_MP_meet
  refine ok_b1 (ok_Pile_findNoStet S v1 hC) (fun o1x1_z h2_y => ?_)
  refine ok_b1 (ok_Pile_findNoStet S v2 hC) (fun o3x1_z h3_y => ?_)
  refine ok_on (fun h4_y => ?_) (fun j5x1_z h4_y => ?_)
  · exact ok_some (by trivial)
  · have hj5x1_z : j5x1_z < 40 := h2_y j5x1_z h4_y
    refine ok_chk (by omega) ?_
    refine ok_on (fun h5_y => ?_) (fun j6x1_z h5_y => ?_)
    · exact ok_some (by trivial)
    · have hj6x1_z : j6x1_z < 40 := h3_y j6x1_z h5_y
      refine ok_chk (by omega) ?_
      refine ok_if (fun c6_y => ?_) (fun c6_y => ?_)
      · exact ok_some (by trivial)
      · refine ok_b1 (ok_Mark_meets S j5x1_z j6x1_z hC hj5x1_z hj6x1_z) (fun r7x1_z h7_y => ?_)
        refine ok_if (fun c8_y => ?_) (fun c8_y => ?_)
        · exact ok_some (by trivial)
        · exact ok_some (by trivial)
set_option maxHeartbeats 4000000 in
theorem ok_MP_within {b : Nat} (S : SS) (v1 : Int) (v2 : Int) (hC : CX b S) : okk (f_MP_within S v1 v2) (fun r => True) := by
  unfold f_MP_within
  refine ok_b1 (ok_Pile_findNoStet S v1 hC) (fun o1x1_z h2_y => ?_)
  refine ok_b1 (ok_Pile_findNoStet S v2 hC) (fun o3x1_z h3_y => ?_)
  refine ok_on (fun h4_y => ?_) (fun j5x1_z h4_y => ?_)
  · exact ok_some (by trivial)
  · have hj5x1_z : j5x1_z < 40 := h2_y j5x1_z h4_y
    refine ok_chk (by omega) ?_
    refine ok_on (fun h5_y => ?_) (fun j6x1_z h5_y => ?_)
    · exact ok_some (by trivial)
    · have hj6x1_z : j6x1_z < 40 := h3_y j6x1_z h5_y
      refine ok_chk (by omega) ?_
      refine ok_if (fun c6_y => ?_) (fun c6_y => ?_)
      · exact ok_some (by trivial)
      · refine ok_b1 (ok_Mark_isWithin S j5x1_z j6x1_z hC hj5x1_z hj6x1_z) (fun r7x1_z h7_y => ?_)
        refine ok_if (fun c8_y => ?_) (fun c8_y => ?_)
        · exact ok_some (by trivial)
        · exact ok_some (by trivial)
set_option maxHeartbeats 4000000 in
theorem ok_MP_costs {b : Nat} (S : SS) (v1 : Int) (v2 : Int) (hC : CX b S) : okk (f_MP_costs S v1 v2) (fun u => CX b u.2 ∧ (True)) := by
  unfold f_MP_costs
  refine ok_if (fun c2_y => ?_) (fun c2_y => ?_)
  · exact ok_some ⟨hC, by trivial⟩
  · refine ok_if (fun c3_y => ?_) (fun c3_y => ?_)
    · exact ok_some ⟨hC, by trivial⟩
    · refine ok_if (fun c4_y => ?_) (fun c4_y => ?_)
      · exact ok_some ⟨hC, by trivial⟩
      · refine ok_if (fun c5_y => ?_) (fun c5_y => ?_)
        · refine ok_lt (fun S1x1_z eS1x1_z => ?_)
          have h6_y : CX b S1x1_z := by rw [eS1x1_z]; exact cs_183_5 hC (by omega) (by omega)
          have f7_y : gi S1x1_z 183 5 = v1 := gi_eq eS1x1_z
          refine ok_lt (fun S2x1_z eS2x1_z => ?_)
          have h8_y : CX b S2x1_z := by rw [eS2x1_z]; exact cs_183_6 h6_y (by omega) (by omega)
          have f9_y : gi S2x1_z 183 6 = v2 := gi_eq eS2x1_z
          have f10_y : gi S2x1_z 183 5 = gi S1x1_z 183 5 := gi_ne eS2x1_z (by omega)
          exact ok_some ⟨h8_y, by trivial⟩
        · exact ok_some ⟨hC, by trivial⟩
set_option maxHeartbeats 4000000 in
theorem ok_MP_held {b : Nat} (S : SS) (v1 : Int) (hC : CX b S) (hp0 : i32 v1) : okk (f_MP_held S v1) (fun r => True) := by
  unfold f_MP_held
  refine ok_b1 (ok_Holding_tell S v1 hC (by omega)) (fun r1x1_z h2_y => ?_)
  exact ok_some (by trivial)
set_option maxHeartbeats 4000000 in
theorem ok_MP_unasked {b : Nat} (S : SS) (v1 : Int) (v2 : Int) (hC : CX b S) : okk (f_MP_unasked S v1 v2) (fun r => True) := by
  unfold f_MP_unasked
  refine ok_b1 (ok_Holding_tellChange S v1 v2 hC) (fun r1x1_z h2_y => ?_)
  exact ok_some (by trivial)
set_option maxHeartbeats 4000000 in
theorem ok_MP_error {b : Nat} (S : SS) (v1 : Int) (v2 : Int) (hC : CX b S) (hp0 : v2 = 0 ∨ v2 = 1) : okk (f_MP_error S v1 v2) (fun u => CX b u.2 ∧ (True)) := by
  unfold f_MP_error
  refine ok_b1 (ok_Pile_findNoStet S v1 hC) (fun o1x1_z h2_y => ?_)
  refine ok_on (fun h3_y => ?_) (fun j3x1_z h3_y => ?_)
  · exact ok_some ⟨hC, by trivial⟩
  · have hj3x1_z : j3x1_z < 40 := h2_y j3x1_z h3_y
    refine ok_chk (by omega) ?_
    refine ok_chk (by omega) ?_
    refine ok_lt (fun S6x1_z eS6x1_z => ?_)
    have h4_y : CX b S6x1_z := by rw [eS6x1_z]; exact cs_mk_9 hC hj3x1_z (by omega) (by omega)
    have b5_y := cx_mk_9 hC hj3x1_z
    refine ok_if (fun c6_y => ?_) (fun c6_y => ?_)
    · exact ok_some ⟨h4_y, by trivial⟩
    · exact ok_some ⟨h4_y, by trivial⟩
set_option maxHeartbeats 4000000 in
theorem ok_MP_price {b : Nat} (S : SS) (v1 : Int) (v2 : Int) (hC : CX b S) : okk (f_MP_price S v1 v2) (fun u => CX b u.2 ∧ (True)) := by
  unfold f_MP_price
  refine ok_if (fun c2_y => ?_) (fun c2_y => ?_)
  · exact ok_some ⟨hC, by trivial⟩
  · refine ok_if (fun c3_y => ?_) (fun c3_y => ?_)
    · exact ok_some ⟨hC, by trivial⟩
    · refine ok_if (fun c4_y => ?_) (fun c4_y => ?_)
      · exact ok_some ⟨hC, by trivial⟩
      · refine ok_if (fun c5_y => ?_) (fun c5_y => ?_)
        · refine ok_b2 (ok_Bill_setPrice S v1 v2 hC (by omega)) (fun r2x1_z S1x1_z h6_y => ?_)
          obtain ⟨h7_y, p8_y⟩ := h6_y
          exact ok_some ⟨h7_y, by trivial⟩
        · exact ok_some ⟨hC, by trivial⟩
set_option maxHeartbeats 4000000 in
theorem ok_MP_pays {b : Nat} (S : SS) (v1 : Int) (hC : CX b S) : okk (f_MP_pays S v1) (fun r => True) := by
  unfold f_MP_pays
  refine ok_if (fun c2_y => ?_) (fun c2_y => ?_)
  · unfold f_MP_pays_12
    refine ok_if (fun c4_y => ?_) (fun c4_y => ?_)
    · unfold f_MP_pays_30
      refine ok_b1 (ok_Bill_sum S 1 hC) (fun r1x5_z h6_y => ?_)
      exact ok_some (by trivial)
    · unfold f_MP_pays_30
      refine ok_b1 (ok_Bill_sum S 0 hC) (fun r1x7_z h8_y => ?_)
      exact ok_some (by trivial)
  · refine ok_if (fun c9_y => ?_) (fun c9_y => ?_)
    · unfold f_MP_pays_12
      refine ok_if (fun c11_y => ?_) (fun c11_y => ?_)
      · unfold f_MP_pays_30
        refine ok_b1 (ok_Bill_sum S 1 hC) (fun r1x12_z h13_y => ?_)
        exact ok_some (by trivial)
      · unfold f_MP_pays_30
        refine ok_b1 (ok_Bill_sum S 0 hC) (fun r1x14_z h15_y => ?_)
        exact ok_some (by trivial)
    · exact ok_some (by trivial)
set_option maxHeartbeats 4000000 in
theorem ok_MP_count {b : Nat} (S : SS) (v1 : Int) (hC : CX b S) : okk (f_MP_count S v1) (fun r => True) := by
  unfold f_MP_count
  refine ok_if (fun c2_y => ?_) (fun c2_y => ?_)
  · refine ok_b1 (ok_MP_sizeOf S v1 hC) (fun r2x1_z h3_y => ?_)
    exact ok_some (by trivial)
  · refine ok_if (fun c4_y => ?_) (fun c4_y => ?_)
    · refine ok_b1 (ok_MP_sizeOf S v1 hC) (fun r5x1_z h5_y => ?_)
      exact ok_some (by trivial)
    · refine ok_if (fun c6_y => ?_) (fun c6_y => ?_)
      · refine ok_b1 (ok_MP_sizeOf S v1 hC) (fun r8x1_z h7_y => ?_)
        exact ok_some (by trivial)
      · refine ok_if (fun c8_y => ?_) (fun c8_y => ?_)
        · have b9_y := cx_10_3 hC
          exact ok_some (by trivial)
        · refine ok_if (fun c10_y => ?_) (fun c10_y => ?_)
          · refine ok_b1 (ok_Pile_tally S 0 hC) (fun r13x1_z h11_y => ?_)
            refine ok_b1 (ok_Pile_tally S 1 hC) (fun r15x1_z h12_y => ?_)
            refine ok_chk (by omega) ?_
            exact ok_some (by trivial)
          · refine ok_if (fun c13_y => ?_) (fun c13_y => ?_)
            · refine ok_b1 (ok_Pile_tally S 0 hC) (fun r19x1_z h14_y => ?_)
              exact ok_some (by trivial)
            · refine ok_if (fun c15_y => ?_) (fun c15_y => ?_)
              · refine ok_b1 (ok_Pile_tally S 1 hC) (fun r22x1_z h16_y => ?_)
                exact ok_some (by trivial)
              · refine ok_if (fun c17_y => ?_) (fun c17_y => ?_)
                · refine ok_b1 (ok_Pile_tally S 2 hC) (fun r25x1_z h18_y => ?_)
                  exact ok_some (by trivial)
                · refine ok_if (fun c19_y => ?_) (fun c19_y => ?_)
                  · refine ok_b1 (ok_Pile_tally S 3 hC) (fun r28x1_z h20_y => ?_)
                    exact ok_some (by trivial)
                  · refine ok_if (fun c21_y => ?_) (fun c21_y => ?_)
                    · have b22_y := cx_1_1 hC
                      exact ok_some (by trivial)
                    · refine ok_if (fun c23_y => ?_) (fun c23_y => ?_)
                      · refine ok_chk (by omega) ?_
                        refine ok_b1 (ok_Pile_rankOf S (v1 - 10) hC) (fun r34x1_z h24_y => ?_)
                        exact ok_some (by trivial)
                      · refine ok_if (fun c25_y => ?_) (fun c25_y => ?_)
                        · refine ok_chk (by omega) ?_
                          refine ok_b1 (ok_Pile_rankOf S (v1 - 10) hC) (fun r38x1_z h26_y => ?_)
                          exact ok_some (by trivial)
                        · refine ok_if (fun c27_y => ?_) (fun c27_y => ?_)
                          · refine ok_chk (by omega) ?_
                            refine ok_b1 (ok_Pile_rankOf S (v1 - 10) hC) (fun r42x1_z h28_y => ?_)
                            exact ok_some (by trivial)
                          · exact ok_some (by trivial)
