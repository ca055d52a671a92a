theorem okl_lay {b : Nat} (v1 t : Int) (ht : t ≤ 2000) : ∀ (n : Nat) (S : SS) (v2_ : Int), MX b S → (-8 ≤ v2_ ∧ v2_ ≤ 24 ∧ 8 * gi S 192 8 + v2_ + 8 ≤ 8 * t) → v2_ + 8 < (n : Int) → okk (f_M_lay_3 v1 n S v2_) (fun S1 => MX b S1 ∧ gi S1 192 8 ≤ t) := by
  intro n
  induction n with
  | zero => intro S v2_ hC hi hm; exfalso; omega
  | succ n ih =>
    intro S v2_ hC hi hm
    have hm : v2_ + 8 < (n : Int) + 1 := by omega
    show okk (f_M_lay_3_b v1 (f_M_lay_3 v1 n) S v2_) _
    unfold f_M_lay_3_b
    have b8 := mx_192_8 hC
    refine ok_if (fun _ => ok_some ⟨hC, by omega⟩) (fun c1 => ok_chk (by omega) (ok_lt (fun S4 e4 => ?_)))
    have tr := tob_rng (tob (shri v1 v2_))
    have h4 : MX b S4 := by rw [e4]; exact ms_197 hC (by omega) (by omega)
    have f4 : gi S4 192 8 = gi S 192 8 := gi_ne e4 (by omega)
    refine ok_chk (by omega) (ok_lt (fun S7 e7 => ok_chk (by omega) ?_))
    have h7 : MX b S7 := by rw [e7]; exact ms_192_8 h4 (by omega) (by omega)
    have f7 : gi S7 192 8 = gi S4 192 8 + 1 := gi_eq e7
    exact ih S7 _ h7 (by omega) (by omega)
theorem ok_M_lay {b : Nat} (S : SS) (v1 t : Int) (hC : MX b S) (ht : t ≤ 2000) (h : gi S 192 8 + 4 ≤ t) : okk (f_M_lay S v1) (fun S1 => MX b S1 ∧ gi S1 192 8 ≤ t) := by
  unfold f_M_lay
  exact okl_lay v1 t ht FU S 24 hC (by omega) (by unfold FU; omega)
theorem ok_M_feed {b : Nat} (S : SS) (v1 v2 v3 v4 v5 : Int) (hC : MX b S) : okk (f_M_feed S v1 v2 v3 v4 v5) (fun u => MX b u.2 ∧ True) := by
  unfold f_M_feed
  have b8 := mx_192_8 hC
  refine ok_chk (by omega) (ok_if (fun c1 => ?_) (fun _ => ok_some ⟨hC, trivial⟩))
  refine ok_b1 (ok_M_lay S v1 (gi S 192 8 + 4) hC (by omega) (by omega)) (fun S3 h3 => ?_)
  refine ok_b1 (ok_M_lay S3 v2 (gi S 192 8 + 8) h3.1 (by omega) (by have := h3.2; omega)) (fun S5 h5 => ?_)
  refine ok_b1 (ok_M_lay S5 v3 (gi S 192 8 + 12) h5.1 (by omega) (by have := h5.2; omega)) (fun S7 h7 => ?_)
  refine ok_b1 (ok_M_lay S7 v4 (gi S 192 8 + 16) h7.1 (by omega) (by have := h7.2; omega)) (fun S9 h9 => ?_)
  refine ok_b1 (ok_M_lay S9 v5 (gi S 192 8 + 20) h9.1 (by omega) (by have := h9.2; omega)) (fun S11 h11 => ?_)
  exact ok_some ⟨h11.1, trivial⟩
set_option maxHeartbeats 4000000 in
theorem ok_M_isText {b : Nat} (S : SS) (v0 : Int) (hC : MX b S) : okk (f_M_isText S v0) (fun r => (r = 0 ∧ (v0 < 0 ∨ 2 < v0)) ∨ (r = 1 ∧ 0 ≤ v0 ∧ v0 ≤ 2)) := by
  unfold f_M_isText
  have b2_y := in01 S v0 0 2
  refine ok_chk (by omega) ?_
  exact ok_some (by omega)
set_option maxHeartbeats 4000000 in
theorem ok_M_at {b : Nat} (S : SS) (v0 : Int) (v1 : Int) (hC : MX b S) (hp0 : -1000 ≤ v0 ∧ v0 ≤ 1000) (hp1 : -1000 ≤ v1 ∧ v1 ≤ 1000) : okk (f_M_at S v0 v1) (fun r => r = 321 * v0 + v1) := by
  unfold f_M_at
  refine ok_chk (by omega) ?_
  refine ok_chk (by omega) ?_
  exact ok_some (by omega)
set_option maxHeartbeats 4000000 in
theorem okl_M_bits_4 {b : Nat} (S : SS) (v0 : Int) (hC : MX b S) : ∀ (n : Nat) (v1_ : Int) (v2_ : Int), (0 ≤ v1_ ∧ v1_ ≤ v2_ ∧ v2_ ≤ 31) → 31 - v2_ < (n : Int) → okk (f_M_bits_4 S v0 n v1_ v2_) (fun r => 0 ≤ r ∧ r ≤ 31) := by
  intro n
  induction n with
  | zero => intro v1_ v2_ hi hm; exfalso; omega
  | succ n ih =>
    intro v1_ v2_ hi hm
    have hm : 31 - v2_ < (n : Int) + 1 := by omega
    show okk (f_M_bits_4_b S v0 (f_M_bits_4 S v0 n) v1_ v2_) _
    unfold f_M_bits_4_b
    refine ok_if (fun c1_y => ?_) (fun c1_y => ?_)
    · exact ok_some (by omega)
    · have b2_y := andi1 (shri v0 v2_)
      refine ok_chk (by omega) ?_
      refine ok_chk (by omega) ?_
      exact ih (v1_ + (andi (shri v0 v2_) 1)) (v2_ + 1) (by omega) (by omega)
set_option maxHeartbeats 4000000 in
theorem ok_M_bits {b : Nat} (S : SS) (v0 : Int) (hC : MX b S) : okk (f_M_bits S v0) (fun r => 0 ≤ r ∧ r ≤ 31) := by
  unfold f_M_bits
  exact okl_M_bits_4 S v0 hC FU 0 0 (by omega) (by unfold FU; omega)
set_option maxHeartbeats 4000000 in
theorem ok_M_costs {b : Nat} (S : SS) (v1 : Int) (v2 : Int) (hC : MX b S) : okk (f_M_costs S v1 v2) (fun u => MX b u.2 ∧ (True)) := by
  unfold f_M_costs
  have b2_y := in01 S v1 1 9
  refine ok_if (fun c3_y => ?_) (fun c3_y => ?_)
  · exact ok_some ⟨hC, by trivial⟩
  · have b4_y := in01 S v2 1 9
    refine ok_if (fun c5_y => ?_) (fun c5_y => ?_)
    · exact ok_some ⟨hC, by trivial⟩
    · refine ok_chk (by omega) ?_
      refine ok_lt (fun S5x1_z eS5x1_z => ?_)
      have h6_y : MX b S5x1_z := by rw [eS5x1_z]; exact ms_211 hC (by omega) (by omega)
      refine ok_chk (by omega) ?_
      refine ok_lt (fun S6x1_z eS6x1_z => ?_)
      have h7_y : MX b S6x1_z := by rw [eS6x1_z]; exact ms_211 h6_y (by omega) (by omega)
      exact ok_some ⟨h7_y, by trivial⟩
set_option maxHeartbeats 4000000 in
theorem ok_M_held {b : Nat} (S : SS) (v1 : Int) (hC : MX b S) (hp0 : i32 v1) : okk (f_M_held S v1) (fun r => True) := by
  unfold f_M_held
  have b2_y := mx_192_38 hC
  refine ok_if (fun c3_y => ?_) (fun c3_y => ?_)
  · exact ok_some (by trivial)
  · have b4_y := mx_192_36 hC
    refine ok_chk (by omega) ?_
    have b5_y := in01 S v1 10 (9 + (gi S 192 36))
    refine ok_if (fun c6_y => ?_) (fun c6_y => ?_)
    · refine ok_if (fun c7_y => ?_) (fun c7_y => ?_)
      · have b8_y := mx_192_35 hC
        exact ok_some (by trivial)
      · refine ok_if (fun c9_y => ?_) (fun c9_y => ?_)
        · exact ok_some (by trivial)
        · refine ok_if (fun c10_y => ?_) (fun c10_y => ?_)
          · have b11_y := mx_192_37 hC
            exact ok_some (by trivial)
          · exact ok_some (by trivial)
    · refine ok_chk (by omega) ?_
      refine ok_chk (by omega) ?_
      have b12_y := mx_216 hC (v1 - 10).toNat
      exact ok_some (by trivial)
set_option maxHeartbeats 4000000 in
theorem ok_M_unasked {b : Nat} (S : SS) (v1 : Int) (v2 : Int) (hC : MX b S) : okk (f_M_unasked S v1 v2) (fun r => True) := by
  unfold f_M_unasked
  have b2_y := mx_192_37 hC
  refine ok_chk (by omega) ?_
  have b3_y := in01 S v1 0 ((gi S 192 37) - 1)
  refine ok_if (fun c4_y => ?_) (fun c4_y => ?_)
  · exact ok_some (by trivial)
  · refine ok_if (fun c5_y => ?_) (fun c5_y => ?_)
    · refine ok_chk (by omega) ?_
      have b6_y := mx_217 hC (v1).toNat
      exact ok_some (by trivial)
    · refine ok_if (fun c7_y => ?_) (fun c7_y => ?_)
      · refine ok_chk (by omega) ?_
        have b8_y := mx_218 hC (v1).toNat
        exact ok_some (by trivial)
      · refine ok_if (fun c9_y => ?_) (fun c9_y => ?_)
        · refine ok_chk (by omega) ?_
          have b10_y := mx_219 hC (v1).toNat
          exact ok_some (by trivial)
        · exact ok_some (by trivial)
set_option maxHeartbeats 4000000 in
theorem ok_M_error {b : Nat} (S : SS) (v1 : Int) (v2 : Int) (hC : MX b S) (hp0 : v2 = 0 ∨ v2 = 1) : okk (f_M_error S v1 v2) (fun u => MX b u.2 ∧ (True)) := by
  unfold f_M_error
  refine ok_b1 (ok_M_isMark S v1 hC) (fun r1x1_z h2_y => ?_)
  refine ok_if (fun c3_y => ?_) (fun c3_y => ?_)
  · exact ok_some ⟨hC, by trivial⟩
  · refine ok_chk (by omega) ?_
    have b4_y := mx_199 hC (v1).toNat
    refine ok_if (fun c5_y => ?_) (fun c5_y => ?_)
    · exact ok_some ⟨hC, by trivial⟩
    · refine ok_chk (by omega) ?_
      refine ok_chk (by omega) ?_
      refine ok_chk (by omega) ?_
      refine ok_lt (fun S6x1_z eS6x1_z => ?_)
      have h6_y : MX b S6x1_z := by rw [eS6x1_z]; exact ms_208 hC (by omega) (by omega)
      have f7_y : gi S6x1_z 199 (v1).toNat = gi S 199 (v1).toNat := gi_ne eS6x1_z (by omega)
      have b8_y := mx_208 hC (v1).toNat
      refine ok_if (fun c9_y => ?_) (fun c9_y => ?_)
      · exact ok_some ⟨h6_y, by trivial⟩
      · exact ok_some ⟨h6_y, by trivial⟩
set_option maxHeartbeats 4000000 in
theorem ok_M_price {b : Nat} (S : SS) (v1 : Int) (v2 : Int) (hC : MX b S) : okk (f_M_price S v1 v2) (fun u => MX b u.2 ∧ (True)) := by
  unfold f_M_price
  have b2_y := in01 S v1 0 4
  refine ok_if (fun c3_y => ?_) (fun c3_y => ?_)
  · exact ok_some ⟨hC, by trivial⟩
  · have b4_y := in01 S v2 0 999
    refine ok_if (fun c5_y => ?_) (fun c5_y => ?_)
    · exact ok_some ⟨hC, by trivial⟩
    · refine ok_chk (by omega) ?_
      refine ok_chk (by omega) ?_
      refine ok_lt (fun S6x1_z eS6x1_z => ?_)
      have h6_y : MX b S6x1_z := by rw [eS6x1_z]; exact ms_210 hC (by omega) (by omega)
      have b7_y := mx_210 hC (v1).toNat
      exact ok_some ⟨h6_y, by trivial⟩
set_option maxHeartbeats 4000000 in
theorem okl_M_next_20 {b : Nat} : ∀ (n : Nat) (S : SS) (v1_ : Int), MX b S → (0 ≤ v1_ ∧ v1_ ≤ 150 ∧ gi S 192 4 ≤ 60) → 150 - v1_ < (n : Int) → okk (f_M_next_20 n S v1_) (fun u => MX b u.2 ∧ (True)) := by
  intro n
  induction n with
  | zero => intro S v1_ hC hi hm; exfalso; omega
  | succ n ih =>
    intro S v1_ hC hi hm
    have hm : 150 - v1_ < (n : Int) + 1 := by omega
    show okk (f_M_next_20_b (f_M_next_20 n) S v1_) _
    unfold f_M_next_20_b
    have b1_y := mx_192_4 hC
    refine ok_if (fun c2_y => ?_) (fun c2_y => ?_)
    · refine ok_lt (fun S3_z eS3_z => ?_)
      have h3_y : MX b S3_z := by rw [eS3_z]; exact ms_192_3 hC (by omega) (by omega)
      have f4_y : gi S3_z 192 3 = gi S 192 4 := gi_eq eS3_z
      have f5_y : gi S3_z 192 4 = gi S 192 4 := gi_ne eS3_z (by omega)
      refine ok_lt (fun S4_z eS4_z => ?_)
      have h6_y : MX b S4_z := by rw [eS4_z]; exact ms_192_4 h3_y (by omega) (by omega)
      have f7_y : gi S4_z 192 4 = 0 := gi_eq eS4_z
      have f8_y : gi S4_z 192 3 = gi S3_z 192 3 := gi_ne eS4_z (by omega)
      refine ok_lt (fun S5_z eS5_z => ?_)
      have h9_y : MX b S5_z := by rw [eS5_z]; exact ms_192_27 h6_y (by omega) (by omega)
      have f10_y : gi S5_z 192 27 = 0 := gi_eq eS5_z
      have f11_y : gi S5_z 192 4 = gi S4_z 192 4 := gi_ne eS5_z (by omega)
      have f12_y : gi S5_z 192 3 = gi S4_z 192 3 := gi_ne eS5_z (by omega)
      exact ok_some ⟨h9_y, by trivial⟩
    · refine ok_chk (by omega) ?_
      refine ok_chk (by omega) ?_
      refine ok_lt (fun S8_z eS8_z => ?_)
      have h13_y : MX b S8_z := by rw [eS8_z]; exact ms_sl hC
      have f14_y : gi S8_z 192 4 = gi S 192 4 := gi_sl eS8_z
      refine ok_chk (by omega) ?_
      exact ih S8_z (v1_ + 1) h13_y (by omega) (by omega)
set_option maxHeartbeats 4000000 in
theorem ok_M_next {b : Nat} (S : SS) (hC : MX b S) : okk (f_M_next S) (fun u => MX b u.2 ∧ (True)) := by
  unfold f_M_next
  have b2_y := mx_192_4 hC
  have b3_y := in01 S (gi S 192 4) 1 60
  refine ok_if (fun c4_y => ?_) (fun c4_y => ?_)
  · exact ok_some ⟨hC, by trivial⟩
  · exact okl_M_next_20  FU S 0 hC (by omega) (by unfold FU; omega)
theorem i2l_rng (a : Int) : -2147483648 ≤ (i2l a).toInt ∧ (i2l a).toInt ≤ 2147483647 := by
  have h := i_rng (oi a)
  have e : (i2l a).toInt = (oi a).toInt := Int32.toInt_toInt64 (oi a)
  rw [e]
  exact h
set_option maxHeartbeats 4000000 in
theorem okl_M_innermost_5 {b : Nat} (S : SS) (v1 : Int) (v2 : Int) (hC : MX b S) : ∀ (n : Nat) (v3_ : Int) (v4_ : Int), (-1 ≤ v3_ ∧ v3_ < 40 ∧ 0 ≤ v4_ ∧ v4_ ≤ 40) → 40 - v4_ < (n : Int) → okk (f_M_innermost_5 S v1 v2 n v3_ v4_) (fun r => -1 ≤ r ∧ r < 40) := by
  intro n
  induction n with
  | zero => intro v3_ v4_ hi hm; exfalso; omega
  | succ n ih =>
    intro v3_ v4_ hi hm
    have hm : 40 - v4_ < (n : Int) + 1 := by omega
    show okk (f_M_innermost_5_b S v1 v2 (f_M_innermost_5 S v1 v2 n) v3_ v4_) _
    unfold f_M_innermost_5_b
    have b1_y := mx_192_27 hC
    refine ok_if (fun c2_y => ?_) (fun c2_y => ?_)
    · exact ok_some (by omega)
    · refine ok_chk (by omega) ?_
      have b3_y := mx_214 hC (v4_).toNat
      refine ok_if (fun c4_y => ?_) (fun c4_y => ?_)
      · unfold f_M_innermost_111
        refine ok_chk (by omega) ?_
        exact ih v3_ (v4_ + 1) (by omega) (by omega)
      · refine ok_chk (by omega) ?_
        have b6_y := mx_199 hC (v4_).toNat
        refine ok_if (fun c7_y => ?_) (fun c7_y => ?_)
        · refine ok_chk (by omega) ?_
          refine ok_if (fun c8_y => ?_) (fun c8_y => ?_)
          · unfold f_M_innermost_54
            have b10_y := mx_201 hC (v4_).toNat
            have z11_y : (0 : Int64).toInt = 0 := rfl
            have b12_y := i2l_rng (gi S 201 (v4_).toNat)
            refine ok_chk (by omega) ?_
            refine ok_chk (by omega) ?_
            have b13_y := mx_202 hC (v4_).toNat
            have b14_y := in01 S (i2l v1).toInt ((i2l (gi S 201 (v4_).toNat)).toInt + (0 : Int64).toInt) (gi S 202 (v4_).toNat)
            have b15_y := i2l_rng v1
            refine ok_if (fun c16_y => ?_) (fun c16_y => ?_)
            · unfold f_M_innermost_111
              refine ok_chk (by omega) ?_
              exact ih v3_ (v4_ + 1) (by omega) (by omega)
            · refine ok_if (fun c18_y => ?_) (fun c18_y => ?_)
              · unfold f_M_innermost_108
                unfold f_M_innermost_111
                refine ok_chk (by omega) ?_
                exact ih v4_ (v4_ + 1) (by omega) (by omega)
              · refine ok_chk (by omega) ?_
                refine ok_chk (by omega) ?_
                refine ok_chk (by omega) ?_
                refine ok_chk (by omega) ?_
                refine ok_chk (by omega) ?_
                have b21_y := mx_202 hC (v3_).toNat
                have b22_y := mx_201 hC (v3_).toNat
                refine ok_chk (by omega) ?_
                refine ok_if (fun c23_y => ?_) (fun c23_y => ?_)
                · unfold f_M_innermost_111
                  refine ok_chk (by omega) ?_
                  exact ih v3_ (v4_ + 1) (by omega) (by omega)
                · unfold f_M_innermost_108
                  unfold f_M_innermost_111
                  refine ok_chk (by omega) ?_
                  exact ih v4_ (v4_ + 1) (by omega) (by omega)
          · unfold f_M_innermost_54
            have b28_y := mx_201 hC (v4_).toNat
            have z29_y : (1 : Int64).toInt = 1 := rfl
            have b30_y := i2l_rng (gi S 201 (v4_).toNat)
            refine ok_chk (by omega) ?_
            refine ok_chk (by omega) ?_
            have b31_y := mx_202 hC (v4_).toNat
            have b32_y := in01 S (i2l v1).toInt ((i2l (gi S 201 (v4_).toNat)).toInt + (1 : Int64).toInt) (gi S 202 (v4_).toNat)
            have b33_y := i2l_rng v1
            refine ok_if (fun c34_y => ?_) (fun c34_y => ?_)
            · unfold f_M_innermost_111
              refine ok_chk (by omega) ?_
              exact ih v3_ (v4_ + 1) (by omega) (by omega)
            · refine ok_if (fun c36_y => ?_) (fun c36_y => ?_)
              · unfold f_M_innermost_108
                unfold f_M_innermost_111
                refine ok_chk (by omega) ?_
                exact ih v4_ (v4_ + 1) (by omega) (by omega)
              · refine ok_chk (by omega) ?_
                refine ok_chk (by omega) ?_
                refine ok_chk (by omega) ?_
                refine ok_chk (by omega) ?_
                refine ok_chk (by omega) ?_
                have b39_y := mx_202 hC (v3_).toNat
                have b40_y := mx_201 hC (v3_).toNat
                refine ok_chk (by omega) ?_
                refine ok_if (fun c41_y => ?_) (fun c41_y => ?_)
                · unfold f_M_innermost_111
                  refine ok_chk (by omega) ?_
                  exact ih v3_ (v4_ + 1) (by omega) (by omega)
                · unfold f_M_innermost_108
                  unfold f_M_innermost_111
                  refine ok_chk (by omega) ?_
                  exact ih v4_ (v4_ + 1) (by omega) (by omega)
        · unfold f_M_innermost_111
          refine ok_chk (by omega) ?_
          exact ih v3_ (v4_ + 1) (by omega) (by omega)
set_option maxHeartbeats 4000000 in
theorem ok_M_innermost {b : Nat} (S : SS) (v1 : Int) (v2 : Int) (hC : MX b S) : okk (f_M_innermost S v1 v2) (fun r => -1 ≤ r ∧ r < 40) := by
  unfold f_M_innermost
  exact okl_M_innermost_5 S v1 v2 hC FU (-1) 0 (by omega) (by unfold FU; omega)
set_option maxHeartbeats 4000000 in
theorem okl_M_moveOf_4 {b : Nat} (S : SS) (v1 : Int) (hC : MX b S) (hp0 : 0 ≤ v1 ∧ v1 < 41) : ∀ (n : Nat) (v2_ : Int) (v3_ : Int), (-1 ≤ v2_ ∧ v2_ < 40 ∧ 0 ≤ v3_ ∧ v3_ ≤ 40) → 40 - v3_ < (n : Int) → okk (f_M_moveOf_4 S v1 n v2_ v3_) (fun r => -1 ≤ r ∧ r < 40) := by
  intro n
  induction n with
  | zero => intro v2_ v3_ hi hm; exfalso; omega
  | succ n ih =>
    intro v2_ v3_ hi hm
    have hm : 40 - v3_ < (n : Int) + 1 := by omega
    show okk (f_M_moveOf_4_b S v1 (f_M_moveOf_4 S v1 n) v2_ v3_) _
    unfold f_M_moveOf_4_b
    have b1_y := mx_192_27 hC
    refine ok_if (fun c2_y => ?_) (fun c2_y => ?_)
    · exact ok_some (by omega)
    · refine ok_chk (by omega) ?_
      have b3_y := mx_214 hC (v3_).toNat
      refine ok_if (fun c4_y => ?_) (fun c4_y => ?_)
      · unfold f_M_moveOf_100
        refine ok_chk (by omega) ?_
        exact ih v2_ (v3_ + 1) (by omega) (by omega)
      · refine ok_chk (by omega) ?_
        have b6_y := mx_199 hC (v3_).toNat
        refine ok_if (fun c7_y => ?_) (fun c7_y => ?_)
        · refine ok_chk (by omega) ?_
          refine ok_chk (by omega) ?_
          have b8_y := mx_201 hC (v1).toNat
          have b9_y := mx_201 hC (v3_).toNat
          refine ok_if (fun c10_y => ?_) (fun c10_y => ?_)
          · unfold f_M_moveOf_100
            refine ok_chk (by omega) ?_
            exact ih v2_ (v3_ + 1) (by omega) (by omega)
          · refine ok_chk (by omega) ?_
            refine ok_chk (by omega) ?_
            have b12_y := mx_203 hC (v1).toNat
            have b13_y := mx_202 hC (v3_).toNat
            refine ok_if (fun c14_y => ?_) (fun c14_y => ?_)
            · refine ok_if (fun c15_y => ?_) (fun c15_y => ?_)
              · unfold f_M_moveOf_98
                unfold f_M_moveOf_100
                refine ok_chk (by omega) ?_
                exact ih v3_ (v3_ + 1) (by omega) (by omega)
              · refine ok_chk (by omega) ?_
                refine ok_chk (by omega) ?_
                refine ok_chk (by omega) ?_
                refine ok_chk (by omega) ?_
                refine ok_chk (by omega) ?_
                have b18_y := mx_202 hC (v2_).toNat
                have b19_y := mx_201 hC (v2_).toNat
                refine ok_chk (by omega) ?_
                refine ok_if (fun c20_y => ?_) (fun c20_y => ?_)
                · unfold f_M_moveOf_100
                  refine ok_chk (by omega) ?_
                  exact ih v2_ (v3_ + 1) (by omega) (by omega)
                · unfold f_M_moveOf_98
                  unfold f_M_moveOf_100
                  refine ok_chk (by omega) ?_
                  exact ih v3_ (v3_ + 1) (by omega) (by omega)
            · unfold f_M_moveOf_100
              refine ok_chk (by omega) ?_
              exact ih v2_ (v3_ + 1) (by omega) (by omega)
        · unfold f_M_moveOf_100
          refine ok_chk (by omega) ?_
          exact ih v2_ (v3_ + 1) (by omega) (by omega)
set_option maxHeartbeats 4000000 in
theorem ok_M_moveOf {b : Nat} (S : SS) (v1 : Int) (hC : MX b S) (hp0 : 0 ≤ v1 ∧ v1 < 41) : okk (f_M_moveOf S v1) (fun r => -1 ≤ r ∧ r < 40) := by
  unfold f_M_moveOf
  exact okl_M_moveOf_4 S v1 hC (by omega) FU (-1) 0 (by omega) (by unfold FU; omega)
set_option maxHeartbeats 4000000 in
theorem okl_M_turnAt_6 {b : Nat} (S : SS) (v1 : Int) (v2 : Int) (v3 : Int) (hC : MX b S) : ∀ (n : Nat) (v4_ : Int) (v5_ : Int), (-1 ≤ v4_ ∧ v4_ < 40 ∧ 0 ≤ v5_ ∧ v5_ ≤ 40) → 40 - v5_ < (n : Int) → okk (f_M_turnAt_6 S v1 v2 v3 n v4_ v5_) (fun r => -1 ≤ r ∧ r < 40) := by
  intro n
  induction n with
  | zero => intro v4_ v5_ hi hm; exfalso; omega
  | succ n ih =>
    intro v4_ v5_ hi hm
    have hm : 40 - v5_ < (n : Int) + 1 := by omega
    show okk (f_M_turnAt_6_b S v1 v2 v3 (f_M_turnAt_6 S v1 v2 v3 n) v4_ v5_) _
    unfold f_M_turnAt_6_b
    have b1_y := mx_192_27 hC
    refine ok_if (fun c2_y => ?_) (fun c2_y => ?_)
    · exact ok_some (by omega)
    · refine ok_chk (by omega) ?_
      have b3_y := mx_214 hC (v5_).toNat
      refine ok_if (fun c4_y => ?_) (fun c4_y => ?_)
      · unfold f_M_turnAt_98
        refine ok_chk (by omega) ?_
        exact ih v4_ (v5_ + 1) (by omega) (by omega)
      · refine ok_chk (by omega) ?_
        have b6_y := mx_199 hC (v5_).toNat
        refine ok_if (fun c7_y => ?_) (fun c7_y => ?_)
        · refine ok_chk (by omega) ?_
          have b8_y := mx_201 hC (v5_).toNat
          refine ok_if (fun c9_y => ?_) (fun c9_y => ?_)
          · refine ok_chk (by omega) ?_
            have b10_y := mx_203 hC (v5_).toNat
            refine ok_if (fun c11_y => ?_) (fun c11_y => ?_)
            · unfold f_M_turnAt_98
              refine ok_chk (by omega) ?_
              exact ih v4_ (v5_ + 1) (by omega) (by omega)
            · refine ok_b1 (ok_M_moveOf S v5_ hC (by omega)) (fun r6_z h13_y => ?_)
              refine ok_if (fun c14_y => ?_) (fun c14_y => ?_)
              · refine ok_if (fun c15_y => ?_) (fun c15_y => ?_)
                · unfold f_M_turnAt_94
                  unfold f_M_turnAt_98
                  refine ok_chk (by omega) ?_
                  exact ih v5_ (v5_ + 1) (by omega) (by omega)
                · refine ok_chk (by omega) ?_
                  refine ok_chk (by omega) ?_
                  have b18_y := mx_203 hC (v4_).toNat
                  refine ok_if (fun c19_y => ?_) (fun c19_y => ?_)
                  · unfold f_M_turnAt_98
                    refine ok_chk (by omega) ?_
                    exact ih v4_ (v5_ + 1) (by omega) (by omega)
                  · unfold f_M_turnAt_94
                    unfold f_M_turnAt_98
                    refine ok_chk (by omega) ?_
                    exact ih v5_ (v5_ + 1) (by omega) (by omega)
              · unfold f_M_turnAt_98
                refine ok_chk (by omega) ?_
                exact ih v4_ (v5_ + 1) (by omega) (by omega)
          · unfold f_M_turnAt_98
            refine ok_chk (by omega) ?_
            exact ih v4_ (v5_ + 1) (by omega) (by omega)
        · unfold f_M_turnAt_98
          refine ok_chk (by omega) ?_
          exact ih v4_ (v5_ + 1) (by omega) (by omega)
set_option maxHeartbeats 4000000 in
theorem ok_M_turnAt {b : Nat} (S : SS) (v1 : Int) (v2 : Int) (v3 : Int) (hC : MX b S) : okk (f_M_turnAt S v1 v2 v3) (fun r => -1 ≤ r ∧ r < 40) := by
  unfold f_M_turnAt
  exact okl_M_turnAt_6 S v1 v2 v3 hC FU (-1) 0 (by omega) (by unfold FU; omega)
set_option maxHeartbeats 4000000 in
theorem ok_M_byteAt {b : Nat} (S : SS) (v1 : Int) (hC : MX b S) (hp0 : 0 ≤ v1) : okk (f_M_byteAt S v1) (fun r => 0 ≤ r ∧ r ≤ 255 ∧ ((gi S 192 9 ≤ v1 ∧ r = 0) ∨ (v1 < gi S 192 9 ∧ r = andi (gi S 197 (v1).toNat) 255))) := by
  unfold f_M_byteAt
  have b2_y := mx_192_9 hC
  refine ok_if (fun c3_y => ?_) (fun c3_y => ?_)
  · exact ok_some (by omega)
  · refine ok_chk (by omega) ?_
    have b4_y := mx_197 hC (v1).toNat
    have b5_y := andi255 (gi S 197 (v1).toNat)
    exact ok_some (by omega)
