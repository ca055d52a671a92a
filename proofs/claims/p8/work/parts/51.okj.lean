theorem in01 (S : SS) (a d e : Int) : (f_M_in S a d e = 0 ∧ (a < d ∨ e < a)) ∨ (f_M_in S a d e = 1 ∧ d ≤ a ∧ a ≤ e) := by
  unfold f_M_in
  split
  · exact .inl ⟨rfl, .inl (by assumption)⟩
  · split
    · exact .inl ⟨rfl, .inr (by assumption)⟩
    · exact .inr ⟨rfl, by omega⟩
set_option maxHeartbeats 4000000 in
theorem ok_M_end {b : Nat} (S : SS) (v1 : Int) (hC : MX b S) : okk (f_M_end S v1) (fun u => MX b u.2 ∧ (True)) := by
  unfold f_M_end
  have b2_y := mx_192_8 hC
  have b3_y := in01 S v1 0 (gi S 192 8)
  refine ok_if (fun c4_y => ?_) (fun c4_y => ?_)
  · exact ok_some ⟨hC, by trivial⟩
  · refine ok_lt (fun S5x1_z eS5x1_z => ?_)
    have h5_y : MX b S5x1_z := by rw [eS5x1_z]; exact ms_192_8 hC (by omega) (by omega)
    have f6_y : gi S5x1_z 192 8 = v1 := gi_eq eS5x1_z
    exact ok_some ⟨h5_y, by trivial⟩
set_option maxHeartbeats 4000000 in
theorem ok_M_isMark {b : Nat} (S : SS) (v1 : Int) (hC : MX b S) : okk (f_M_isMark S v1) (fun r => (r = 0 ∧ (v1 < 0 ∨ gi S 192 27 ≤ v1)) ∨ (r = 1 ∧ 0 ≤ v1 ∧ v1 < gi S 192 27 ∧ v1 < 40)) := by
  unfold f_M_isMark
  have b2_y := mx_192_27 hC
  refine ok_chk (by omega) ?_
  have b3_y := in01 S v1 0 ((gi S 192 27) - 1)
  refine ok_chk (by omega) ?_
  exact ok_some (by omega)
set_option maxHeartbeats 4000000 in
theorem ok_M_hasRow {b : Nat} (S : SS) (v1 : Int) (hC : MX b S) (hp0 : 0 ≤ v1 ∧ v1 < 41) : okk (f_M_hasRow S v1) (fun r => r = 0 ∨ r = 1) := by
  unfold f_M_hasRow
  refine ok_chk (by omega) ?_
  have b2_y := mx_199 hC (v1).toNat
  refine ok_if (fun c3_y => ?_) (fun c3_y => ?_)
  · exact ok_some (by omega)
  · exact ok_some (by omega)
set_option maxHeartbeats 4000000 in
theorem ok_M_rowEnd {b : Nat} (S : SS) (v1 : Int) (hC : MX b S) (hp0 : 0 ≤ v1 ∧ v1 < 41) : okk (f_M_rowEnd S v1) (fun r => True) := by
  unfold f_M_rowEnd
  refine ok_chk (by omega) ?_
  have b2_y := mx_199 hC (v1).toNat
  refine ok_if (fun c3_y => ?_) (fun c3_y => ?_)
  · refine ok_chk (by omega) ?_
    have b4_y := mx_203 hC (v1).toNat
    exact ok_some (by trivial)
  · refine ok_chk (by omega) ?_
    have b5_y := mx_202 hC (v1).toNat
    exact ok_some (by trivial)
set_option maxHeartbeats 4000000 in
theorem ok_M_gapOf {b : Nat} (S : SS) (v1 : Int) (hC : MX b S) (hp0 : 0 ≤ v1 ∧ v1 < 41) : okk (f_M_gapOf S v1) (fun r => True) := by
  unfold f_M_gapOf
  refine ok_chk (by omega) ?_
  have b2_y := mx_199 hC (v1).toNat
  refine ok_if (fun c3_y => ?_) (fun c3_y => ?_)
  · refine ok_chk (by omega) ?_
    have b4_y := mx_201 hC (v1).toNat
    exact ok_some (by trivial)
  · refine ok_chk (by omega) ?_
    refine ok_if (fun c5_y => ?_) (fun c5_y => ?_)
    · refine ok_chk (by omega) ?_
      have b6_y := mx_203 hC (v1).toNat
      exact ok_some (by trivial)
    · exact ok_some (by trivial)
set_option maxHeartbeats 4000000 in
theorem ok_M_isInside {b : Nat} (S : SS) (v1 : Int) (v2 : Int) (v3 : Int) (hC : MX b S) (hp0 : 0 ≤ v1 ∧ v1 < 41) : okk (f_M_isInside S v1 v2 v3) (fun r => r = 0 ∨ r = 1) := by
  unfold f_M_isInside
  refine ok_b1 (ok_M_hasRow S v1 hC (by omega)) (fun r1x1_z h2_y => ?_)
  refine ok_if (fun c3_y => ?_) (fun c3_y => ?_)
  · unfold f_M_isInside_29
    refine ok_b1 (ok_M_gapOf S v1 hC (by omega)) (fun r1x4_z h5_y => ?_)
    refine ok_if (fun c6_y => ?_) (fun c6_y => ?_)
    · exact ok_some (by omega)
    · refine ok_b1 (ok_M_gapOf S v1 hC (by omega)) (fun r3x4_z h7_y => ?_)
      refine ok_if (fun c8_y => ?_) (fun c8_y => ?_)
      · exact ok_some (by omega)
      · refine ok_b1 (ok_M_gapOf S v1 hC (by omega)) (fun r5x4_z h9_y => ?_)
        refine ok_if (fun c10_y => ?_) (fun c10_y => ?_)
        · exact ok_some (by omega)
        · exact ok_some (by omega)
  · refine ok_chk (by omega) ?_
    have b11_y := mx_201 hC (v1).toNat
    refine ok_if (fun c12_y => ?_) (fun c12_y => ?_)
    · exact ok_some (by omega)
    · refine ok_b1 (ok_M_rowEnd S v1 hC (by omega)) (fun r4x1_z h13_y => ?_)
      refine ok_if (fun c14_y => ?_) (fun c14_y => ?_)
      · unfold f_M_isInside_29
        refine ok_b1 (ok_M_gapOf S v1 hC (by omega)) (fun r1x15_z h16_y => ?_)
        refine ok_if (fun c17_y => ?_) (fun c17_y => ?_)
        · exact ok_some (by omega)
        · refine ok_b1 (ok_M_gapOf S v1 hC (by omega)) (fun r3x15_z h18_y => ?_)
          refine ok_if (fun c19_y => ?_) (fun c19_y => ?_)
          · exact ok_some (by omega)
          · refine ok_b1 (ok_M_gapOf S v1 hC (by omega)) (fun r5x15_z h20_y => ?_)
            refine ok_if (fun c21_y => ?_) (fun c21_y => ?_)
            · exact ok_some (by omega)
            · exact ok_some (by omega)
      · exact ok_some (by omega)
set_option maxHeartbeats 4000000 in
theorem ok_M_isWithin {b : Nat} (S : SS) (v1 : Int) (v2 : Int) (hC : MX b S) (hp0 : 0 ≤ v1 ∧ v1 < 41) (hp1 : 0 ≤ v2 ∧ v2 < 41) : okk (f_M_isWithin S v1 v2) (fun r => r = 0 ∨ r = 1) := by
  unfold f_M_isWithin
  refine ok_chk (by omega) ?_
  have b2_y := mx_199 hC (v2).toNat
  refine ok_if (fun c3_y => ?_) (fun c3_y => ?_)
  · refine ok_chk (by omega) ?_
    refine ok_chk (by omega) ?_
    have b4_y := mx_201 hC (v2).toNat
    have b5_y := mx_202 hC (v2).toNat
    refine ok_b1 (ok_M_isInside S v1 (gi S 201 (v2).toNat) (gi S 202 (v2).toNat) hC (by omega)) (fun r14x1_z h6_y => ?_)
    refine ok_chk (by omega) ?_
    exact ok_some (by omega)
  · refine ok_chk (by omega) ?_
    refine ok_if (fun c7_y => ?_) (fun c7_y => ?_)
    · refine ok_chk (by omega) ?_
      refine ok_chk (by omega) ?_
      have b8_y := mx_202 hC (v2).toNat
      refine ok_chk (by omega) ?_
      have b9_y := mx_201 hC (v2).toNat
      refine ok_b1 (ok_M_isInside S v1 (gi S 201 (v2).toNat) ((gi S 202 (v2).toNat) - 1) hC (by omega)) (fun r6x1_z h10_y => ?_)
      refine ok_if (fun c11_y => ?_) (fun c11_y => ?_)
      · refine ok_chk (by omega) ?_
        refine ok_chk (by omega) ?_
        have b12_y := mx_203 hC (v2).toNat
        refine ok_b1 (ok_M_isInside S v1 (gi S 202 (v2).toNat) (gi S 203 (v2).toNat) hC (by omega)) (fun r10x1_z h13_y => ?_)
        refine ok_if (fun c14_y => ?_) (fun c14_y => ?_)
        · exact ok_some (by omega)
        · exact ok_some (by omega)
      · exact ok_some (by omega)
    · exact ok_some (by omega)
set_option maxHeartbeats 4000000 in
theorem ok_M_isCut {b : Nat} (S : SS) (v1 : Int) (v2 : Int) (hC : MX b S) (hp0 : 0 ≤ v1 ∧ v1 < 41) (hp1 : 0 ≤ v2 ∧ v2 < 41) : okk (f_M_isCut S v1 v2) (fun r => r = 0 ∨ r = 1) := by
  unfold f_M_isCut
  refine ok_b1 (ok_M_gapOf S v1 hC (by omega)) (fun r1x1_z h2_y => ?_)
  refine ok_if (fun c3_y => ?_) (fun c3_y => ?_)
  · exact ok_some (by omega)
  · refine ok_b1 (ok_M_hasRow S v2 hC (by omega)) (fun r3x1_z h4_y => ?_)
    refine ok_if (fun c5_y => ?_) (fun c5_y => ?_)
    · exact ok_some (by omega)
    · refine ok_b1 (ok_M_gapOf S v1 hC (by omega)) (fun r5x1_z h6_y => ?_)
      refine ok_chk (by omega) ?_
      have b7_y := mx_201 hC (v2).toNat
      refine ok_if (fun c8_y => ?_) (fun c8_y => ?_)
      · exact ok_some (by omega)
      · refine ok_b1 (ok_M_gapOf S v1 hC (by omega)) (fun r8x1_z h9_y => ?_)
        refine ok_b1 (ok_M_rowEnd S v2 hC (by omega)) (fun r10x1_z h10_y => ?_)
        refine ok_if (fun c11_y => ?_) (fun c11_y => ?_)
        · exact ok_some (by omega)
        · exact ok_some (by omega)
set_option maxHeartbeats 4000000 in
theorem ok_M_doMeet {b : Nat} (S : SS) (v1 : Int) (v2 : Int) (hC : MX b S) (hp0 : 0 ≤ v1 ∧ v1 < 41) (hp1 : 0 ≤ v2 ∧ v2 < 41) : okk (f_M_doMeet S v1 v2) (fun r => r = 0 ∨ r = 1) := by
  unfold f_M_doMeet
  refine ok_b1 (ok_M_isWithin S v1 v2 hC (by omega) (by omega)) (fun r1x1_z h2_y => ?_)
  refine ok_if (fun c3_y => ?_) (fun c3_y => ?_)
  · refine ok_b1 (ok_M_isWithin S v2 v1 hC (by omega) (by omega)) (fun r3x1_z h4_y => ?_)
    refine ok_if (fun c5_y => ?_) (fun c5_y => ?_)
    · refine ok_b1 (ok_M_hasRow S v1 hC (by omega)) (fun r5x1_z h6_y => ?_)
      refine ok_if (fun c7_y => ?_) (fun c7_y => ?_)
      · unfold f_M_doMeet_66
        refine ok_b1 (ok_M_isCut S v1 v2 hC (by omega) (by omega)) (fun r1x8_z h9_y => ?_)
        refine ok_if (fun c10_y => ?_) (fun c10_y => ?_)
        · refine ok_b1 (ok_M_isCut S v2 v1 hC (by omega) (by omega)) (fun r3x8_z h11_y => ?_)
          refine ok_if (fun c12_y => ?_) (fun c12_y => ?_)
          · exact ok_some (by omega)
          · exact ok_some (by omega)
        · exact ok_some (by omega)
      · refine ok_b1 (ok_M_hasRow S v2 hC (by omega)) (fun r7x1_z h13_y => ?_)
        refine ok_if (fun c14_y => ?_) (fun c14_y => ?_)
        · unfold f_M_doMeet_66
          refine ok_b1 (ok_M_isCut S v1 v2 hC (by omega) (by omega)) (fun r1x15_z h16_y => ?_)
          refine ok_if (fun c17_y => ?_) (fun c17_y => ?_)
          · refine ok_b1 (ok_M_isCut S v2 v1 hC (by omega) (by omega)) (fun r3x15_z h18_y => ?_)
            refine ok_if (fun c19_y => ?_) (fun c19_y => ?_)
            · exact ok_some (by omega)
            · exact ok_some (by omega)
          · exact ok_some (by omega)
        · refine ok_chk (by omega) ?_
          refine ok_b1 (ok_M_rowEnd S v2 hC (by omega)) (fun r10x1_z h20_y => ?_)
          have b21_y := mx_201 hC (v1).toNat
          refine ok_if (fun c22_y => ?_) (fun c22_y => ?_)
          · unfold f_M_doMeet_66
            refine ok_b1 (ok_M_isCut S v1 v2 hC (by omega) (by omega)) (fun r1x23_z h24_y => ?_)
            refine ok_if (fun c25_y => ?_) (fun c25_y => ?_)
            · refine ok_b1 (ok_M_isCut S v2 v1 hC (by omega) (by omega)) (fun r3x23_z h26_y => ?_)
              refine ok_if (fun c27_y => ?_) (fun c27_y => ?_)
              · exact ok_some (by omega)
              · exact ok_some (by omega)
            · exact ok_some (by omega)
          · refine ok_chk (by omega) ?_
            refine ok_b1 (ok_M_rowEnd S v1 hC (by omega)) (fun r13x1_z h28_y => ?_)
            have b29_y := mx_201 hC (v2).toNat
            refine ok_if (fun c30_y => ?_) (fun c30_y => ?_)
            · unfold f_M_doMeet_66
              refine ok_b1 (ok_M_isCut S v1 v2 hC (by omega) (by omega)) (fun r1x31_z h32_y => ?_)
              refine ok_if (fun c33_y => ?_) (fun c33_y => ?_)
              · refine ok_b1 (ok_M_isCut S v2 v1 hC (by omega) (by omega)) (fun r3x31_z h34_y => ?_)
                refine ok_if (fun c35_y => ?_) (fun c35_y => ?_)
                · exact ok_some (by omega)
                · exact ok_some (by omega)
              · exact ok_some (by omega)
            · exact ok_some (by omega)
    · exact ok_some (by omega)
  · exact ok_some (by omega)
set_option maxHeartbeats 4000000 in
theorem ok_M_meet {b : Nat} (S : SS) (v1 : Int) (v2 : Int) (hC : MX b S) : okk (f_M_meet S v1 v2) (fun r => True) := by
  unfold f_M_meet
  refine ok_b1 (ok_M_isMark S v1 hC) (fun r1x1_z h2_y => ?_)
  refine ok_if (fun c3_y => ?_) (fun c3_y => ?_)
  · exact ok_some (by trivial)
  · refine ok_b1 (ok_M_isMark S v2 hC) (fun r3x1_z h4_y => ?_)
    refine ok_if (fun c5_y => ?_) (fun c5_y => ?_)
    · exact ok_some (by trivial)
    · refine ok_if (fun c6_y => ?_) (fun c6_y => ?_)
      · exact ok_some (by trivial)
      · refine ok_chk (by omega) ?_
        have b7_y := mx_199 hC (v1).toNat
        refine ok_if (fun c8_y => ?_) (fun c8_y => ?_)
        · exact ok_some (by trivial)
        · refine ok_chk (by omega) ?_
          have b9_y := mx_199 hC (v2).toNat
          refine ok_if (fun c10_y => ?_) (fun c10_y => ?_)
          · exact ok_some (by trivial)
          · refine ok_b1 (ok_M_doMeet S v1 v2 hC (by omega) (by omega)) (fun r7x1_z h11_y => ?_)
            refine ok_if (fun c12_y => ?_) (fun c12_y => ?_)
            · exact ok_some (by trivial)
            · exact ok_some (by trivial)
set_option maxHeartbeats 4000000 in
theorem ok_M_within {b : Nat} (S : SS) (v1 : Int) (v2 : Int) (hC : MX b S) : okk (f_M_within S v1 v2) (fun r => True) := by
  unfold f_M_within
  refine ok_b1 (ok_M_isMark S v1 hC) (fun r1x1_z h2_y => ?_)
  refine ok_if (fun c3_y => ?_) (fun c3_y => ?_)
  · exact ok_some (by trivial)
  · refine ok_b1 (ok_M_isMark S v2 hC) (fun r3x1_z h4_y => ?_)
    refine ok_if (fun c5_y => ?_) (fun c5_y => ?_)
    · exact ok_some (by trivial)
    · refine ok_if (fun c6_y => ?_) (fun c6_y => ?_)
      · exact ok_some (by trivial)
      · refine ok_chk (by omega) ?_
        have b7_y := mx_199 hC (v1).toNat
        refine ok_if (fun c8_y => ?_) (fun c8_y => ?_)
        · exact ok_some (by trivial)
        · refine ok_chk (by omega) ?_
          have b9_y := mx_199 hC (v2).toNat
          refine ok_if (fun c10_y => ?_) (fun c10_y => ?_)
          · exact ok_some (by trivial)
          · refine ok_b1 (ok_M_isWithin S v1 v2 hC (by omega) (by omega)) (fun r7x1_z h11_y => ?_)
            refine ok_if (fun c12_y => ?_) (fun c12_y => ?_)
            · exact ok_some (by trivial)
            · exact ok_some (by trivial)
set_option maxHeartbeats 4000000 in
theorem okl_M_judgeOne_2 {b : Nat} (v1 : Int) (hp0 : 0 ≤ v1 ∧ v1 < 40) : ∀ (n : Nat) (S : SS) (v2_ : Int), MX b S → (0 ≤ v2_ ∧ v2_ ≤ 40) → 40 - v2_ < (n : Int) → okk (f_M_judgeOne_2 v1 n S v2_) (fun S1 => MX b S1 ∧ (True)) := by
  intro n
  induction n with
  | zero => intro S v2_ hC hi hm; exfalso; omega
  | succ n ih =>
    intro S v2_ hC hi hm
    have hm : 40 - v2_ < (n : Int) + 1 := by omega
    show okk (f_M_judgeOne_2_b v1 (f_M_judgeOne_2 v1 n) S v2_) _
    unfold f_M_judgeOne_2_b
    have b1_y := mx_192_27 hC
    refine ok_if (fun c2_y => ?_) (fun c2_y => ?_)
    · unfold f_M_judgeOne_51
      refine ok_chk (by omega) ?_
      have b4_y := mx_213 hC (v1).toNat
      refine ok_if (fun c5_y => ?_) (fun c5_y => ?_)
      · refine ok_chk (by omega) ?_
        refine ok_lt (fun S2x3_z eS2x3_z => ?_)
        have h6_y : MX b S2x3_z := by rw [eS2x3_z]; exact ms_212 hC (by omega) (by omega)
        have f7_y : gi S2x3_z 213 (v1).toNat = gi S 213 (v1).toNat := gi_ne eS2x3_z (by omega)
        have f8_y : gi S2x3_z 192 27 = gi S 192 27 := gi_ne eS2x3_z (by omega)
        exact ok_some ⟨h6_y, by trivial⟩
      · exact ok_some ⟨hC, by trivial⟩
    · refine ok_chk (by omega) ?_
      have b9_y := mx_213 hC (v1).toNat
      refine ok_if (fun c10_y => ?_) (fun c10_y => ?_)
      · refine ok_chk (by omega) ?_
        have b11_y := mx_212 hC (v2_).toNat
        refine ok_if (fun c12_y => ?_) (fun c12_y => ?_)
        · refine ok_b1 (ok_M_doMeet S v1 v2_ hC (by omega) (by omega)) (fun r4_z h13_y => ?_)
          refine ok_if (fun c14_y => ?_) (fun c14_y => ?_)
          · unfold f_M_judgeOne_45
            refine ok_chk (by omega) ?_
            exact ih S (v2_ + 1) hC (by omega) (by omega)
          · refine ok_chk (by omega) ?_
            refine ok_lt (fun S6_z eS6_z => ?_)
            have h16_y : MX b S6_z := by rw [eS6_z]; exact ms_213 hC (by omega) (by omega)
            have f17_y : gi S6_z 213 (v1).toNat = v2_ := gi_eq eS6_z
            have f18_y : gi S6_z 212 (v2_).toNat = gi S 212 (v2_).toNat := gi_ne eS6_z (by omega)
            have f19_y : gi S6_z 192 27 = gi S 192 27 := gi_ne eS6_z (by omega)
            unfold f_M_judgeOne_45
            refine ok_chk (by omega) ?_
            exact ih S6_z (v2_ + 1) h16_y (by omega) (by omega)
        · unfold f_M_judgeOne_45
          refine ok_chk (by omega) ?_
          exact ih S (v2_ + 1) hC (by omega) (by omega)
      · unfold f_M_judgeOne_51
        refine ok_chk (by omega) ?_
        refine ok_if (fun c23_y => ?_) (fun c23_y => ?_)
        · refine ok_chk (by omega) ?_
          refine ok_lt (fun S2x22_z eS2x22_z => ?_)
          have h24_y : MX b S2x22_z := by rw [eS2x22_z]; exact ms_212 hC (by omega) (by omega)
          have f25_y : gi S2x22_z 213 (v1).toNat = gi S 213 (v1).toNat := gi_ne eS2x22_z (by omega)
          have f26_y : gi S2x22_z 192 27 = gi S 192 27 := gi_ne eS2x22_z (by omega)
          exact ok_some ⟨h24_y, by trivial⟩
        · exact ok_some ⟨hC, by trivial⟩
set_option maxHeartbeats 4000000 in
theorem ok_M_judgeOne {b : Nat} (S : SS) (v1 : Int) (hC : MX b S) (hp0 : 0 ≤ v1 ∧ v1 < 40) : okk (f_M_judgeOne S v1) (fun S1 => MX b S1 ∧ (True)) := by
  unfold f_M_judgeOne
  exact okl_M_judgeOne_2 v1 (by omega) FU S 0 hC (by omega) (by unfold FU; omega)
set_option maxHeartbeats 4000000 in
theorem okl_M_judge_24 {b : Nat} (kf2_ : SS → Int → Option SS) (m_ : Int) (hk : ∀ (S : SS) (v1_ : Int), MX b S → (v1_ = m_ + 1) → okk (kf2_ S v1_) (fun S1 => MX b S1 ∧ (True))) : ∀ (n : Nat) (S : SS) (v1_ : Int) (v2_ : Int), MX b S → (v1_ = m_ ∧ 0 ≤ v1_ ∧ v1_ < 40 ∧ -1 ≤ v2_ ∧ v2_ < 40) → v2_ + 1 < (n : Int) → okk (f_M_judge_24 kf2_ n S v1_ v2_) (fun S1 => MX b S1 ∧ (True)) := by
  intro n
  induction n with
  | zero => intro S v1_ v2_ hC hi hm; exfalso; omega
  | succ n ih =>
    intro S v1_ v2_ hC hi hm
    have hm : v2_ + 1 < (n : Int) + 1 := by omega
    show okk (f_M_judge_24_b kf2_ (f_M_judge_24 kf2_ n) S v1_ v2_) _
    unfold f_M_judge_24_b
    refine ok_if (fun c1_y => ?_) (fun c1_y => ?_)
    · refine ok_chk (by omega) ?_
      have b2_y := mx_199 hC (v1_).toNat
      refine ok_if (fun c3_y => ?_) (fun c3_y => ?_)
      · unfold f_M_judge_137
        refine ok_chk (by omega) ?_
        refine ok_lt (fun S1x4_z eS1x4_z => ?_)
        have h5_y : MX b S1x4_z := by rw [eS1x4_z]; exact ms_212 hC (by omega) (by omega)
        have f6_y : gi S1x4_z 199 (v1_).toNat = gi S 199 (v1_).toNat := gi_ne eS1x4_z (by omega)
        refine ok_chk (by omega) ?_
        exact hk S1x4_z (v1_ + 1) h5_y (by omega)
      · refine ok_chk (by omega) ?_
        have b7_y := mx_213 hC (v1_).toNat
        refine ok_if (fun c8_y => ?_) (fun c8_y => ?_)
        · refine ok_chk (by omega) ?_
          have b9_y := mx_207 hC (v1_).toNat
          refine ok_if (fun c10_y => ?_) (fun c10_y => ?_)
          · unfold f_M_judge_114
            refine ok_chk (by omega) ?_
            refine ok_if (fun c12_y => ?_) (fun c12_y => ?_)
            · unfold f_M_judge_136
              unfold f_M_judge_137
              refine ok_chk (by omega) ?_
              refine ok_lt (fun S1x14_z eS1x14_z => ?_)
              have h15_y : MX b S1x14_z := by rw [eS1x14_z]; exact ms_212 hC (by omega) (by omega)
              have f16_y : gi S1x14_z 213 (v1_).toNat = gi S 213 (v1_).toNat := gi_ne eS1x14_z (by omega)
              have f17_y : gi S1x14_z 199 (v1_).toNat = gi S 199 (v1_).toNat := gi_ne eS1x14_z (by omega)
              have f18_y : gi S1x14_z 207 (v1_).toNat = gi S 207 (v1_).toNat := gi_ne eS1x14_z (by omega)
              refine ok_chk (by omega) ?_
              exact hk S1x14_z (v1_ + 1) h15_y (by omega)
            · refine ok_chk (by omega) ?_
              have b19_y := mx_205 hC (v1_).toNat
              refine ok_if (fun c20_y => ?_) (fun c20_y => ?_)
              · unfold f_M_judge_137
                refine ok_chk (by omega) ?_
                refine ok_lt (fun S1x21_z eS1x21_z => ?_)
                have h22_y : MX b S1x21_z := by rw [eS1x21_z]; exact ms_212 hC (by omega) (by omega)
                have f23_y : gi S1x21_z 205 (v1_).toNat = gi S 205 (v1_).toNat := gi_ne eS1x21_z (by omega)
                have f24_y : gi S1x21_z 213 (v1_).toNat = gi S 213 (v1_).toNat := gi_ne eS1x21_z (by omega)
                have f25_y : gi S1x21_z 199 (v1_).toNat = gi S 199 (v1_).toNat := gi_ne eS1x21_z (by omega)
                have f26_y : gi S1x21_z 207 (v1_).toNat = gi S 207 (v1_).toNat := gi_ne eS1x21_z (by omega)
                refine ok_chk (by omega) ?_
                exact hk S1x21_z (v1_ + 1) h22_y (by omega)
              · unfold f_M_judge_136
                unfold f_M_judge_137
                refine ok_chk (by omega) ?_
                refine ok_lt (fun S1x28_z eS1x28_z => ?_)
                have h29_y : MX b S1x28_z := by rw [eS1x28_z]; exact ms_212 hC (by omega) (by omega)
                have f30_y : gi S1x28_z 205 (v1_).toNat = gi S 205 (v1_).toNat := gi_ne eS1x28_z (by omega)
                have f31_y : gi S1x28_z 213 (v1_).toNat = gi S 213 (v1_).toNat := gi_ne eS1x28_z (by omega)
                have f32_y : gi S1x28_z 199 (v1_).toNat = gi S 199 (v1_).toNat := gi_ne eS1x28_z (by omega)
                have f33_y : gi S1x28_z 207 (v1_).toNat = gi S 207 (v1_).toNat := gi_ne eS1x28_z (by omega)
                refine ok_chk (by omega) ?_
                exact hk S1x28_z (v1_ + 1) h29_y (by omega)
          · refine ok_chk (by omega) ?_
            have b34_y := mx_205 hC (v1_).toNat
            refine ok_if (fun c35_y => ?_) (fun c35_y => ?_)
            · unfold f_M_judge_110
              unfold f_M_judge_137
              refine ok_chk (by omega) ?_
              refine ok_lt (fun S1x37_z eS1x37_z => ?_)
              have h38_y : MX b S1x37_z := by rw [eS1x37_z]; exact ms_212 hC (by omega) (by omega)
              have f39_y : gi S1x37_z 205 (v1_).toNat = gi S 205 (v1_).toNat := gi_ne eS1x37_z (by omega)
              have f40_y : gi S1x37_z 213 (v1_).toNat = gi S 213 (v1_).toNat := gi_ne eS1x37_z (by omega)
              have f41_y : gi S1x37_z 199 (v1_).toNat = gi S 199 (v1_).toNat := gi_ne eS1x37_z (by omega)
              have f42_y : gi S1x37_z 207 (v1_).toNat = gi S 207 (v1_).toNat := gi_ne eS1x37_z (by omega)
              refine ok_chk (by omega) ?_
              exact hk S1x37_z (v1_ + 1) h38_y (by omega)
            · unfold f_M_judge_114
              refine ok_chk (by omega) ?_
              refine ok_if (fun c44_y => ?_) (fun c44_y => ?_)
              · unfold f_M_judge_136
                unfold f_M_judge_137
                refine ok_chk (by omega) ?_
                refine ok_lt (fun S1x46_z eS1x46_z => ?_)
                have h47_y : MX b S1x46_z := by rw [eS1x46_z]; exact ms_212 hC (by omega) (by omega)
                have f48_y : gi S1x46_z 205 (v1_).toNat = gi S 205 (v1_).toNat := gi_ne eS1x46_z (by omega)
                have f49_y : gi S1x46_z 213 (v1_).toNat = gi S 213 (v1_).toNat := gi_ne eS1x46_z (by omega)
                have f50_y : gi S1x46_z 199 (v1_).toNat = gi S 199 (v1_).toNat := gi_ne eS1x46_z (by omega)
                have f51_y : gi S1x46_z 207 (v1_).toNat = gi S 207 (v1_).toNat := gi_ne eS1x46_z (by omega)
                refine ok_chk (by omega) ?_
                exact hk S1x46_z (v1_ + 1) h47_y (by omega)
              · refine ok_chk (by omega) ?_
                refine ok_if (fun c52_y => ?_) (fun c52_y => ?_)
                · unfold f_M_judge_137
                  refine ok_chk (by omega) ?_
                  refine ok_lt (fun S1x53_z eS1x53_z => ?_)
                  have h54_y : MX b S1x53_z := by rw [eS1x53_z]; exact ms_212 hC (by omega) (by omega)
                  have f55_y : gi S1x53_z 205 (v1_).toNat = gi S 205 (v1_).toNat := gi_ne eS1x53_z (by omega)
                  have f56_y : gi S1x53_z 213 (v1_).toNat = gi S 213 (v1_).toNat := gi_ne eS1x53_z (by omega)
                  have f57_y : gi S1x53_z 199 (v1_).toNat = gi S 199 (v1_).toNat := gi_ne eS1x53_z (by omega)
                  have f58_y : gi S1x53_z 207 (v1_).toNat = gi S 207 (v1_).toNat := gi_ne eS1x53_z (by omega)
                  refine ok_chk (by omega) ?_
                  exact hk S1x53_z (v1_ + 1) h54_y (by omega)
                · unfold f_M_judge_136
                  unfold f_M_judge_137
                  refine ok_chk (by omega) ?_
                  refine ok_lt (fun S1x60_z eS1x60_z => ?_)
                  have h61_y : MX b S1x60_z := by rw [eS1x60_z]; exact ms_212 hC (by omega) (by omega)
                  have f62_y : gi S1x60_z 205 (v1_).toNat = gi S 205 (v1_).toNat := gi_ne eS1x60_z (by omega)
                  have f63_y : gi S1x60_z 213 (v1_).toNat = gi S 213 (v1_).toNat := gi_ne eS1x60_z (by omega)
                  have f64_y : gi S1x60_z 199 (v1_).toNat = gi S 199 (v1_).toNat := gi_ne eS1x60_z (by omega)
                  have f65_y : gi S1x60_z 207 (v1_).toNat = gi S 207 (v1_).toNat := gi_ne eS1x60_z (by omega)
                  refine ok_chk (by omega) ?_
                  exact hk S1x60_z (v1_ + 1) h61_y (by omega)
        · unfold f_M_judge_110
          unfold f_M_judge_137
          refine ok_chk (by omega) ?_
          refine ok_lt (fun S1x67_z eS1x67_z => ?_)
          have h68_y : MX b S1x67_z := by rw [eS1x67_z]; exact ms_212 hC (by omega) (by omega)
          have f69_y : gi S1x67_z 213 (v1_).toNat = gi S 213 (v1_).toNat := gi_ne eS1x67_z (by omega)
          have f70_y : gi S1x67_z 199 (v1_).toNat = gi S 199 (v1_).toNat := gi_ne eS1x67_z (by omega)
          refine ok_chk (by omega) ?_
          exact hk S1x67_z (v1_ + 1) h68_y (by omega)
    · refine ok_chk (by omega) ?_
      have b71_y := mx_199 hC (v2_).toNat
      refine ok_if (fun c72_y => ?_) (fun c72_y => ?_)
      · refine ok_chk (by omega) ?_
        have b73_y := mx_201 hC (v2_).toNat
        refine ok_if (fun c74_y => ?_) (fun c74_y => ?_)
        · refine ok_chk (by omega) ?_
          refine ok_lt (fun S7_z eS7_z => ?_)
          have h75_y : MX b S7_z := by rw [eS7_z]; exact ms_213 hC (by omega) (by omega)
          have f76_y : gi S7_z 201 (v2_).toNat = gi S 201 (v2_).toNat := gi_ne eS7_z (by omega)
          have f77_y : gi S7_z 199 (v2_).toNat = gi S 199 (v2_).toNat := gi_ne eS7_z (by omega)
          unfold f_M_judge_56
          refine ok_chk (by omega) ?_
          exact ih S7_z v1_ (v2_ + (-1)) h75_y (by omega) (by omega)
        · unfold f_M_judge_56
          refine ok_chk (by omega) ?_
          exact ih S v1_ (v2_ + (-1)) hC (by omega) (by omega)
      · unfold f_M_judge_56
        refine ok_chk (by omega) ?_
        exact ih S v1_ (v2_ + (-1)) hC (by omega) (by omega)
set_option maxHeartbeats 4000000 in
theorem okl_M_judge_154 {b : Nat} (kf146_ : SS → Int → Option SS) (m_ : Int) (hk : ∀ (S : SS) (v1_ : Int), MX b S → (v1_ = m_ + 1) → okk (kf146_ S v1_) (fun S1 => MX b S1 ∧ (True))) : ∀ (n : Nat) (S : SS) (v1_ : Int) (v2_ : Int), MX b S → (v1_ = m_ ∧ 0 ≤ v1_ ∧ v1_ ≤ 9 ∧ 0 ≤ v2_ ∧ v2_ ≤ 40) → 40 - v2_ < (n : Int) → okk (f_M_judge_154 kf146_ n S v1_ v2_) (fun S1 => MX b S1 ∧ (True)) := by
  intro n
  induction n with
  | zero => intro S v1_ v2_ hC hi hm; exfalso; omega
  | succ n ih =>
    intro S v1_ v2_ hC hi hm
    have hm : 40 - v2_ < (n : Int) + 1 := by omega
    show okk (f_M_judge_154_b kf146_ (f_M_judge_154 kf146_ n) S v1_ v2_) _
    unfold f_M_judge_154_b
    have b1_y := mx_192_27 hC
    refine ok_if (fun c2_y => ?_) (fun c2_y => ?_)
    · refine ok_chk (by omega) ?_
      exact hk S (v1_ + 1) hC (by omega)
    · refine ok_chk (by omega) ?_
      have b3_y := mx_212 hC (v2_).toNat
      refine ok_if (fun c4_y => ?_) (fun c4_y => ?_)
      · refine ok_chk (by omega) ?_
        have b5_y := mx_200 hC (v2_).toNat
        refine ok_chk (by omega) ?_
        have b6_y := mx_209 hC (gi S 200 (v2_).toNat).toNat
        refine ok_if (fun c7_y => ?_) (fun c7_y => ?_)
        · refine ok_b1 (ok_M_judgeOne S v2_ hC (by omega)) (fun S6_z h8_y => ?_)
          obtain ⟨h9_y, p10_y⟩ := h8_y
          unfold f_M_judge_192
          refine ok_chk (by omega) ?_
          exact ih S6_z v1_ (v2_ + 1) h9_y (by omega) (by omega)
        · unfold f_M_judge_192
          refine ok_chk (by omega) ?_
          exact ih S v1_ (v2_ + 1) hC (by omega) (by omega)
      · unfold f_M_judge_192
        refine ok_chk (by omega) ?_
        exact ih S v1_ (v2_ + 1) hC (by omega) (by omega)
set_option maxHeartbeats 4000000 in
theorem okl_M_judge_146 {b : Nat} : ∀ (n : Nat) (S : SS) (v1_ : Int), MX b S → (0 ≤ v1_ ∧ v1_ ≤ 10) → 10 - v1_ < (n : Int) → okk (f_M_judge_146 n S v1_) (fun S1 => MX b S1 ∧ (True)) := by
  intro n
  induction n with
  | zero => intro S v1_ hC hi hm; exfalso; omega
  | succ n ih =>
    intro S v1_ hC hi hm
    have hm : 10 - v1_ < (n : Int) + 1 := by omega
    show okk (f_M_judge_146_b (f_M_judge_146 n) S v1_) _
    unfold f_M_judge_146_b
    refine ok_if (fun c1_y => ?_) (fun c1_y => ?_)
    · exact ok_some ⟨hC, by trivial⟩
    · exact okl_M_judge_154  _ (v1_) (fun S v1_ hC e => ih S v1_ hC (by omega) (by omega)) FU S v1_ 0 hC (by omega) (by unfold FU; omega)
set_option maxHeartbeats 4000000 in
theorem okl_M_judge_2 {b : Nat} : ∀ (n : Nat) (S : SS) (v1_ : Int), MX b S → (0 ≤ v1_ ∧ v1_ ≤ 40) → 40 - v1_ < (n : Int) → okk (f_M_judge_2 n S v1_) (fun S1 => MX b S1 ∧ (True)) := by
  intro n
  induction n with
  | zero => intro S v1_ hC hi hm; exfalso; omega
  | succ n ih =>
    intro S v1_ hC hi hm
    have hm : 40 - v1_ < (n : Int) + 1 := by omega
    show okk (f_M_judge_2_b (f_M_judge_2 n) S v1_) _
    unfold f_M_judge_2_b
    have b1_y := mx_192_27 hC
    refine ok_if (fun c2_y => ?_) (fun c2_y => ?_)
    · exact okl_M_judge_146  FU S 0 hC (by omega) (by unfold FU; omega)
    · refine ok_chk (by omega) ?_
      refine ok_lt (fun S2_z eS2_z => ?_)
      have h3_y : MX b S2_z := by rw [eS2_z]; exact ms_213 hC (by omega) (by omega)
      have f4_y : gi S2_z 192 27 = gi S 192 27 := gi_ne eS2_z (by omega)
      refine ok_chk (by omega) ?_
      exact okl_M_judge_24  _ (v1_) (fun S v1_ hC e => ih S v1_ hC (by omega) (by omega)) FU S2_z v1_ ((gi S2_z 192 27) - 1) h3_y (by omega) (by unfold FU; omega)
set_option maxHeartbeats 4000000 in
theorem ok_M_judge {b : Nat} (S : SS) (hC : MX b S) : okk (f_M_judge S) (fun S1 => MX b S1 ∧ (True)) := by
  unfold f_M_judge
  exact okl_M_judge_2  FU S 0 hC (by omega) (by unfold FU; omega)
set_option maxHeartbeats 4000000 in
theorem ok_M_mark {b : Nat} (S : SS) (v1 : Int) (v2 : Int) (hC : MX b S) (hp0 : i32 v2) : okk (f_M_mark S v1 v2) (fun u => MX b u.2 ∧ (True)) := by
  unfold f_M_mark
  refine ok_b1 (ok_M_isMark S v1 hC) (fun r1x1_z h2_y => ?_)
  refine ok_if (fun c3_y => ?_) (fun c3_y => ?_)
  · exact ok_some ⟨hC, by trivial⟩
  · refine ok_chk (by omega) ?_
    have b4_y := mx_204 hC (v1).toNat
    refine ok_chk (by omega) ?_
    have b5_y := in01 S v2 10 (9 + (gi S 204 (v1).toNat))
    refine ok_if (fun c6_y => ?_) (fun c6_y => ?_)
    · refine ok_b1 (ok_M_judge S hC) (fun S8x1_z h7_y => ?_)
      obtain ⟨h8_y, p9_y⟩ := h7_y
      refine ok_if (fun c10_y => ?_) (fun c10_y => ?_)
      · refine ok_chk (by omega) ?_
        have b11_y := mx_199 h8_y (v1).toNat
        exact ok_some ⟨h8_y, by trivial⟩
      · refine ok_if (fun c12_y => ?_) (fun c12_y => ?_)
        · refine ok_chk (by omega) ?_
          have b13_y := mx_200 h8_y (v1).toNat
          exact ok_some ⟨h8_y, by trivial⟩
        · refine ok_if (fun c14_y => ?_) (fun c14_y => ?_)
          · refine ok_chk (by omega) ?_
            have b15_y := mx_201 h8_y (v1).toNat
            exact ok_some ⟨h8_y, by trivial⟩
          · refine ok_if (fun c16_y => ?_) (fun c16_y => ?_)
            · refine ok_chk (by omega) ?_
              have b17_y := mx_202 h8_y (v1).toNat
              exact ok_some ⟨h8_y, by trivial⟩
            · refine ok_if (fun c18_y => ?_) (fun c18_y => ?_)
              · refine ok_chk (by omega) ?_
                have b19_y := mx_203 h8_y (v1).toNat
                exact ok_some ⟨h8_y, by trivial⟩
              · refine ok_if (fun c20_y => ?_) (fun c20_y => ?_)
                · refine ok_chk (by omega) ?_
                  have b21_y := mx_204 h8_y (v1).toNat
                  exact ok_some ⟨h8_y, by trivial⟩
                · refine ok_if (fun c22_y => ?_) (fun c22_y => ?_)
                  · refine ok_chk (by omega) ?_
                    have b23_y := mx_212 h8_y (v1).toNat
                    exact ok_some ⟨h8_y, by trivial⟩
                  · refine ok_if (fun c24_y => ?_) (fun c24_y => ?_)
                    · refine ok_chk (by omega) ?_
                      have b25_y := mx_213 h8_y (v1).toNat
                      exact ok_some ⟨h8_y, by trivial⟩
                    · refine ok_if (fun c26_y => ?_) (fun c26_y => ?_)
                      · refine ok_chk (by omega) ?_
                        have b27_y := mx_208 h8_y (v1).toNat
                        refine ok_if (fun c28_y => ?_) (fun c28_y => ?_)
                        · exact ok_some ⟨h8_y, by trivial⟩
                        · exact ok_some ⟨h8_y, by trivial⟩
                      · exact ok_some ⟨h8_y, by trivial⟩
    · refine ok_chk (by omega) ?_
      refine ok_chk (by omega) ?_
      refine ok_chk (by omega) ?_
      refine ok_chk (by omega) ?_
      have b29_y := l2i_rng (gl S 206 (((6 * v1) + v2) - 10).toNat)
      exact ok_some ⟨hC, by trivial⟩
set_option maxHeartbeats 4000000 in
theorem ok_M_answer {b : Nat} (S : SS) (v1 : Int) (v2 : Int) (hC : MX b S) : okk (f_M_answer S v1 v2) (fun u => MX b u.2 ∧ (True)) := by
  unfold f_M_answer
  refine ok_b1 (ok_M_isMark S v1 hC) (fun r1x1_z h2_y => ?_)
  refine ok_if (fun c3_y => ?_) (fun c3_y => ?_)
  · exact ok_some ⟨hC, by trivial⟩
  · refine ok_b1 (ok_M_judge S hC) (fun S3x1_z h4_y => ?_)
    obtain ⟨h5_y, p6_y⟩ := h4_y
    refine ok_chk (by omega) ?_
    have b7_y := mx_212 h5_y (v1).toNat
    refine ok_if (fun c8_y => ?_) (fun c8_y => ?_)
    · refine ok_if (fun c9_y => ?_) (fun c9_y => ?_)
      · unfold f_M_answer_42
        refine ok_chk (by omega) ?_
        refine ok_lt (fun S1x10_z eS1x10_z => ?_)
        have h11_y : MX b S1x10_z := by rw [eS1x10_z]; exact ms_205 h5_y (by omega) (by omega)
        have f12_y : gi S1x10_z 212 (v1).toNat = gi S3x1_z 212 (v1).toNat := gi_ne eS1x10_z (by omega)
        exact ok_some ⟨h11_y, by trivial⟩
      · unfold f_M_answer_42
        refine ok_chk (by omega) ?_
        refine ok_lt (fun S1x13_z eS1x13_z => ?_)
        have h14_y : MX b S1x13_z := by rw [eS1x13_z]; exact ms_205 h5_y (by omega) (by omega)
        have f15_y : gi S1x13_z 212 (v1).toNat = gi S3x1_z 212 (v1).toNat := gi_ne eS1x13_z (by omega)
        exact ok_some ⟨h14_y, by trivial⟩
    · exact ok_some ⟨h5_y, by trivial⟩
set_option maxHeartbeats 4000000 in
theorem ok_M_rank {b : Nat} (S : SS) (v1 : Int) (v2 : Int) (hC : MX b S) : okk (f_M_rank S v1 v2) (fun u => MX b u.2 ∧ (True)) := by
  unfold f_M_rank
  have b2_y := in01 S v1 0 2
  refine ok_if (fun c3_y => ?_) (fun c3_y => ?_)
  · exact ok_some ⟨hC, by trivial⟩
  · have b4_y := in01 S v2 0 9
    refine ok_if (fun c5_y => ?_) (fun c5_y => ?_)
    · exact ok_some ⟨hC, by trivial⟩
    · refine ok_chk (by omega) ?_
      refine ok_chk (by omega) ?_
      refine ok_lt (fun S6x1_z eS6x1_z => ?_)
      have h6_y : MX b S6x1_z := by rw [eS6x1_z]; exact ms_209 hC (by omega) (by omega)
      have b7_y := mx_209 hC (v1).toNat
      exact ok_some ⟨h6_y, by trivial⟩
set_option maxHeartbeats 4000000 in
theorem okl_M_use_8 {b : Nat} (v1 : Int) : ∀ (n : Nat) (S : SS) (v2_ : Int) (v3_ : Int), MX b S → (0 ≤ v2_ ∧ v2_ ≤ v3_ ∧ 0 ≤ v3_ ∧ v3_ ≤ 40) → 40 - v3_ < (n : Int) → okk (f_M_use_8 v1 n S v2_ v3_) (fun S1 => MX b S1 ∧ (True)) := by
  intro n
  induction n with
  | zero => intro S v2_ v3_ hC hi hm; exfalso; omega
  | succ n ih =>
    intro S v2_ v3_ hC hi hm
    have hm : 40 - v3_ < (n : Int) + 1 := by omega
    show okk (f_M_use_8_b v1 (f_M_use_8 v1 n) S v2_ v3_) _
    unfold f_M_use_8_b
    have b1_y := mx_192_27 hC
    refine ok_if (fun c2_y => ?_) (fun c2_y => ?_)
    · exact ok_some ⟨hC, by trivial⟩
    · refine ok_chk (by omega) ?_
      have b3_y := mx_212 hC (v3_).toNat
      refine ok_if (fun c4_y => ?_) (fun c4_y => ?_)
      · unfold f_M_use_35
        refine ok_chk (by omega) ?_
        refine ok_chk (by omega) ?_
        refine ok_lt (fun S2x5_z eS2x5_z => ?_)
        have h6_y : MX b S2x5_z := by rw [eS2x5_z]; exact ms_214 hC (by omega) (by omega)
        have f7_y : gi S2x5_z 212 (v3_).toNat = gi S 212 (v3_).toNat := gi_ne eS2x5_z (by omega)
        have f8_y : gi S2x5_z 192 27 = gi S 192 27 := gi_ne eS2x5_z (by omega)
        refine ok_chk (by omega) ?_
        have b9_y := mx_214 h6_y (v3_).toNat
        refine ok_if (fun c10_y => ?_) (fun c10_y => ?_)
        · unfold f_M_use_73
          refine ok_chk (by omega) ?_
          exact ih S2x5_z v2_ (v3_ + 1) h6_y (by omega) (by omega)
        · refine ok_if (fun c12_y => ?_) (fun c12_y => ?_)
          · unfold f_M_use_70
            refine ok_chk (by omega) ?_
            unfold f_M_use_73
            refine ok_chk (by omega) ?_
            exact ih S2x5_z (v2_ + 1) (v3_ + 1) h6_y (by omega) (by omega)
          · have b15_y := andi1 (shri v1 v2_)
            refine ok_if (fun c16_y => ?_) (fun c16_y => ?_)
            · refine ok_chk (by omega) ?_
              refine ok_lt (fun S6x5_z eS6x5_z => ?_)
              have h17_y : MX b S6x5_z := by rw [eS6x5_z]; exact ms_214 h6_y (by omega) (by omega)
              have f18_y : gi S6x5_z 214 (v3_).toNat = 0 := gi_eq eS6x5_z
              have f19_y : gi S6x5_z 212 (v3_).toNat = gi S2x5_z 212 (v3_).toNat := gi_ne eS6x5_z (by omega)
              have f20_y : gi S6x5_z 192 27 = gi S2x5_z 192 27 := gi_ne eS6x5_z (by omega)
              unfold f_M_use_70
              refine ok_chk (by omega) ?_
              unfold f_M_use_73
              refine ok_chk (by omega) ?_
              exact ih S6x5_z (v2_ + 1) (v3_ + 1) h17_y (by omega) (by omega)
            · unfold f_M_use_70
              refine ok_chk (by omega) ?_
              unfold f_M_use_73
              refine ok_chk (by omega) ?_
              exact ih S2x5_z (v2_ + 1) (v3_ + 1) h6_y (by omega) (by omega)
      · unfold f_M_use_35
        refine ok_chk (by omega) ?_
        refine ok_chk (by omega) ?_
        refine ok_lt (fun S2x25_z eS2x25_z => ?_)
        have h26_y : MX b S2x25_z := by rw [eS2x25_z]; exact ms_214 hC (by omega) (by omega)
        have f27_y : gi S2x25_z 212 (v3_).toNat = gi S 212 (v3_).toNat := gi_ne eS2x25_z (by omega)
        have f28_y : gi S2x25_z 192 27 = gi S 192 27 := gi_ne eS2x25_z (by omega)
        refine ok_chk (by omega) ?_
        have b29_y := mx_214 h26_y (v3_).toNat
        refine ok_if (fun c30_y => ?_) (fun c30_y => ?_)
        · unfold f_M_use_73
          refine ok_chk (by omega) ?_
          exact ih S2x25_z v2_ (v3_ + 1) h26_y (by omega) (by omega)
        · refine ok_if (fun c32_y => ?_) (fun c32_y => ?_)
          · unfold f_M_use_70
            refine ok_chk (by omega) ?_
            unfold f_M_use_73
            refine ok_chk (by omega) ?_
            exact ih S2x25_z (v2_ + 1) (v3_ + 1) h26_y (by omega) (by omega)
          · have b35_y := andi1 (shri v1 v2_)
            refine ok_if (fun c36_y => ?_) (fun c36_y => ?_)
            · refine ok_chk (by omega) ?_
              refine ok_lt (fun S6x25_z eS6x25_z => ?_)
              have h37_y : MX b S6x25_z := by rw [eS6x25_z]; exact ms_214 h26_y (by omega) (by omega)
              have f38_y : gi S6x25_z 214 (v3_).toNat = 0 := gi_eq eS6x25_z
              have f39_y : gi S6x25_z 192 27 = gi S2x25_z 192 27 := gi_ne eS6x25_z (by omega)
              have f40_y : gi S6x25_z 212 (v3_).toNat = gi S2x25_z 212 (v3_).toNat := gi_ne eS6x25_z (by omega)
              unfold f_M_use_70
              refine ok_chk (by omega) ?_
              unfold f_M_use_73
              refine ok_chk (by omega) ?_
              exact ih S6x25_z (v2_ + 1) (v3_ + 1) h37_y (by omega) (by omega)
            · unfold f_M_use_70
              refine ok_chk (by omega) ?_
              unfold f_M_use_73
              refine ok_chk (by omega) ?_
              exact ih S2x25_z (v2_ + 1) (v3_ + 1) h26_y (by omega) (by omega)
set_option maxHeartbeats 4000000 in
theorem ok_M_use {b : Nat} (S : SS) (v1 : Int) (hC : MX b S) : okk (f_M_use S v1) (fun S1 => MX b S1 ∧ (True)) := by
  unfold f_M_use
  refine ok_b1 (ok_M_judge S hC) (fun S1x1_z h2_y => ?_)
  obtain ⟨h3_y, p4_y⟩ := h2_y
  exact okl_M_use_8 v1 FU S1x1_z 0 0 h3_y (by omega) (by unfold FU; omega)
