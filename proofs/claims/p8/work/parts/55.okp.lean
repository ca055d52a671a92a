theorem mx_M_wrong {b : Nat} {S : SS} (hC : MX b S) {v1 v2 : Int} (h1 : i32 v1) (h2 : i32 v2) : MX b (f_M_wrong S v1 v2) := ms_192_15 (ms_192_14 hC (by omega) (by omega)) (by omega) (by omega)
set_option maxHeartbeats 4000000 in
theorem okl_M_readProof_7 {b : Nat} (v1 : Int) (hp0 : 0 ≤ v1 ∧ v1 ≤ 150) : ∀ (n : Nat) (S : SS) (v2_ : Int) (v3_ : Int) (v4_ : Int), MX b S → (0 ≤ v2_ ∧ v2_ ≤ v1 ∧ (v3_ = 0 ∨ 1 ≤ v2_) ∧ 0 ≤ v3_ ∧ v3_ ≤ 8 ∧ 0 ≤ v4_ ∧ v4_ ≤ 2000) → 2000 - v4_ < (n : Int) → okk (f_M_readProof_7 v1 n S v2_ v3_ v4_) (fun u => MX b u.2 ∧ (∀ r, u.1 = some r → 0 ≤ r ∧ r ≤ v1)) := by
  intro n
  induction n with
  | zero => intro S v2_ v3_ v4_ hC hi hm; exfalso; omega
  | succ n ih =>
    intro S v2_ v3_ v4_ hC hi hm
    have hm : 2000 - v4_ < (n : Int) + 1 := by omega
    show okk (f_M_readProof_7_b v1 (f_M_readProof_7 v1 n) S v2_ v3_ v4_) _
    unfold f_M_readProof_7_b
    have b1_y := mx_192_9 hC
    refine ok_if (fun c2_y => ?_) (fun c2_y => ?_)
    · exact ok_some ⟨hC, fun r h => by cases h; omega⟩
    · have b4_y := mx_192_10 hC
      have b5_y := mx_192_11 hC
      refine ok_b1 (ok_M_byteAt S v4_ hC (by omega)) (fun r2_z h3_y => ?_)
      refine ok_if (fun c6_y => ?_) (fun c6_y => ?_)
      · refine ok_if (fun c7_y => ?_) (fun c7_y => ?_)
        · unfold f_M_readProof_51
          refine ok_lt (fun S1x8_z eS1x8_z => ?_)
          have h9_y : MX b S1x8_z := by rw [eS1x8_z]; exact mx_M_wrong hC (by omega) (by omega)
          exact ok_some ⟨h9_y, fun r h => by cases h⟩
        · refine ok_if (fun c10_y => ?_) (fun c10_y => ?_)
          · unfold f_M_readProof_51
            refine ok_lt (fun S1x11_z eS1x11_z => ?_)
            have h12_y : MX b S1x11_z := by rw [eS1x11_z]; exact mx_M_wrong hC (by omega) (by omega)
            exact ok_some ⟨h12_y, fun r h => by cases h⟩
          · refine ok_if (fun c13_y => ?_) (fun c13_y => ?_)
            · refine ok_if (fun c14_y => ?_) (fun c14_y => ?_)
              · refine ok_lt (fun S8_z eS8_z => ?_)
                have h15_y : MX b S8_z := by rw [eS8_z]; exact mx_M_wrong hC (by omega) (by omega)
                exact ok_some ⟨h15_y, fun r h => by cases h⟩
              · refine ok_chk (by omega) ?_
                refine ok_lt (fun S6_z eS6_z => ?_)
                have h16_y : MX b S6_z := by rw [eS6_z]; exact ms_sl hC
                have f17_y : gi S6_z 192 9 = gi S 192 9 := gi_sl eS6_z
                have f18_y : gi S6_z 192 11 = gi S 192 11 := gi_sl eS6_z
                have f19_y : gi S6_z 192 10 = gi S 192 10 := gi_sl eS6_z
                refine ok_chk (by omega) ?_
                unfold f_M_readProof_86
                refine ok_chk (by omega) ?_
                refine ok_chk (by omega) ?_
                refine ok_chk (by omega) ?_
                refine ok_chk (by omega) ?_
                have b21_y := i2l_rng r2_z
                refine ok_lt (fun S5x20_z eS5x20_z => ?_)
                have h22_y : MX b S5x20_z := by rw [eS5x20_z]; exact ms_sl h16_y
                have f23_y : gi S5x20_z 192 9 = gi S6_z 192 9 := gi_sl eS5x20_z
                have f24_y : gi S5x20_z 192 11 = gi S6_z 192 11 := gi_sl eS5x20_z
                have f25_y : gi S5x20_z 192 10 = gi S6_z 192 10 := gi_sl eS5x20_z
                refine ok_chk (by omega) ?_
                unfold f_M_readProof_112
                refine ok_chk (by omega) ?_
                exact ih S5x20_z (v2_ + 1) (v3_ + 1) (v4_ + 1) h22_y (by omega) (by omega)
            · unfold f_M_readProof_86
              refine ok_chk (by omega) ?_
              refine ok_chk (by omega) ?_
              refine ok_chk (by omega) ?_
              refine ok_chk (by omega) ?_
              have b28_y := i2l_rng r2_z
              refine ok_lt (fun S5x27_z eS5x27_z => ?_)
              have h29_y : MX b S5x27_z := by rw [eS5x27_z]; exact ms_sl hC
              have f30_y : gi S5x27_z 192 9 = gi S 192 9 := gi_sl eS5x27_z
              have f31_y : gi S5x27_z 192 11 = gi S 192 11 := gi_sl eS5x27_z
              have f32_y : gi S5x27_z 192 10 = gi S 192 10 := gi_sl eS5x27_z
              refine ok_chk (by omega) ?_
              unfold f_M_readProof_112
              refine ok_chk (by omega) ?_
              exact ih S5x27_z v2_ (v3_ + 1) (v4_ + 1) h29_y (by omega) (by omega)
      · unfold f_M_readProof_112
        refine ok_chk (by omega) ?_
        exact ih S v2_ 0 (v4_ + 1) hC (by omega) (by omega)
set_option maxHeartbeats 4000000 in
theorem ok_M_readProof {b : Nat} (S : SS) (v1 : Int) (hC : MX b S) (hp0 : 0 ≤ v1 ∧ v1 ≤ 150) : okk (f_M_readProof S v1) (fun u => MX b u.2 ∧ (∀ r, u.1 = some r → 0 ≤ r ∧ r ≤ v1)) := by
  unfold f_M_readProof
  exact okl_M_readProof_7 v1 (by omega) FU S 0 0 0 hC (by omega) (by unfold FU; omega)
theorem dig01 (S : SS) (v : Int) : (f_M_isDigit S v = 0 ∧ (v < 48 ∨ 57 < v)) ∨ (f_M_isDigit S v = 1 ∧ 48 ≤ v ∧ v ≤ 57) := by
  unfold f_M_isDigit
  split
  · exact .inl ⟨rfl, by omega⟩
  · split
    · exact .inl ⟨rfl, by omega⟩
    · exact .inr ⟨rfl, by omega⟩
theorem sma01 (S : SS) (v : Int) : f_M_isSmall S v = 0 ∨ (f_M_isSmall S v = 1 ∧ 97 ≤ v) := by
  unfold f_M_isSmall
  split
  · exact .inl rfl
  · split
    · exact .inl rfl
    · exact .inr ⟨rfl, by omega⟩
theorem mx_M_begin {b : Nat} {S : SS} (hC : MX b S) : MX 1 (f_M_begin S) := by
  have b8 := mx_192_8 hC
  have h1 : MX 0 (si S 192 9 (gi S 192 8)) := ms_192_9 hC.weak (by decide) (by omega) (by omega)
  have h5 : MX 0 (f_M_begin S) := ms_192_15 (ms_192_14 (ms_192_11 (ms_192_8 h1 (by omega) (by omega)) (fun q => absurd q (by decide)) (by omega) (by omega)) (by omega) (by omega)) (by omega) (by omega)
  refine ⟨fun _ => ?_, h5.2⟩
  have b9 := mx_192_9 h5
  have z : gi (f_M_begin S) 192 11 = 0 := rfl
  omega
set_option maxHeartbeats 4000000 in
theorem okl_M_scan_81 : ∀ (n : Nat) (S : SS), MX 1 S → (gi S 192 11 ≤ 2000 ∧ 0 ≤ gi S 192 10 ∧ gi S 192 9 ≤ 2000) → 2001 - gi S 192 11 < (n : Int) → okk (f_M_scan_81 n S) (fun S1 => MX 1 S1 ∧ (True)) := by
  intro n
  induction n with
  | zero => intro S hC hi hm; exfalso; omega
  | succ n ih =>
    intro S hC hi hm
    have hm : 2001 - gi S 192 11 < (n : Int) + 1 := by omega
    show okk (f_M_scan_81_b (f_M_scan_81 n) S) _
    unfold f_M_scan_81_b
    have b1_y := And.intro ((hC).1 rfl) (mx_192_11 hC)
    have b2_y := mx_192_10 hC
    have b3_y := And.intro ((hC).1 rfl) (mx_192_9 hC)
    refine ok_b1 (ok_M_byteAt S (gi S 192 11) hC (by omega)) (fun r2_z h4_y => ?_)
    have b5_y := sma01 S r2_z
    refine ok_if (fun c6_y => ?_) (fun c6_y => ?_)
    · refine ok_lt (fun S5_z eS5_z => ?_)
      have h7_y : MX 1 S5_z := by rw [eS5_z]; exact ms_192_12 hC (by omega) (by omega)
      have f8_y : gi S5_z 192 12 = 1 := gi_eq eS5_z
      have f9_y : gi S5_z 192 9 = gi S 192 9 := gi_ne eS5_z (by omega)
      have f10_y : gi S5_z 192 10 = gi S 192 10 := gi_ne eS5_z (by omega)
      have f11_y : gi S5_z 192 11 = gi S 192 11 := gi_ne eS5_z (by omega)
      exact ok_some ⟨h7_y, by trivial⟩
    · refine ok_chk (by omega) ?_
      refine ok_lt (fun S8_z eS8_z => ?_)
      have h12_y : MX 1 S8_z := by rw [eS8_z]; exact ms_192_11 hC (fun _ => by omega) (by omega) (by omega)
      have f13_y : gi S8_z 192 9 = gi S 192 9 := gi_ne eS8_z (by omega)
      have f14_y : gi S8_z 192 11 = (gi S 192 11) + 1 := gi_eq eS8_z
      have f15_y : gi S8_z 192 10 = gi S 192 10 := gi_ne eS8_z (by omega)
      exact ih S8_z h12_y (by omega) (by omega)
set_option maxHeartbeats 4000000 in
theorem okl_M_scan_128 : ∀ (n : Nat) (S : SS), MX 1 S → (gi S 192 11 ≤ 2000 ∧ 0 ≤ gi S 192 10 ∧ gi S 192 9 ≤ 2000 ∧ 0 ≤ gi S 192 13 ∧ ((gi S 192 11 = gi S 192 10 ∧ gi S 192 13 = 0) ∨ (gi S 192 11 = gi S 192 10 + 1 ∧ gi S 192 13 ≤ 9) ∨ (gi S 192 11 = gi S 192 10 + 2 ∧ gi S 192 13 ≤ 99) ∨ (gi S 192 10 + 3 ≤ gi S 192 11 ∧ gi S 192 13 ≤ 999))) → 2001 - gi S 192 11 < (n : Int) → okk (f_M_scan_128 n S) (fun S1 => MX 1 S1 ∧ (True)) := by
  intro n
  induction n with
  | zero => intro S hC hi hm; exfalso; omega
  | succ n ih =>
    intro S hC hi hm
    have hm : 2001 - gi S 192 11 < (n : Int) + 1 := by omega
    show okk (f_M_scan_128_b (f_M_scan_128 n) S) _
    unfold f_M_scan_128_b
    have b1_y := And.intro ((hC).1 rfl) (mx_192_11 hC)
    have b2_y := mx_192_10 hC
    have b3_y := And.intro ((hC).1 rfl) (mx_192_9 hC)
    have b4_y := mx_192_13 hC
    refine ok_b1 (ok_M_byteAt S (gi S 192 11) hC (by omega)) (fun r2_z h5_y => ?_)
    have b6_y := dig01 S r2_z
    refine ok_if (fun c7_y => ?_) (fun c7_y => ?_)
    · refine ok_chk (by omega) ?_
      refine ok_if (fun c8_y => ?_) (fun c8_y => ?_)
      · unfold f_M_scan_210
        refine ok_lt (fun S1x9_z eS1x9_z => ?_)
        have h10_y : MX 1 S1x9_z := by rw [eS1x9_z]; exact ms_192_12 hC (by omega) (by omega)
        have f11_y : gi S1x9_z 192 12 = 2 := gi_eq eS1x9_z
        have f12_y : gi S1x9_z 192 9 = gi S 192 9 := gi_ne eS1x9_z (by omega)
        have f13_y : gi S1x9_z 192 13 = gi S 192 13 := gi_ne eS1x9_z (by omega)
        have f14_y : gi S1x9_z 192 10 = gi S 192 10 := gi_ne eS1x9_z (by omega)
        have f15_y : gi S1x9_z 192 11 = gi S 192 11 := gi_ne eS1x9_z (by omega)
        exact ok_some ⟨h10_y, by trivial⟩
      · unfold f_M_scan_210
        refine ok_lt (fun S1x16_z eS1x16_z => ?_)
        have h17_y : MX 1 S1x16_z := by rw [eS1x16_z]; exact ms_192_12 hC (by omega) (by omega)
        have f18_y : gi S1x16_z 192 12 = 4 := gi_eq eS1x16_z
        have f19_y : gi S1x16_z 192 9 = gi S 192 9 := gi_ne eS1x16_z (by omega)
        have f20_y : gi S1x16_z 192 13 = gi S 192 13 := gi_ne eS1x16_z (by omega)
        have f21_y : gi S1x16_z 192 10 = gi S 192 10 := gi_ne eS1x16_z (by omega)
        have f22_y : gi S1x16_z 192 11 = gi S 192 11 := gi_ne eS1x16_z (by omega)
        exact ok_some ⟨h17_y, by trivial⟩
    · refine ok_chk (by omega) ?_
      refine ok_if (fun c23_y => ?_) (fun c23_y => ?_)
      · unfold f_M_scan_178
        refine ok_chk (by omega) ?_
        refine ok_lt (fun S3x24_z eS3x24_z => ?_)
        have h25_y : MX 1 S3x24_z := by rw [eS3x24_z]; exact ms_192_11 hC (fun _ => by omega) (by omega) (by omega)
        have f26_y : gi S3x24_z 192 9 = gi S 192 9 := gi_ne eS3x24_z (by omega)
        have f27_y : gi S3x24_z 192 13 = gi S 192 13 := gi_ne eS3x24_z (by omega)
        have f28_y : gi S3x24_z 192 10 = gi S 192 10 := gi_ne eS3x24_z (by omega)
        have f29_y : gi S3x24_z 192 11 = (gi S 192 11) + 1 := gi_eq eS3x24_z
        exact ih S3x24_z h25_y (by omega) (by omega)
      · refine ok_chk (by omega) ?_
        refine ok_b1 (ok_M_byteAt S (gi S 192 11) hC (by omega)) (fun r14_z h30_y => ?_)
        refine ok_chk (by omega) ?_
        refine ok_chk (by omega) ?_
        refine ok_lt (fun S18_z eS18_z => ?_)
        have h31_y : MX 1 S18_z := by rw [eS18_z]; exact ms_192_13 hC (by omega) (by omega)
        have f32_y : gi S18_z 192 9 = gi S 192 9 := gi_ne eS18_z (by omega)
        have f33_y : gi S18_z 192 13 = ((10 * (gi S 192 13)) + r14_z) - 48 := gi_eq eS18_z
        have f34_y : gi S18_z 192 10 = gi S 192 10 := gi_ne eS18_z (by omega)
        have f35_y : gi S18_z 192 11 = gi S 192 11 := gi_ne eS18_z (by omega)
        unfold f_M_scan_178
        refine ok_chk (by omega) ?_
        refine ok_lt (fun S3x36_z eS3x36_z => ?_)
        have h37_y : MX 1 S3x36_z := by rw [eS3x36_z]; exact ms_192_11 h31_y (fun _ => by omega) (by omega) (by omega)
        have f38_y : gi S3x36_z 192 10 = gi S18_z 192 10 := gi_ne eS3x36_z (by omega)
        have f39_y : gi S3x36_z 192 13 = gi S18_z 192 13 := gi_ne eS3x36_z (by omega)
        have f40_y : gi S3x36_z 192 9 = gi S18_z 192 9 := gi_ne eS3x36_z (by omega)
        have f41_y : gi S3x36_z 192 11 = (gi S18_z 192 11) + 1 := gi_eq eS3x36_z
        exact ih S3x36_z h37_y (by omega) (by omega)
set_option maxHeartbeats 4000000 in
theorem okl_M_scan_0 : ∀ (n : Nat) (S : SS), MX 1 S → (gi S 192 11 ≤ 2000 ∧ 0 ≤ gi S 192 10 ∧ gi S 192 9 ≤ 2000) → 2001 - gi S 192 11 < (n : Int) → okk (f_M_scan_0 n S) (fun S1 => MX 1 S1 ∧ (True)) := by
  intro n
  induction n with
  | zero => intro S hC hi hm; exfalso; omega
  | succ n ih =>
    intro S hC hi hm
    have hm : 2001 - gi S 192 11 < (n : Int) + 1 := by omega
    show okk (f_M_scan_0_b (f_M_scan_0 n) S) _
    unfold f_M_scan_0_b
    have b1_y := And.intro ((hC).1 rfl) (mx_192_11 hC)
    have b2_y := mx_192_10 hC
    have b3_y := And.intro ((hC).1 rfl) (mx_192_9 hC)
    refine ok_if (fun c4_y => ?_) (fun c4_y => ?_)
    · unfold f_M_scan_38
      refine ok_lt (fun S2x5_z eS2x5_z => ?_)
      have h6_y : MX 1 S2x5_z := by rw [eS2x5_z]; exact ms_192_10 hC (by omega) (by omega)
      have f7_y : gi S2x5_z 192 9 = gi S 192 9 := gi_ne eS2x5_z (by omega)
      have f8_y : gi S2x5_z 192 11 = gi S 192 11 := gi_ne eS2x5_z (by omega)
      have f9_y : gi S2x5_z 192 10 = gi S 192 11 := gi_eq eS2x5_z
      refine ok_b1 (ok_M_byteAt S2x5_z (gi S2x5_z 192 10) h6_y (by omega)) (fun r4x5_z h10_y => ?_)
      refine ok_if (fun c11_y => ?_) (fun c11_y => ?_)
      · refine ok_lt (fun S11x5_z eS11x5_z => ?_)
        have h12_y : MX 1 S11x5_z := by rw [eS11x5_z]; exact ms_192_12 h6_y (by omega) (by omega)
        have f13_y : gi S11x5_z 192 12 = 0 := gi_eq eS11x5_z
        have f14_y : gi S11x5_z 192 11 = gi S2x5_z 192 11 := gi_ne eS11x5_z (by omega)
        have f15_y : gi S11x5_z 192 10 = gi S2x5_z 192 10 := gi_ne eS11x5_z (by omega)
        have f16_y : gi S11x5_z 192 9 = gi S2x5_z 192 9 := gi_ne eS11x5_z (by omega)
        exact ok_some ⟨h12_y, by trivial⟩
      · have b17_y := sma01 S2x5_z r4x5_z
        refine ok_if (fun c18_y => ?_) (fun c18_y => ?_)
        · have b19_y := dig01 S2x5_z r4x5_z
          refine ok_if (fun c20_y => ?_) (fun c20_y => ?_)
          · refine ok_if (fun c21_y => ?_) (fun c21_y => ?_)
            · unfold f_M_scan_235
              unfold f_M_scan_240
              refine ok_lt (fun S1x23_z eS1x23_z => ?_)
              have h24_y : MX 1 S1x23_z := by rw [eS1x23_z]; exact ms_192_12 h6_y (by omega) (by omega)
              have f25_y : gi S1x23_z 192 12 = 3 := gi_eq eS1x23_z
              have f26_y : gi S1x23_z 192 9 = gi S2x5_z 192 9 := gi_ne eS1x23_z (by omega)
              have f27_y : gi S1x23_z 192 11 = gi S2x5_z 192 11 := gi_ne eS1x23_z (by omega)
              have f28_y : gi S1x23_z 192 10 = gi S2x5_z 192 10 := gi_ne eS1x23_z (by omega)
              refine ok_chk (by omega) ?_
              refine ok_lt (fun S4x23_z eS4x23_z => ?_)
              have h29_y : MX 1 S4x23_z := by rw [eS4x23_z]; exact ms_192_11 h24_y (fun _ => by omega) (by omega) (by omega)
              have f30_y : gi S4x23_z 192 10 = gi S1x23_z 192 10 := gi_ne eS4x23_z (by omega)
              have f31_y : gi S4x23_z 192 12 = gi S1x23_z 192 12 := gi_ne eS4x23_z (by omega)
              have f32_y : gi S4x23_z 192 11 = (gi S1x23_z 192 11) + 1 := gi_eq eS4x23_z
              have f33_y : gi S4x23_z 192 9 = gi S1x23_z 192 9 := gi_ne eS4x23_z (by omega)
              exact ok_some ⟨h29_y, by trivial⟩
            · refine ok_if (fun c34_y => ?_) (fun c34_y => ?_)
              · unfold f_M_scan_235
                unfold f_M_scan_240
                refine ok_lt (fun S1x36_z eS1x36_z => ?_)
                have h37_y : MX 1 S1x36_z := by rw [eS1x36_z]; exact ms_192_12 h6_y (by omega) (by omega)
                have f38_y : gi S1x36_z 192 12 = 3 := gi_eq eS1x36_z
                have f39_y : gi S1x36_z 192 9 = gi S2x5_z 192 9 := gi_ne eS1x36_z (by omega)
                have f40_y : gi S1x36_z 192 11 = gi S2x5_z 192 11 := gi_ne eS1x36_z (by omega)
                have f41_y : gi S1x36_z 192 10 = gi S2x5_z 192 10 := gi_ne eS1x36_z (by omega)
                refine ok_chk (by omega) ?_
                refine ok_lt (fun S4x36_z eS4x36_z => ?_)
                have h42_y : MX 1 S4x36_z := by rw [eS4x36_z]; exact ms_192_11 h37_y (fun _ => by omega) (by omega) (by omega)
                have f43_y : gi S4x36_z 192 12 = gi S1x36_z 192 12 := gi_ne eS4x36_z (by omega)
                have f44_y : gi S4x36_z 192 9 = gi S1x36_z 192 9 := gi_ne eS4x36_z (by omega)
                have f45_y : gi S4x36_z 192 10 = gi S1x36_z 192 10 := gi_ne eS4x36_z (by omega)
                have f46_y : gi S4x36_z 192 11 = (gi S1x36_z 192 11) + 1 := gi_eq eS4x36_z
                exact ok_some ⟨h42_y, by trivial⟩
              · refine ok_if (fun c47_y => ?_) (fun c47_y => ?_)
                · unfold f_M_scan_235
                  unfold f_M_scan_240
                  refine ok_lt (fun S1x49_z eS1x49_z => ?_)
                  have h50_y : MX 1 S1x49_z := by rw [eS1x49_z]; exact ms_192_12 h6_y (by omega) (by omega)
                  have f51_y : gi S1x49_z 192 12 = 3 := gi_eq eS1x49_z
                  have f52_y : gi S1x49_z 192 9 = gi S2x5_z 192 9 := gi_ne eS1x49_z (by omega)
                  have f53_y : gi S1x49_z 192 11 = gi S2x5_z 192 11 := gi_ne eS1x49_z (by omega)
                  have f54_y : gi S1x49_z 192 10 = gi S2x5_z 192 10 := gi_ne eS1x49_z (by omega)
                  refine ok_chk (by omega) ?_
                  refine ok_lt (fun S4x49_z eS4x49_z => ?_)
                  have h55_y : MX 1 S4x49_z := by rw [eS4x49_z]; exact ms_192_11 h50_y (fun _ => by omega) (by omega) (by omega)
                  have f56_y : gi S4x49_z 192 9 = gi S1x49_z 192 9 := gi_ne eS4x49_z (by omega)
                  have f57_y : gi S4x49_z 192 11 = (gi S1x49_z 192 11) + 1 := gi_eq eS4x49_z
                  have f58_y : gi S4x49_z 192 10 = gi S1x49_z 192 10 := gi_ne eS4x49_z (by omega)
                  have f59_y : gi S4x49_z 192 12 = gi S1x49_z 192 12 := gi_ne eS4x49_z (by omega)
                  exact ok_some ⟨h55_y, by trivial⟩
                · unfold f_M_scan_240
                  refine ok_lt (fun S1x60_z eS1x60_z => ?_)
                  have h61_y : MX 1 S1x60_z := by rw [eS1x60_z]; exact ms_192_12 h6_y (by omega) (by omega)
                  have f62_y : gi S1x60_z 192 12 = 4 := gi_eq eS1x60_z
                  have f63_y : gi S1x60_z 192 9 = gi S2x5_z 192 9 := gi_ne eS1x60_z (by omega)
                  have f64_y : gi S1x60_z 192 11 = gi S2x5_z 192 11 := gi_ne eS1x60_z (by omega)
                  have f65_y : gi S1x60_z 192 10 = gi S2x5_z 192 10 := gi_ne eS1x60_z (by omega)
                  refine ok_chk (by omega) ?_
                  refine ok_lt (fun S4x60_z eS4x60_z => ?_)
                  have h66_y : MX 1 S4x60_z := by rw [eS4x60_z]; exact ms_192_11 h61_y (fun _ => by omega) (by omega) (by omega)
                  have f67_y : gi S4x60_z 192 12 = gi S1x60_z 192 12 := gi_ne eS4x60_z (by omega)
                  have f68_y : gi S4x60_z 192 11 = (gi S1x60_z 192 11) + 1 := gi_eq eS4x60_z
                  have f69_y : gi S4x60_z 192 10 = gi S1x60_z 192 10 := gi_ne eS4x60_z (by omega)
                  have f70_y : gi S4x60_z 192 9 = gi S1x60_z 192 9 := gi_ne eS4x60_z (by omega)
                  exact ok_some ⟨h66_y, by trivial⟩
          · refine ok_lt (fun S10x5_z eS10x5_z => ?_)
            have h71_y : MX 1 S10x5_z := by rw [eS10x5_z]; exact ms_192_13 h6_y (by omega) (by omega)
            have f72_y : gi S10x5_z 192 13 = 0 := gi_eq eS10x5_z
            have f73_y : gi S10x5_z 192 9 = gi S2x5_z 192 9 := gi_ne eS10x5_z (by omega)
            have f74_y : gi S10x5_z 192 11 = gi S2x5_z 192 11 := gi_ne eS10x5_z (by omega)
            have f75_y : gi S10x5_z 192 10 = gi S2x5_z 192 10 := gi_ne eS10x5_z (by omega)
            exact okl_M_scan_128  FU S10x5_z h71_y (by omega) (by unfold FU; omega)
        · exact okl_M_scan_81  FU S2x5_z h6_y (by omega) (by unfold FU; omega)
    · refine ok_b1 (ok_M_byteAt S (gi S 192 11) hC (by omega)) (fun r4_z h76_y => ?_)
      refine ok_if (fun c77_y => ?_) (fun c77_y => ?_)
      · unfold f_M_scan_38
        refine ok_lt (fun S2x78_z eS2x78_z => ?_)
        have h79_y : MX 1 S2x78_z := by rw [eS2x78_z]; exact ms_192_10 hC (by omega) (by omega)
        have f80_y : gi S2x78_z 192 9 = gi S 192 9 := gi_ne eS2x78_z (by omega)
        have f81_y : gi S2x78_z 192 11 = gi S 192 11 := gi_ne eS2x78_z (by omega)
        have f82_y : gi S2x78_z 192 10 = gi S 192 11 := gi_eq eS2x78_z
        refine ok_b1 (ok_M_byteAt S2x78_z (gi S2x78_z 192 10) h79_y (by omega)) (fun r4x78_z h83_y => ?_)
        refine ok_if (fun c84_y => ?_) (fun c84_y => ?_)
        · refine ok_lt (fun S11x78_z eS11x78_z => ?_)
          have h85_y : MX 1 S11x78_z := by rw [eS11x78_z]; exact ms_192_12 h79_y (by omega) (by omega)
          have f86_y : gi S11x78_z 192 12 = 0 := gi_eq eS11x78_z
          have f87_y : gi S11x78_z 192 11 = gi S2x78_z 192 11 := gi_ne eS11x78_z (by omega)
          have f88_y : gi S11x78_z 192 9 = gi S2x78_z 192 9 := gi_ne eS11x78_z (by omega)
          have f89_y : gi S11x78_z 192 10 = gi S2x78_z 192 10 := gi_ne eS11x78_z (by omega)
          exact ok_some ⟨h85_y, by trivial⟩
        · have b90_y := sma01 S2x78_z r4x78_z
          refine ok_if (fun c91_y => ?_) (fun c91_y => ?_)
          · have b92_y := dig01 S2x78_z r4x78_z
            refine ok_if (fun c93_y => ?_) (fun c93_y => ?_)
            · refine ok_if (fun c94_y => ?_) (fun c94_y => ?_)
              · unfold f_M_scan_235
                unfold f_M_scan_240
                refine ok_lt (fun S1x96_z eS1x96_z => ?_)
                have h97_y : MX 1 S1x96_z := by rw [eS1x96_z]; exact ms_192_12 h79_y (by omega) (by omega)
                have f98_y : gi S1x96_z 192 12 = 3 := gi_eq eS1x96_z
                have f99_y : gi S1x96_z 192 11 = gi S2x78_z 192 11 := gi_ne eS1x96_z (by omega)
                have f100_y : gi S1x96_z 192 10 = gi S2x78_z 192 10 := gi_ne eS1x96_z (by omega)
                have f101_y : gi S1x96_z 192 9 = gi S2x78_z 192 9 := gi_ne eS1x96_z (by omega)
                refine ok_chk (by omega) ?_
                refine ok_lt (fun S4x96_z eS4x96_z => ?_)
                have h102_y : MX 1 S4x96_z := by rw [eS4x96_z]; exact ms_192_11 h97_y (fun _ => by omega) (by omega) (by omega)
                have f103_y : gi S4x96_z 192 12 = gi S1x96_z 192 12 := gi_ne eS4x96_z (by omega)
                have f104_y : gi S4x96_z 192 10 = gi S1x96_z 192 10 := gi_ne eS4x96_z (by omega)
                have f105_y : gi S4x96_z 192 9 = gi S1x96_z 192 9 := gi_ne eS4x96_z (by omega)
                have f106_y : gi S4x96_z 192 11 = (gi S1x96_z 192 11) + 1 := gi_eq eS4x96_z
                exact ok_some ⟨h102_y, by trivial⟩
              · refine ok_if (fun c107_y => ?_) (fun c107_y => ?_)
                · unfold f_M_scan_235
                  unfold f_M_scan_240
                  refine ok_lt (fun S1x109_z eS1x109_z => ?_)
                  have h110_y : MX 1 S1x109_z := by rw [eS1x109_z]; exact ms_192_12 h79_y (by omega) (by omega)
                  have f111_y : gi S1x109_z 192 12 = 3 := gi_eq eS1x109_z
                  have f112_y : gi S1x109_z 192 11 = gi S2x78_z 192 11 := gi_ne eS1x109_z (by omega)
                  have f113_y : gi S1x109_z 192 10 = gi S2x78_z 192 10 := gi_ne eS1x109_z (by omega)
                  have f114_y : gi S1x109_z 192 9 = gi S2x78_z 192 9 := gi_ne eS1x109_z (by omega)
                  refine ok_chk (by omega) ?_
                  refine ok_lt (fun S4x109_z eS4x109_z => ?_)
                  have h115_y : MX 1 S4x109_z := by rw [eS4x109_z]; exact ms_192_11 h110_y (fun _ => by omega) (by omega) (by omega)
                  have f116_y : gi S4x109_z 192 10 = gi S1x109_z 192 10 := gi_ne eS4x109_z (by omega)
                  have f117_y : gi S4x109_z 192 12 = gi S1x109_z 192 12 := gi_ne eS4x109_z (by omega)
                  have f118_y : gi S4x109_z 192 11 = (gi S1x109_z 192 11) + 1 := gi_eq eS4x109_z
                  have f119_y : gi S4x109_z 192 9 = gi S1x109_z 192 9 := gi_ne eS4x109_z (by omega)
                  exact ok_some ⟨h115_y, by trivial⟩
                · refine ok_if (fun c120_y => ?_) (fun c120_y => ?_)
                  · unfold f_M_scan_235
                    unfold f_M_scan_240
                    refine ok_lt (fun S1x122_z eS1x122_z => ?_)
                    have h123_y : MX 1 S1x122_z := by rw [eS1x122_z]; exact ms_192_12 h79_y (by omega) (by omega)
                    have f124_y : gi S1x122_z 192 12 = 3 := gi_eq eS1x122_z
                    have f125_y : gi S1x122_z 192 11 = gi S2x78_z 192 11 := gi_ne eS1x122_z (by omega)
                    have f126_y : gi S1x122_z 192 10 = gi S2x78_z 192 10 := gi_ne eS1x122_z (by omega)
                    have f127_y : gi S1x122_z 192 9 = gi S2x78_z 192 9 := gi_ne eS1x122_z (by omega)
                    refine ok_chk (by omega) ?_
                    refine ok_lt (fun S4x122_z eS4x122_z => ?_)
                    have h128_y : MX 1 S4x122_z := by rw [eS4x122_z]; exact ms_192_11 h123_y (fun _ => by omega) (by omega) (by omega)
                    have f129_y : gi S4x122_z 192 12 = gi S1x122_z 192 12 := gi_ne eS4x122_z (by omega)
                    have f130_y : gi S4x122_z 192 10 = gi S1x122_z 192 10 := gi_ne eS4x122_z (by omega)
                    have f131_y : gi S4x122_z 192 11 = (gi S1x122_z 192 11) + 1 := gi_eq eS4x122_z
                    have f132_y : gi S4x122_z 192 9 = gi S1x122_z 192 9 := gi_ne eS4x122_z (by omega)
                    exact ok_some ⟨h128_y, by trivial⟩
                  · unfold f_M_scan_240
                    refine ok_lt (fun S1x133_z eS1x133_z => ?_)
                    have h134_y : MX 1 S1x133_z := by rw [eS1x133_z]; exact ms_192_12 h79_y (by omega) (by omega)
                    have f135_y : gi S1x133_z 192 12 = 4 := gi_eq eS1x133_z
                    have f136_y : gi S1x133_z 192 11 = gi S2x78_z 192 11 := gi_ne eS1x133_z (by omega)
                    have f137_y : gi S1x133_z 192 10 = gi S2x78_z 192 10 := gi_ne eS1x133_z (by omega)
                    have f138_y : gi S1x133_z 192 9 = gi S2x78_z 192 9 := gi_ne eS1x133_z (by omega)
                    refine ok_chk (by omega) ?_
                    refine ok_lt (fun S4x133_z eS4x133_z => ?_)
                    have h139_y : MX 1 S4x133_z := by rw [eS4x133_z]; exact ms_192_11 h134_y (fun _ => by omega) (by omega) (by omega)
                    have f140_y : gi S4x133_z 192 10 = gi S1x133_z 192 10 := gi_ne eS4x133_z (by omega)
                    have f141_y : gi S4x133_z 192 9 = gi S1x133_z 192 9 := gi_ne eS4x133_z (by omega)
                    have f142_y : gi S4x133_z 192 12 = gi S1x133_z 192 12 := gi_ne eS4x133_z (by omega)
                    have f143_y : gi S4x133_z 192 11 = (gi S1x133_z 192 11) + 1 := gi_eq eS4x133_z
                    exact ok_some ⟨h139_y, by trivial⟩
            · refine ok_lt (fun S10x78_z eS10x78_z => ?_)
              have h144_y : MX 1 S10x78_z := by rw [eS10x78_z]; exact ms_192_13 h79_y (by omega) (by omega)
              have f145_y : gi S10x78_z 192 13 = 0 := gi_eq eS10x78_z
              have f146_y : gi S10x78_z 192 11 = gi S2x78_z 192 11 := gi_ne eS10x78_z (by omega)
              have f147_y : gi S10x78_z 192 10 = gi S2x78_z 192 10 := gi_ne eS10x78_z (by omega)
              have f148_y : gi S10x78_z 192 9 = gi S2x78_z 192 9 := gi_ne eS10x78_z (by omega)
              exact okl_M_scan_128  FU S10x78_z h144_y (by omega) (by unfold FU; omega)
          · exact okl_M_scan_81  FU S2x78_z h79_y (by omega) (by unfold FU; omega)
      · refine ok_chk (by omega) ?_
        refine ok_lt (fun S9_z eS9_z => ?_)
        have h149_y : MX 1 S9_z := by rw [eS9_z]; exact ms_192_11 hC (fun _ => by omega) (by omega) (by omega)
        have f150_y : gi S9_z 192 9 = gi S 192 9 := gi_ne eS9_z (by omega)
        have f151_y : gi S9_z 192 11 = (gi S 192 11) + 1 := gi_eq eS9_z
        have f152_y : gi S9_z 192 10 = gi S 192 10 := gi_ne eS9_z (by omega)
        exact ih S9_z h149_y (by omega) (by omega)
set_option maxHeartbeats 4000000 in
theorem ok_M_scan (S : SS) (hC : MX 1 S) : okk (f_M_scan S) (fun S1 => MX 1 S1 ∧ (True)) := by
  unfold f_M_scan
  have b2_y := And.intro ((hC).1 rfl) (mx_192_9 hC)
  have b3_y := mx_192_10 hC
  have b4_y := And.intro ((hC).1 rfl) (mx_192_11 hC)
  exact okl_M_scan_0  FU S hC (by omega) (by unfold FU; omega)
set_option maxHeartbeats 4000000 in
theorem ok_M_number (S : SS) (v1 : Int) (v2 : Int) (hC : MX 1 S) : okk (f_M_number S v1 v2) (fun u => MX 1 u.2 ∧ (∀ r, u.1 = some r → v1 ≤ r ∧ r ≤ v2)) := by
  unfold f_M_number
  have b2_y := mx_192_12 hC
  refine ok_if (fun c3_y => ?_) (fun c3_y => ?_)
  · have b4_y := mx_192_13 hC
    have b5_y := in01 S (gi S 192 13) v1 v2
    refine ok_if (fun c6_y => ?_) (fun c6_y => ?_)
    · have b7_y := mx_192_10 hC
      refine ok_lt (fun S11x1_z eS11x1_z => ?_)
      have h8_y : MX 1 S11x1_z := by rw [eS11x1_z]; exact mx_M_wrong hC (by omega) (by omega)
      exact ok_some ⟨h8_y, fun r h => by cases h⟩
    · refine ok_b1 (ok_M_scan S hC) (fun S8x1_z h9_y => ?_)
      obtain ⟨h10_y, p11_y⟩ := h9_y
      exact ok_some ⟨h10_y, fun r h => by cases h; omega⟩
  · have b12_y := mx_192_10 hC
    refine ok_lt (fun S14x1_z eS14x1_z => ?_)
    have h13_y : MX 1 S14x1_z := by rw [eS14x1_z]; exact mx_M_wrong hC (by omega) (by omega)
    exact ok_some ⟨h13_y, fun r h => by cases h⟩
set_option maxHeartbeats 4000000 in
theorem ok_M_readMove (S : SS) (v1 : Int) (hC : MX 1 S) (hp0 : 0 ≤ v1 ∧ v1 < 41) : okk (f_M_readMove S v1) (fun u => MX 1 u.2 ∧ (∀ r, u.1 = some r → True)) := by
  unfold f_M_readMove
  have b2_y := mx_192_3 hC
  refine ok_chk (by omega) ?_
  refine ok_if (fun c3_y => ?_) (fun c3_y => ?_)
  · unfold f_M_readMove_23
    refine ok_b3 (ok_M_number S 0 ((gi S 192 3) - 1) hC) (fun S3x4_z h5_y => ?_) (fun r1x4_z S2x4_z h5_y => ?_)
    · have h6_y := (h5_y).1
      exact ok_some ⟨h6_y, fun r h => by cases h⟩
    · have h7_y := (h5_y).1
      have p8_y := (h5_y).2 _ rfl
      refine ok_chk (by omega) ?_
      refine ok_lt (fun S5x4_z eS5x4_z => ?_)
      have h9_y : MX 1 S5x4_z := by rw [eS5x4_z]; exact ms_201 h7_y (by omega) (by omega)
      refine ok_chk (by omega) ?_
      refine ok_chk (by omega) ?_
      have b10_y := mx_201 h9_y (v1).toNat
      refine ok_if (fun c11_y => ?_) (fun c11_y => ?_)
      · refine ok_chk (by omega) ?_
        unfold f_M_readMove_56
        refine ok_b3 (ok_M_number S5x4_z (gi S5x4_z 201 (v1).toNat) (((gi S 192 3) - 1) - 1) h9_y) (fun S3x12_z h13_y => ?_) (fun r1x12_z S2x12_z h13_y => ?_)
        · have h14_y := (h13_y).1
          exact ok_some ⟨h14_y, fun r h => by cases h⟩
        · have h15_y := (h13_y).1
          have p16_y := (h13_y).2 _ rfl
          refine ok_chk (by omega) ?_
          refine ok_lt (fun S5x12_z eS5x12_z => ?_)
          have h17_y : MX 1 S5x12_z := by rw [eS5x12_z]; exact ms_202 h15_y (by omega) (by omega)
          have b18_y := mx_192_12 h17_y
          refine ok_if (fun c19_y => ?_) (fun c19_y => ?_)
          · refine ok_chk (by omega) ?_
            refine ok_chk (by omega) ?_
            have b20_y := mx_202 h17_y (v1).toNat
            refine ok_chk (by omega) ?_
            have b21_y := mx_192_13 h17_y
            have b22_y := mx_201 h17_y (v1).toNat
            have b23_y := in01 S5x12_z (gi S5x12_z 192 13) (gi S5x12_z 201 (v1).toNat) ((gi S5x12_z 202 (v1).toNat) + 1)
            refine ok_if (fun c24_y => ?_) (fun c24_y => ?_)
            · unfold f_M_readMove_105
              have b26_y := mx_192_3 h17_y
              refine ok_b3 (ok_M_number S5x12_z 0 (gi S5x12_z 192 3) h17_y) (fun S4x25_z h27_y => ?_) (fun r2x25_z S3x25_z h27_y => ?_)
              · have h28_y := (h27_y).1
                exact ok_some ⟨h28_y, fun r h => by cases h⟩
              · have h29_y := (h27_y).1
                have p30_y := (h27_y).2 _ rfl
                refine ok_chk (by omega) ?_
                refine ok_lt (fun S6x25_z eS6x25_z => ?_)
                have h31_y : MX 1 S6x25_z := by rw [eS6x25_z]; exact ms_203 h29_y (by omega) (by omega)
                exact ok_some ⟨h31_y, fun r h => by cases h; trivial⟩
            · have b32_y := mx_192_10 h17_y
              refine ok_lt (fun S16x12_z eS16x12_z => ?_)
              have h33_y : MX 1 S16x12_z := by rw [eS16x12_z]; exact mx_M_wrong h17_y (by omega) (by omega)
              exact ok_some ⟨h33_y, fun r h => by cases h⟩
          · unfold f_M_readMove_105
            have b35_y := mx_192_3 h17_y
            refine ok_b3 (ok_M_number S5x12_z 0 (gi S5x12_z 192 3) h17_y) (fun S4x34_z h36_y => ?_) (fun r2x34_z S3x34_z h36_y => ?_)
            · have h37_y := (h36_y).1
              exact ok_some ⟨h37_y, fun r h => by cases h⟩
            · have h38_y := (h36_y).1
              have p39_y := (h36_y).2 _ rfl
              refine ok_chk (by omega) ?_
              refine ok_lt (fun S6x34_z eS6x34_z => ?_)
              have h40_y : MX 1 S6x34_z := by rw [eS6x34_z]; exact ms_203 h38_y (by omega) (by omega)
              exact ok_some ⟨h40_y, fun r h => by cases h; trivial⟩
      · unfold f_M_readMove_56
        refine ok_b3 (ok_M_number S5x4_z (gi S5x4_z 201 (v1).toNat) ((gi S 192 3) - 1) h9_y) (fun S3x41_z h42_y => ?_) (fun r1x41_z S2x41_z h42_y => ?_)
        · have h43_y := (h42_y).1
          exact ok_some ⟨h43_y, fun r h => by cases h⟩
        · have h44_y := (h42_y).1
          have p45_y := (h42_y).2 _ rfl
          refine ok_chk (by omega) ?_
          refine ok_lt (fun S5x41_z eS5x41_z => ?_)
          have h46_y : MX 1 S5x41_z := by rw [eS5x41_z]; exact ms_202 h44_y (by omega) (by omega)
          have b47_y := mx_192_12 h46_y
          refine ok_if (fun c48_y => ?_) (fun c48_y => ?_)
          · refine ok_chk (by omega) ?_
            refine ok_chk (by omega) ?_
            have b49_y := mx_202 h46_y (v1).toNat
            refine ok_chk (by omega) ?_
            have b50_y := mx_192_13 h46_y
            have b51_y := mx_201 h46_y (v1).toNat
            have b52_y := in01 S5x41_z (gi S5x41_z 192 13) (gi S5x41_z 201 (v1).toNat) ((gi S5x41_z 202 (v1).toNat) + 1)
            refine ok_if (fun c53_y => ?_) (fun c53_y => ?_)
            · unfold f_M_readMove_105
              have b55_y := mx_192_3 h46_y
              refine ok_b3 (ok_M_number S5x41_z 0 (gi S5x41_z 192 3) h46_y) (fun S4x54_z h56_y => ?_) (fun r2x54_z S3x54_z h56_y => ?_)
              · have h57_y := (h56_y).1
                exact ok_some ⟨h57_y, fun r h => by cases h⟩
              · have h58_y := (h56_y).1
                have p59_y := (h56_y).2 _ rfl
                refine ok_chk (by omega) ?_
                refine ok_lt (fun S6x54_z eS6x54_z => ?_)
                have h60_y : MX 1 S6x54_z := by rw [eS6x54_z]; exact ms_203 h58_y (by omega) (by omega)
                exact ok_some ⟨h60_y, fun r h => by cases h; trivial⟩
            · have b61_y := mx_192_10 h46_y
              refine ok_lt (fun S16x41_z eS16x41_z => ?_)
              have h62_y : MX 1 S16x41_z := by rw [eS16x41_z]; exact mx_M_wrong h46_y (by omega) (by omega)
              exact ok_some ⟨h62_y, fun r h => by cases h⟩
          · unfold f_M_readMove_105
            have b64_y := mx_192_3 h46_y
            refine ok_b3 (ok_M_number S5x41_z 0 (gi S5x41_z 192 3) h46_y) (fun S4x63_z h65_y => ?_) (fun r2x63_z S3x63_z h65_y => ?_)
            · have h66_y := (h65_y).1
              exact ok_some ⟨h66_y, fun r h => by cases h⟩
            · have h67_y := (h65_y).1
              have p68_y := (h65_y).2 _ rfl
              refine ok_chk (by omega) ?_
              refine ok_lt (fun S6x63_z eS6x63_z => ?_)
              have h69_y : MX 1 S6x63_z := by rw [eS6x63_z]; exact ms_203 h67_y (by omega) (by omega)
              exact ok_some ⟨h69_y, fun r h => by cases h; trivial⟩
  · unfold f_M_readMove_23
    refine ok_b3 (ok_M_number S 1 ((gi S 192 3) - 1) hC) (fun S3x70_z h71_y => ?_) (fun r1x70_z S2x70_z h71_y => ?_)
    · have h72_y := (h71_y).1
      exact ok_some ⟨h72_y, fun r h => by cases h⟩
    · have h73_y := (h71_y).1
      have p74_y := (h71_y).2 _ rfl
      refine ok_chk (by omega) ?_
      refine ok_lt (fun S5x70_z eS5x70_z => ?_)
      have h75_y : MX 1 S5x70_z := by rw [eS5x70_z]; exact ms_201 h73_y (by omega) (by omega)
      refine ok_chk (by omega) ?_
      refine ok_chk (by omega) ?_
      have b76_y := mx_201 h75_y (v1).toNat
      refine ok_if (fun c77_y => ?_) (fun c77_y => ?_)
      · refine ok_chk (by omega) ?_
        unfold f_M_readMove_56
        refine ok_b3 (ok_M_number S5x70_z (gi S5x70_z 201 (v1).toNat) (((gi S 192 3) - 1) - 1) h75_y) (fun S3x78_z h79_y => ?_) (fun r1x78_z S2x78_z h79_y => ?_)
        · have h80_y := (h79_y).1
          exact ok_some ⟨h80_y, fun r h => by cases h⟩
        · have h81_y := (h79_y).1
          have p82_y := (h79_y).2 _ rfl
          refine ok_chk (by omega) ?_
          refine ok_lt (fun S5x78_z eS5x78_z => ?_)
          have h83_y : MX 1 S5x78_z := by rw [eS5x78_z]; exact ms_202 h81_y (by omega) (by omega)
          have b84_y := mx_192_12 h83_y
          refine ok_if (fun c85_y => ?_) (fun c85_y => ?_)
          · refine ok_chk (by omega) ?_
            refine ok_chk (by omega) ?_
            have b86_y := mx_202 h83_y (v1).toNat
            refine ok_chk (by omega) ?_
            have b87_y := mx_192_13 h83_y
            have b88_y := mx_201 h83_y (v1).toNat
            have b89_y := in01 S5x78_z (gi S5x78_z 192 13) (gi S5x78_z 201 (v1).toNat) ((gi S5x78_z 202 (v1).toNat) + 1)
            refine ok_if (fun c90_y => ?_) (fun c90_y => ?_)
            · unfold f_M_readMove_105
              have b92_y := mx_192_3 h83_y
              refine ok_b3 (ok_M_number S5x78_z 0 (gi S5x78_z 192 3) h83_y) (fun S4x91_z h93_y => ?_) (fun r2x91_z S3x91_z h93_y => ?_)
              · have h94_y := (h93_y).1
                exact ok_some ⟨h94_y, fun r h => by cases h⟩
              · have h95_y := (h93_y).1
                have p96_y := (h93_y).2 _ rfl
                refine ok_chk (by omega) ?_
                refine ok_lt (fun S6x91_z eS6x91_z => ?_)
                have h97_y : MX 1 S6x91_z := by rw [eS6x91_z]; exact ms_203 h95_y (by omega) (by omega)
                exact ok_some ⟨h97_y, fun r h => by cases h; trivial⟩
            · have b98_y := mx_192_10 h83_y
              refine ok_lt (fun S16x78_z eS16x78_z => ?_)
              have h99_y : MX 1 S16x78_z := by rw [eS16x78_z]; exact mx_M_wrong h83_y (by omega) (by omega)
              exact ok_some ⟨h99_y, fun r h => by cases h⟩
          · unfold f_M_readMove_105
            have b101_y := mx_192_3 h83_y
            refine ok_b3 (ok_M_number S5x78_z 0 (gi S5x78_z 192 3) h83_y) (fun S4x100_z h102_y => ?_) (fun r2x100_z S3x100_z h102_y => ?_)
            · have h103_y := (h102_y).1
              exact ok_some ⟨h103_y, fun r h => by cases h⟩
            · have h104_y := (h102_y).1
              have p105_y := (h102_y).2 _ rfl
              refine ok_chk (by omega) ?_
              refine ok_lt (fun S6x100_z eS6x100_z => ?_)
              have h106_y : MX 1 S6x100_z := by rw [eS6x100_z]; exact ms_203 h104_y (by omega) (by omega)
              exact ok_some ⟨h106_y, fun r h => by cases h; trivial⟩
      · unfold f_M_readMove_56
        refine ok_b3 (ok_M_number S5x70_z (gi S5x70_z 201 (v1).toNat) ((gi S 192 3) - 1) h75_y) (fun S3x107_z h108_y => ?_) (fun r1x107_z S2x107_z h108_y => ?_)
        · have h109_y := (h108_y).1
          exact ok_some ⟨h109_y, fun r h => by cases h⟩
        · have h110_y := (h108_y).1
          have p111_y := (h108_y).2 _ rfl
          refine ok_chk (by omega) ?_
          refine ok_lt (fun S5x107_z eS5x107_z => ?_)
          have h112_y : MX 1 S5x107_z := by rw [eS5x107_z]; exact ms_202 h110_y (by omega) (by omega)
          have b113_y := mx_192_12 h112_y
          refine ok_if (fun c114_y => ?_) (fun c114_y => ?_)
          · refine ok_chk (by omega) ?_
            refine ok_chk (by omega) ?_
            have b115_y := mx_202 h112_y (v1).toNat
            refine ok_chk (by omega) ?_
            have b116_y := mx_192_13 h112_y
            have b117_y := mx_201 h112_y (v1).toNat
            have b118_y := in01 S5x107_z (gi S5x107_z 192 13) (gi S5x107_z 201 (v1).toNat) ((gi S5x107_z 202 (v1).toNat) + 1)
            refine ok_if (fun c119_y => ?_) (fun c119_y => ?_)
            · unfold f_M_readMove_105
              have b121_y := mx_192_3 h112_y
              refine ok_b3 (ok_M_number S5x107_z 0 (gi S5x107_z 192 3) h112_y) (fun S4x120_z h122_y => ?_) (fun r2x120_z S3x120_z h122_y => ?_)
              · have h123_y := (h122_y).1
                exact ok_some ⟨h123_y, fun r h => by cases h⟩
              · have h124_y := (h122_y).1
                have p125_y := (h122_y).2 _ rfl
                refine ok_chk (by omega) ?_
                refine ok_lt (fun S6x120_z eS6x120_z => ?_)
                have h126_y : MX 1 S6x120_z := by rw [eS6x120_z]; exact ms_203 h124_y (by omega) (by omega)
                exact ok_some ⟨h126_y, fun r h => by cases h; trivial⟩
            · have b127_y := mx_192_10 h112_y
              refine ok_lt (fun S16x107_z eS16x107_z => ?_)
              have h128_y : MX 1 S16x107_z := by rw [eS16x107_z]; exact mx_M_wrong h112_y (by omega) (by omega)
              exact ok_some ⟨h128_y, fun r h => by cases h⟩
          · unfold f_M_readMove_105
            have b130_y := mx_192_3 h112_y
            refine ok_b3 (ok_M_number S5x107_z 0 (gi S5x107_z 192 3) h112_y) (fun S4x129_z h131_y => ?_) (fun r2x129_z S3x129_z h131_y => ?_)
            · have h132_y := (h131_y).1
              exact ok_some ⟨h132_y, fun r h => by cases h⟩
            · have h133_y := (h131_y).1
              have p134_y := (h131_y).2 _ rfl
              refine ok_chk (by omega) ?_
              refine ok_lt (fun S6x129_z eS6x129_z => ?_)
              have h135_y : MX 1 S6x129_z := by rw [eS6x129_z]; exact ms_203 h133_y (by omega) (by omega)
              exact ok_some ⟨h135_y, fun r h => by cases h; trivial⟩
