set_option maxHeartbeats 4000000 in
theorem ok_M_readLine_505 (v1 : Int) (S : SS) (hC : MX 1 S) (hp0 : 0 ≤ v1 ∧ v1 < 40) : okk (f_M_readLine_505 v1 S) (fun u => MX 1 u.2 ∧ (∀ r, u.1 = some r → v1 < 40)) := by
  unfold f_M_readLine_505
  refine ok_b1 (ok_M_is S 12 hC (by decide)) (fun r1x1_z h2_y => ?_)
  refine ok_if (fun c3_y => ?_) (fun c3_y => ?_)
  · have b4_y := mx_192_10 hC
    refine ok_lt (fun S6x1_z eS6x1_z => ?_)
    have h5_y : MX 1 S6x1_z := by rw [eS6x1_z]; exact mx_M_wrong hC (by omega) (by omega)
    exact ok_some ⟨h5_y, fun r h => by cases h⟩
  · refine ok_b1 (ok_M_scan S hC) (fun S3x1_z h6_y => ?_)
    obtain ⟨h7_y, p8_y⟩ := h6_y
    exact ok_some ⟨h7_y, fun r h => by cases h; omega⟩
set_option maxHeartbeats 4000000 in
theorem ok_M_readLine_500 (v1 : Int) (S : SS) (hC : MX 1 S) (hp0 : 0 ≤ v1 ∧ v1 < 40) : okk (f_M_readLine_500 v1 S) (fun u => MX 1 u.2 ∧ (∀ r, u.1 = some r → v1 < 40)) := by
  unfold f_M_readLine_500
  refine ok_b3 (ok_M_readWords S v1 hC (by omega)) (fun S3x1_z h2_y => ?_) (fun _ S2x1_z h2_y => ?_)
  · have h3_y := (h2_y).1
    exact ok_some ⟨h3_y, fun r h => by cases h⟩
  · have h4_y := (h2_y).1
    have p5_y := (h2_y).2 _ rfl
    exact ok_M_readLine_505 v1 S2x1_z h4_y (by omega)
set_option maxHeartbeats 4000000 in
theorem ok_M_readLine_480 (v1 : Int) (S : SS) (hC : MX 1 S) (hp0 : 0 ≤ v1 ∧ v1 < 40) : okk (f_M_readLine_480 v1 S) (fun u => MX 1 u.2 ∧ (∀ r, u.1 = some r → v1 < 40)) := by
  unfold f_M_readLine_480
  refine ok_chk (by omega) ?_
  have b2_y := mx_199 hC (v1).toNat
  refine ok_if (fun c3_y => ?_) (fun c3_y => ?_)
  · exact ok_M_readLine_500 v1 S hC (by omega)
  · refine ok_chk (by omega) ?_
    refine ok_if (fun c4_y => ?_) (fun c4_y => ?_)
    · exact ok_M_readLine_500 v1 S hC (by omega)
    · exact ok_M_readLine_505 v1 S hC (by omega)
set_option maxHeartbeats 4000000 in
theorem ok_M_readLine_466 (v1 : Int) (S : SS) (hC : MX 1 S) (hp0 : 0 ≤ v1 ∧ v1 < 40) : okk (f_M_readLine_466 v1 S) (fun u => MX 1 u.2 ∧ (∀ r, u.1 = some r → v1 < 40)) := by
  unfold f_M_readLine_466
  refine ok_chk (by omega) ?_
  refine ok_b3 (ok_M_number S 0 (v1 - 1) hC) (fun S4x1_z h2_y => ?_) (fun r2x1_z S3x1_z h2_y => ?_)
  · have h3_y := (h2_y).1
    exact ok_some ⟨h3_y, fun r h => by cases h⟩
  · have h4_y := (h2_y).1
    have p5_y := (h2_y).2 _ rfl
    refine ok_chk (by omega) ?_
    refine ok_lt (fun S6x1_z eS6x1_z => ?_)
    have h6_y : MX 1 S6x1_z := by rw [eS6x1_z]; exact ms_201 h4_y (by omega) (by omega)
    exact ok_M_readLine_480 v1 S6x1_z h6_y (by omega)
set_option maxHeartbeats 4000000 in
theorem ok_M_readLine_456 (v1 : Int) (S : SS) (hC : MX 1 S) (hp0 : 0 ≤ v1 ∧ v1 < 40) : okk (f_M_readLine_456 v1 S) (fun u => MX 1 u.2 ∧ (∀ r, u.1 = some r → v1 < 40)) := by
  unfold f_M_readLine_456
  have b2_y := mx_192_10 hC
  refine ok_lt (fun S2x1_z eS2x1_z => ?_)
  have h3_y : MX 1 S2x1_z := by rw [eS2x1_z]; exact mx_M_wrong hC (by omega) (by omega)
  exact ok_some ⟨h3_y, fun r h => by cases h⟩
set_option maxHeartbeats 4000000 in
theorem ok_M_readLine_250 (v1 : Int) (S : SS) (v3_ : Int) (vt0_ : Int) (vt1_ : Int) (hC : MX 1 S) (hp0 : 0 ≤ v1 ∧ v1 < 40) (hp1 : -1 ≤ v3_ ∧ v3_ ≤ 59) (hp2 : -1 ≤ vt0_ ∧ vt0_ ≤ 5) (hp3 : 0 ≤ vt1_ ∧ vt1_ < 40) : okk (f_M_readLine_250 v1 S v3_ vt0_ vt1_) (fun u => MX 1 u.2 ∧ (∀ r, u.1 = some r → v1 < 40)) := by
  unfold f_M_readLine_250
  refine ok_chk (by omega) ?_
  refine ok_lt (fun S1x1_z eS1x1_z => ?_)
  have h2_y : MX 1 S1x1_z := by rw [eS1x1_z]; exact ms_199 hC (by omega) (by omega)
  refine ok_chk (by omega) ?_
  have b3_y := mx_199 h2_y (v1).toNat
  refine ok_if (fun c4_y => ?_) (fun c4_y => ?_)
  · have b5_y := mx_192_10 h2_y
    refine ok_lt (fun S67x1_z eS67x1_z => ?_)
    have h6_y : MX 1 S67x1_z := by rw [eS67x1_z]; exact mx_M_wrong h2_y (by omega) (by omega)
    exact ok_some ⟨h6_y, fun r h => by cases h⟩
  · refine ok_b1 (ok_M_scan S1x1_z h2_y) (fun S3x1_z h7_y => ?_)
    obtain ⟨h8_y, p9_y⟩ := h7_y
    refine ok_chk (by omega) ?_
    have b10_y := mx_199 h8_y (v1).toNat
    refine ok_if (fun c11_y => ?_) (fun c11_y => ?_)
    · refine ok_b3 (ok_M_number S3x1_z 0 v3_ h8_y) (fun S9x1_z h12_y => ?_) (fun r7x1_z S8x1_z h12_y => ?_)
      · have h13_y := (h12_y).1
        exact ok_some ⟨h13_y, fun r h => by cases h⟩
      · have h14_y := (h12_y).1
        have p15_y := (h12_y).2 _ rfl
        refine ok_chk (by omega) ?_
        refine ok_lt (fun S11x1_z eS11x1_z => ?_)
        have h16_y : MX 1 S11x1_z := by rw [eS11x1_z]; exact ms_201 h14_y (by omega) (by omega)
        refine ok_chk (by omega) ?_
        have b17_y := mx_201 h16_y (v1).toNat
        refine ok_b3 (ok_M_number S11x1_z (gi S11x1_z 201 (v1).toNat) v3_ h16_y) (fun S15x1_z h18_y => ?_) (fun r13x1_z S14x1_z h18_y => ?_)
        · have h19_y := (h18_y).1
          exact ok_some ⟨h19_y, fun r h => by cases h⟩
        · have h20_y := (h18_y).1
          have p21_y := (h18_y).2 _ rfl
          refine ok_chk (by omega) ?_
          refine ok_lt (fun S17x1_z eS17x1_z => ?_)
          have h22_y : MX 1 S17x1_z := by rw [eS17x1_z]; exact ms_202 h20_y (by omega) (by omega)
          exact ok_M_readLine_480 v1 S17x1_z h22_y (by omega)
    · refine ok_if (fun c23_y => ?_) (fun c23_y => ?_)
      · have b24_y := mx_192_3 h8_y
        refine ok_b3 (ok_M_number S3x1_z 0 (gi S3x1_z 192 3) h8_y) (fun S22x1_z h25_y => ?_) (fun r20x1_z S21x1_z h25_y => ?_)
        · have h26_y := (h25_y).1
          exact ok_some ⟨h26_y, fun r h => by cases h⟩
        · have h27_y := (h25_y).1
          have p28_y := (h25_y).2 _ rfl
          refine ok_chk (by omega) ?_
          refine ok_lt (fun S24x1_z eS24x1_z => ?_)
          have h29_y : MX 1 S24x1_z := by rw [eS24x1_z]; exact ms_201 h27_y (by omega) (by omega)
          exact ok_M_readLine_480 v1 S24x1_z h29_y (by omega)
      · refine ok_if (fun c30_y => ?_) (fun c30_y => ?_)
        · refine ok_b3 (ok_M_number S3x1_z 0 v3_ h8_y) (fun S28x1_z h31_y => ?_) (fun r26x1_z S27x1_z h31_y => ?_)
          · have h32_y := (h31_y).1
            exact ok_some ⟨h32_y, fun r h => by cases h⟩
          · have h33_y := (h31_y).1
            have p34_y := (h31_y).2 _ rfl
            refine ok_chk (by omega) ?_
            refine ok_lt (fun S30x1_z eS30x1_z => ?_)
            have h35_y : MX 1 S30x1_z := by rw [eS30x1_z]; exact ms_201 h33_y (by omega) (by omega)
            refine ok_chk (by omega) ?_
            have b36_y := mx_201 h35_y (v1).toNat
            refine ok_b3 (ok_M_number S30x1_z (gi S30x1_z 201 (v1).toNat) v3_ h35_y) (fun S34x1_z h37_y => ?_) (fun r32x1_z S33x1_z h37_y => ?_)
            · have h38_y := (h37_y).1
              exact ok_some ⟨h38_y, fun r h => by cases h⟩
            · have h39_y := (h37_y).1
              have p40_y := (h37_y).2 _ rfl
              refine ok_chk (by omega) ?_
              refine ok_lt (fun S36x1_z eS36x1_z => ?_)
              have h41_y : MX 1 S36x1_z := by rw [eS36x1_z]; exact ms_202 h39_y (by omega) (by omega)
              exact ok_M_readLine_480 v1 S36x1_z h41_y (by omega)
        · refine ok_if (fun c42_y => ?_) (fun c42_y => ?_)
          · refine ok_chk (by omega) ?_
            refine ok_b3 (ok_M_number S3x1_z 0 (v3_ - 1) h8_y) (fun S41x1_z h43_y => ?_) (fun r39x1_z S40x1_z h43_y => ?_)
            · have h44_y := (h43_y).1
              exact ok_some ⟨h44_y, fun r h => by cases h⟩
            · have h45_y := (h43_y).1
              have p46_y := (h43_y).2 _ rfl
              refine ok_chk (by omega) ?_
              refine ok_lt (fun S43x1_z eS43x1_z => ?_)
              have h47_y : MX 1 S43x1_z := by rw [eS43x1_z]; exact ms_201 h45_y (by omega) (by omega)
              refine ok_chk (by omega) ?_
              have b48_y := mx_201 h47_y (v1).toNat
              refine ok_chk (by omega) ?_
              refine ok_b3 (ok_M_number S43x1_z ((gi S43x1_z 201 (v1).toNat) + 1) v3_ h47_y) (fun S48x1_z h49_y => ?_) (fun r46x1_z S47x1_z h49_y => ?_)
              · have h50_y := (h49_y).1
                exact ok_some ⟨h50_y, fun r h => by cases h⟩
              · have h51_y := (h49_y).1
                have p52_y := (h49_y).2 _ rfl
                refine ok_chk (by omega) ?_
                refine ok_lt (fun S50x1_z eS50x1_z => ?_)
                have h53_y : MX 1 S50x1_z := by rw [eS50x1_z]; exact ms_202 h51_y (by omega) (by omega)
                refine ok_chk (by omega) ?_
                have b54_y := mx_202 h53_y (v1).toNat
                refine ok_b3 (ok_M_number S50x1_z (gi S50x1_z 202 (v1).toNat) v3_ h53_y) (fun S54x1_z h55_y => ?_) (fun r52x1_z S53x1_z h55_y => ?_)
                · have h56_y := (h55_y).1
                  exact ok_some ⟨h56_y, fun r h => by cases h⟩
                · have h57_y := (h55_y).1
                  have p58_y := (h55_y).2 _ rfl
                  refine ok_chk (by omega) ?_
                  refine ok_lt (fun S56x1_z eS56x1_z => ?_)
                  have h59_y : MX 1 S56x1_z := by rw [eS56x1_z]; exact ms_203 h57_y (by omega) (by omega)
                  exact ok_M_readLine_480 v1 S56x1_z h59_y (by omega)
          · refine ok_if (fun c60_y => ?_) (fun c60_y => ?_)
            · refine ok_b3 (ok_M_readMove S3x1_z v1 h8_y (by omega)) (fun S60x1_z h61_y => ?_) (fun _ S59x1_z h61_y => ?_)
              · have h62_y := (h61_y).1
                exact ok_some ⟨h62_y, fun r h => by cases h⟩
              · have h63_y := (h61_y).1
                have p64_y := (h61_y).2 _ rfl
                exact ok_M_readLine_480 v1 S59x1_z h63_y (by omega)
            · have b65_y := mx_192_12 h8_y
              refine ok_if (fun c66_y => ?_) (fun c66_y => ?_)
              · have b67_y := mx_192_13 h8_y
                refine ok_if (fun c68_y => ?_) (fun c68_y => ?_)
                · exact ok_M_readLine_456 v1 S3x1_z h8_y (by omega)
                · refine ok_chk (by omega) ?_
                  have b69_y := mx_199 h8_y (gi S3x1_z 192 13).toNat
                  refine ok_if (fun c70_y => ?_) (fun c70_y => ?_)
                  · exact ok_M_readLine_456 v1 S3x1_z h8_y (by omega)
                  · exact ok_M_readLine_466 v1 S3x1_z h8_y (by omega)
              · exact ok_M_readLine_466 v1 S3x1_z h8_y (by omega)
set_option maxHeartbeats 4000000 in
theorem ok_M_readLine_249 (v1 : Int) (S : SS) (v3_ : Int) (vt0_ : Int) (hC : MX 1 S) (hp0 : 0 ≤ v1 ∧ v1 < 40) (hp1 : -1 ≤ v3_ ∧ v3_ ≤ 59) (hp2 : 0 ≤ vt0_ ∧ vt0_ < 40) : okk (f_M_readLine_249 v1 S v3_ vt0_) (fun u => MX 1 u.2 ∧ (∀ r, u.1 = some r → v1 < 40)) := by
  unfold f_M_readLine_249
  exact ok_M_readLine_250 v1 S v3_ (-1) vt0_ hC (by omega) (by omega) (by omega) (by omega)
set_option maxHeartbeats 4000000 in
theorem ok_M_readLine_150 (v1 : Int) (S : SS) (hC : MX 1 S) (hp0 : 0 ≤ v1 ∧ v1 < 40) : okk (f_M_readLine_150 v1 S) (fun u => MX 1 u.2 ∧ (∀ r, u.1 = some r → v1 < 40)) := by
  unfold f_M_readLine_150
  have b2_y := mx_192_3 hC
  refine ok_chk (by omega) ?_
  refine ok_b1 (ok_M_is S 5 hC (by decide)) (fun r3x1_z h3_y => ?_)
  refine ok_if (fun c4_y => ?_) (fun c4_y => ?_)
  · refine ok_b1 (ok_M_is S 6 hC (by decide)) (fun r5x1_z h5_y => ?_)
    refine ok_if (fun c6_y => ?_) (fun c6_y => ?_)
    · refine ok_b1 (ok_M_is S 7 hC (by decide)) (fun r7x1_z h7_y => ?_)
      refine ok_if (fun c8_y => ?_) (fun c8_y => ?_)
      · refine ok_b1 (ok_M_is S 8 hC (by decide)) (fun r9x1_z h9_y => ?_)
        refine ok_if (fun c10_y => ?_) (fun c10_y => ?_)
        · refine ok_b1 (ok_M_is S 9 hC (by decide)) (fun r11x1_z h11_y => ?_)
          refine ok_if (fun c12_y => ?_) (fun c12_y => ?_)
          · refine ok_b1 (ok_M_is S 10 hC (by decide)) (fun r13x1_z h13_y => ?_)
            refine ok_if (fun c14_y => ?_) (fun c14_y => ?_)
            · exact ok_M_readLine_249 v1 S ((gi S 192 3) - 1) v1 hC (by omega) (by omega) (by omega)
            · refine ok_chk (by omega) ?_
              have b15_y := mx_207 hC (v1).toNat
              refine ok_if (fun c16_y => ?_) (fun c16_y => ?_)
              · exact ok_M_readLine_250 v1 S ((gi S 192 3) - 1) 5 v1 hC (by omega) (by omega) (by omega) (by omega)
              · exact ok_M_readLine_249 v1 S ((gi S 192 3) - 1) v1 hC (by omega) (by omega) (by omega)
          · exact ok_M_readLine_250 v1 S ((gi S 192 3) - 1) 4 v1 hC (by omega) (by omega) (by omega) (by omega)
        · exact ok_M_readLine_250 v1 S ((gi S 192 3) - 1) 3 v1 hC (by omega) (by omega) (by omega) (by omega)
      · exact ok_M_readLine_250 v1 S ((gi S 192 3) - 1) 2 v1 hC (by omega) (by omega) (by omega) (by omega)
    · exact ok_M_readLine_250 v1 S ((gi S 192 3) - 1) 1 v1 hC (by omega) (by omega) (by omega) (by omega)
  · exact ok_M_readLine_250 v1 S ((gi S 192 3) - 1) 0 v1 hC (by omega) (by omega) (by omega) (by omega)
set_option maxHeartbeats 4000000 in
theorem ok_M_readLine_40 (v1 : Int) (S : SS) (vt0_ : Int) (hC : MX 1 S) (hp0 : 0 ≤ v1 ∧ v1 ≤ 40) (hp1 : -1 ≤ vt0_ ∧ vt0_ ≤ 2) : okk (f_M_readLine_40 v1 S vt0_) (fun u => MX 1 u.2 ∧ (∀ r, u.1 = some r → v1 < 40)) := by
  unfold f_M_readLine_40
  refine ok_if (fun c2_y => ?_) (fun c2_y => ?_)
  · have b3_y := mx_192_10 hC
    refine ok_lt (fun S21x1_z eS21x1_z => ?_)
    have h4_y : MX 1 S21x1_z := by rw [eS21x1_z]; exact mx_M_wrong hC (by omega) (by omega)
    exact ok_some ⟨h4_y, fun r h => by cases h⟩
  · refine ok_if (fun c5_y => ?_) (fun c5_y => ?_)
    · have b6_y := mx_192_10 hC
      refine ok_lt (fun S18x1_z eS18x1_z => ?_)
      have h7_y : MX 1 S18x1_z := by rw [eS18x1_z]; exact mx_M_wrong hC (by omega) (by omega)
      exact ok_some ⟨h7_y, fun r h => by cases h⟩
    · refine ok_chk (by omega) ?_
      refine ok_lt (fun S1x1_z eS1x1_z => ?_)
      have h8_y : MX 1 S1x1_z := by rw [eS1x1_z]; exact ms_200 hC (by omega) (by omega)
      refine ok_chk (by omega) ?_
      refine ok_lt (fun S2x1_z eS2x1_z => ?_)
      have h9_y : MX 1 S2x1_z := by rw [eS2x1_z]; exact ms_201 h8_y (by omega) (by omega)
      refine ok_chk (by omega) ?_
      refine ok_lt (fun S3x1_z eS3x1_z => ?_)
      have h10_y : MX 1 S3x1_z := by rw [eS3x1_z]; exact ms_202 h9_y (by omega) (by omega)
      refine ok_chk (by omega) ?_
      refine ok_lt (fun S4x1_z eS4x1_z => ?_)
      have h11_y : MX 1 S4x1_z := by rw [eS4x1_z]; exact ms_203 h10_y (by omega) (by omega)
      refine ok_chk (by omega) ?_
      refine ok_lt (fun S5x1_z eS5x1_z => ?_)
      have h12_y : MX 1 S5x1_z := by rw [eS5x1_z]; exact ms_204 h11_y (by omega) (by omega)
      refine ok_chk (by omega) ?_
      refine ok_lt (fun S6x1_z eS6x1_z => ?_)
      have h13_y : MX 1 S6x1_z := by rw [eS6x1_z]; exact ms_205 h12_y (by omega) (by omega)
      refine ok_chk (by omega) ?_
      refine ok_lt (fun S7x1_z eS7x1_z => ?_)
      have h14_y : MX 1 S7x1_z := by rw [eS7x1_z]; exact ms_208 h13_y (by omega) (by omega)
      refine ok_b1 (ok_M_scan S7x1_z h14_y) (fun S8x1_z h15_y => ?_)
      obtain ⟨h16_y, p17_y⟩ := h15_y
      refine ok_b1 (ok_M_is S8x1_z 4 h16_y (by decide)) (fun r10x1_z h18_y => ?_)
      refine ok_chk (by omega) ?_
      refine ok_chk (by omega) ?_
      refine ok_lt (fun S13x1_z eS13x1_z => ?_)
      have h19_y : MX 1 S13x1_z := by rw [eS13x1_z]; exact ms_207 h16_y (by omega) (by omega)
      refine ok_chk (by omega) ?_
      have b20_y := mx_207 h19_y (v1).toNat
      refine ok_if (fun c21_y => ?_) (fun c21_y => ?_)
      · exact ok_M_readLine_150 v1 S13x1_z h19_y (by omega)
      · refine ok_b1 (ok_M_scan S13x1_z h19_y) (fun S15x1_z h22_y => ?_)
        obtain ⟨h23_y, p24_y⟩ := h22_y
        exact ok_M_readLine_150 v1 S15x1_z h23_y (by omega)
set_option maxHeartbeats 4000000 in
theorem ok_M_readLine (S : SS) (v1 : Int) (hC : MX 1 S) (hp0 : 0 ≤ v1 ∧ v1 ≤ 40) : okk (f_M_readLine S v1) (fun u => MX 1 u.2 ∧ (∀ r, u.1 = some r → v1 < 40)) := by
  unfold f_M_readLine
  refine ok_b1 (ok_M_is S 1 hC (by decide)) (fun r1x1_z h2_y => ?_)
  refine ok_if (fun c3_y => ?_) (fun c3_y => ?_)
  · refine ok_b1 (ok_M_is S 2 hC (by decide)) (fun r3x1_z h4_y => ?_)
    refine ok_if (fun c5_y => ?_) (fun c5_y => ?_)
    · refine ok_b1 (ok_M_is S 3 hC (by decide)) (fun r5x1_z h6_y => ?_)
      refine ok_if (fun c7_y => ?_) (fun c7_y => ?_)
      · exact ok_M_readLine_40 v1 S (-1) hC (by omega) (by omega)
      · exact ok_M_readLine_40 v1 S 2 hC (by omega) (by omega)
    · exact ok_M_readLine_40 v1 S 1 hC (by omega) (by omega)
  · exact ok_M_readLine_40 v1 S 0 hC (by omega) (by omega)
theorem okl_M_marks : ∀ (n : Nat) (S : SS) (v1_ : Int), MX 1 S → (0 ≤ v1_ ∧ v1_ ≤ 40) → 40 - v1_ < (n : Int) → okk (f_M_marks_13 n S v1_) (fun u => MX 0 u.2 ∧ True) := by
  intro n
  induction n with
  | zero => intro S v1_ h hi hm; exfalso; omega
  | succ n ih =>
    intro S v1_ h hi hm
    have hm : 40 - v1_ < (n : Int) + 1 := by omega
    show okk (f_M_marks_13_b (f_M_marks_13 n) S v1_) _
    unfold f_M_marks_13_b
    have b27 := mx_192_27 h
    refine ok_if (fun _ => ok_chk (by omega) (ok_lt (fun S4 e4 => ok_some ⟨?_, trivial⟩))) (fun _ => ok_b3 (ok_M_readLine S v1_ h (by omega)) (fun S7 h7 => ok_some ⟨h7.1.weak, trivial⟩) (fun r S6 h6 => ?_))
    · show MX 0 S4
      rw [e4]; exact ms_192_27 h.weak (by omega) (by omega)
    · have p6 := h6.2 _ rfl
      exact ok_chk (by omega) (ih S6 (v1_ + 1) h6.1 (by omega) (by omega))
theorem ok_M_marks (S : SS) (hC : MX 0 S) : okk (f_M_marks S) (fun u => MX 0 u.2 ∧ True) := by
  have h1 := mx_M_begin hC
  have b27 := mx_192_27 h1
  unfold f_M_marks
  refine ok_lt (fun S1 e1 => ?_)
  rw [← e1] at h1 b27
  refine ok_b1 (ok_M_scan S1 h1) (fun S4 h4 => ?_)
  exact okl_M_marks FU S4 _ h4.1 (by omega) (by unfold FU; omega)
