set_option maxHeartbeats 4000000 in
theorem ok_MarkReader_mayBegin {b : Nat} (S : SS) (j1 : Nat) (v2 : Int) (hC : CX b S) (hb : 2 ≤ b) (hj1 : j1 < 40) : okk (f_MarkReader_mayBegin S j1 v2) (fun r => r = 0 ∨ r = 1) := by
  unfold f_MarkReader_mayBegin
  refine ok_b1 (ok_Mark_number S j1 0 hC hj1) (fun r1x1_z h2_y => ?_)
  refine ok_b1 (ok_Mark_number S j1 1 hC hj1) (fun r3x1_z h3_y => ?_)
  refine ok_b1 (ok_Mark_number S j1 2 hC hj1) (fun r5x1_z h4_y => ?_)
  have b5_y := cx_mk_2 hC hj1
  refine ok_if (fun c6_y => ?_) (fun c6_y => ?_)
  · refine ok_if (fun c7_y => ?_) (fun c7_y => ?_)
    · have b8_y := cx_177_3 hC
      refine ok_if (fun c9_y => ?_) (fun c9_y => ?_)
      · exact ok_some (by omega)
      · exact ok_some (by omega)
    · refine ok_if (fun c10_y => ?_) (fun c10_y => ?_)
      · exact ok_some (by omega)
      · have b11_y := cx_177_3 hC
        refine ok_if (fun c12_y => ?_) (fun c12_y => ?_)
        · exact ok_some (by omega)
        · exact ok_some (by omega)
  · refine ok_if (fun c13_y => ?_) (fun c13_y => ?_)
    · have b14_y := cx_177_3 hC
      refine ok_if (fun c15_y => ?_) (fun c15_y => ?_)
      · exact ok_some (by omega)
      · exact ok_some (by omega)
    · refine ok_if (fun c16_y => ?_) (fun c16_y => ?_)
      · refine ok_if (fun c17_y => ?_) (fun c17_y => ?_)
        · have b18_y := cx_177_3 hC
          refine ok_if (fun c19_y => ?_) (fun c19_y => ?_)
          · exact ok_some (by omega)
          · exact ok_some (by omega)
        · refine ok_if (fun c20_y => ?_) (fun c20_y => ?_)
          · exact ok_some (by omega)
          · have b21_y := cx_177_3 hC
            refine ok_if (fun c22_y => ?_) (fun c22_y => ?_)
            · exact ok_some (by omega)
            · exact ok_some (by omega)
      · refine ok_if (fun c23_y => ?_) (fun c23_y => ?_)
        · refine ok_if (fun c24_y => ?_) (fun c24_y => ?_)
          · refine ok_chk (by omega) ?_
            have b25_y := cx_177_3 hC
            refine ok_if (fun c26_y => ?_) (fun c26_y => ?_)
            · exact ok_some (by omega)
            · exact ok_some (by omega)
          · refine ok_if (fun c27_y => ?_) (fun c27_y => ?_)
            · refine ok_if (fun c28_y => ?_) (fun c28_y => ?_)
              · exact ok_some (by omega)
              · have b29_y := cx_177_3 hC
                refine ok_if (fun c30_y => ?_) (fun c30_y => ?_)
                · exact ok_some (by omega)
                · exact ok_some (by omega)
            · refine ok_if (fun c31_y => ?_) (fun c31_y => ?_)
              · exact ok_some (by omega)
              · have b32_y := cx_177_3 hC
                refine ok_if (fun c33_y => ?_) (fun c33_y => ?_)
                · exact ok_some (by omega)
                · exact ok_some (by omega)
        · refine ok_if (fun c34_y => ?_) (fun c34_y => ?_)
          · refine ok_b1 (ok_MarkReader_mayBeginMove S r1x1_z r3x1_z r5x1_z v2 hC (by omega) (by omega) (by omega)) (fun r22x1_z h35_y => ?_)
            refine ok_chk (by omega) ?_
            exact ok_some (by omega)
          · refine ok_chk ((hC).2.2.2.2.2 hb).1.2.1 ?_
            refine ok_b1 (ok_Pile_canBeStet S r1x1_z hC) (fun r25x1_z h36_y => ?_)
            refine ok_chk (by omega) ?_
            exact ok_some (by omega)
set_option maxHeartbeats 4000000 in
theorem okl_MarkReader_isToken_20 {b : Nat} (S : SS) (i1 : Nat) (hC : CX b S) (hb : 2 ≤ b) (hi1 : i1 < 13) : ∀ (n : Nat) (v2_ : Int), (0 ≤ v2_ ∧ v2_ ≤ 100) → 100 - v2_ < (n : Int) → okk (f_MarkReader_isToken_20 S i1 n v2_) (fun r => r = 0 ∨ r = 1) := by
  intro n
  induction n with
  | zero => intro v2_ hi hm; exfalso; omega
  | succ n ih =>
    intro v2_ hi hm
    have hm : 100 - v2_ < (n : Int) + 1 := by omega
    show okk (f_MarkReader_isToken_20_b S i1 (f_MarkReader_isToken_20 S i1 n) v2_) _
    unfold f_MarkReader_isToken_20_b
    have b1_y := len_rng S hi1
    refine ok_if (fun c2_y => ?_) (fun c2_y => ?_)
    · exact ok_some (by omega)
    · refine ok_chk ((hC).2.2.2.2.2 hb).1.1 ?_
      have b3_y := cx_177_5 hC
      refine ok_chk (by omega) ?_
      have b5_y := cx_1_1 hC
      refine ok_b1 (ok_Tape_byteAt S ((gi S 177 5) + v2_) hC) (fun r4_z h4_y => ?_)
      refine ok_b1 (ok_charAt S i1 v2_ hC hi1 (by omega)) (fun r6_z h6_y => ?_)
      refine ok_if (fun c7_y => ?_) (fun c7_y => ?_)
      · refine ok_chk (by omega) ?_
        exact ih (v2_ + 1) (by omega) (by omega)
      · exact ok_some (by omega)
set_option maxHeartbeats 4000000 in
theorem ok_MarkReader_isToken {b : Nat} (S : SS) (i1 : Nat) (hC : CX b S) (hb : 2 ≤ b) (hi1 : i1 < 13) : okk (f_MarkReader_isToken S i1) (fun r => r = 0 ∨ r = 1) := by
  unfold f_MarkReader_isToken
  have b2_y := cx_177_4 hC
  have b3_y := cx_177_5 hC
  refine ok_chk (by omega) ?_
  have b4_y := len_rng S hi1
  refine ok_if (fun c5_y => ?_) (fun c5_y => ?_)
  · exact okl_MarkReader_isToken_20 S i1 hC hb hi1 FU 0 (by omega) (by unfold FU; omega)
  · exact ok_some (by omega)
set_option maxHeartbeats 4000000 in
theorem ok_MarkReader_handNamed {b : Nat} (S : SS) (hC : CX b S) (hb : 2 ≤ b) : okk (f_MarkReader_handNamed S) (fun r => -1 ≤ r ∧ r ≤ 2) := by
  unfold f_MarkReader_handNamed
  refine ok_b1 (ok_MarkReader_isToken S 1 hC hb (by decide)) (fun r1x1_z h2_y => ?_)
  refine ok_if (fun c3_y => ?_) (fun c3_y => ?_)
  · refine ok_b1 (ok_MarkReader_isToken S 2 hC hb (by decide)) (fun r3x1_z h4_y => ?_)
    refine ok_if (fun c5_y => ?_) (fun c5_y => ?_)
    · refine ok_b1 (ok_MarkReader_isToken S 3 hC hb (by decide)) (fun r5x1_z h6_y => ?_)
      refine ok_if (fun c7_y => ?_) (fun c7_y => ?_)
      · exact ok_some (by omega)
      · exact ok_some (by omega)
    · exact ok_some (by omega)
  · exact ok_some (by omega)
set_option maxHeartbeats 4000000 in
theorem ok_MarkReader_kindNamed {b : Nat} (S : SS) (hC : CX b S) (hb : 2 ≤ b) : okk (f_MarkReader_kindNamed S) (fun r => -1 ≤ r ∧ r ≤ 5) := by
  unfold f_MarkReader_kindNamed
  refine ok_b1 (ok_MarkReader_isToken S 5 hC hb (by decide)) (fun r1x1_z h2_y => ?_)
  refine ok_if (fun c3_y => ?_) (fun c3_y => ?_)
  · refine ok_b1 (ok_MarkReader_isToken S 6 hC hb (by decide)) (fun r3x1_z h4_y => ?_)
    refine ok_if (fun c5_y => ?_) (fun c5_y => ?_)
    · refine ok_b1 (ok_MarkReader_isToken S 7 hC hb (by decide)) (fun r5x1_z h6_y => ?_)
      refine ok_if (fun c7_y => ?_) (fun c7_y => ?_)
      · refine ok_b1 (ok_MarkReader_isToken S 8 hC hb (by decide)) (fun r7x1_z h8_y => ?_)
        refine ok_if (fun c9_y => ?_) (fun c9_y => ?_)
        · refine ok_b1 (ok_MarkReader_isToken S 9 hC hb (by decide)) (fun r9x1_z h10_y => ?_)
          refine ok_if (fun c11_y => ?_) (fun c11_y => ?_)
          · refine ok_b1 (ok_MarkReader_isToken S 10 hC hb (by decide)) (fun r11x1_z h12_y => ?_)
            refine ok_if (fun c13_y => ?_) (fun c13_y => ?_)
            · exact ok_some (by omega)
            · exact ok_some (by omega)
          · exact ok_some (by omega)
        · exact ok_some (by omega)
      · exact ok_some (by omega)
    · exact ok_some (by omega)
  · exact ok_some (by omega)
set_option maxHeartbeats 4000000 in
theorem okl_MarkReader_readNumbers_33 {b : Nat} (j1 : Nat) (hb : 2 ≤ b) (hj1 : j1 < 40) : ∀ (n : Nat) (S : SS) (v2_ : Int) (v3_ : Int), CX b S → (0 ≤ v2_ ∧ v2_ ≤ 3 ∧ 0 ≤ v3_ ∧ v3_ ≤ 3) → 3 - v3_ < (n : Int) → okk (f_MarkReader_readNumbers_33 j1 n S v2_ v3_) (fun u => CX b u.2 ∧ (u.1 = 0 ∨ u.1 = 1)) := by
  intro n
  induction n with
  | zero => intro S v2_ v3_ hC hi hm; exfalso; omega
  | succ n ih =>
    intro S v2_ v3_ hC hi hm
    have hm : 3 - v3_ < (n : Int) + 1 := by omega
    show okk (f_MarkReader_readNumbers_33_b j1 (f_MarkReader_readNumbers_33 j1 n) S v2_ v3_) _
    unfold f_MarkReader_readNumbers_33_b
    refine ok_if (fun c1_y => ?_) (fun c1_y => ?_)
    · exact ok_some ⟨hC, by omega⟩
    · refine ok_b1 (ok_MarkReader_readToken S hC hb) (fun S1_z h2_y => ?_)
      obtain ⟨h3_y, p4_y⟩ := h2_y
      refine ok_if (fun c5_y => ?_) (fun c5_y => ?_)
      · have b6_y := cx_177_4 h3_y
        have b7_y := cx_177_5 h3_y
        refine ok_chk (by omega) ?_
        refine ok_if (fun c8_y => ?_) (fun c8_y => ?_)
        · refine ok_b1 (ok_MarkReader_numberRead S1_z h3_y hb p4_y (by omega) (by omega)) (fun r7_z h9_y => ?_)
          refine ok_b1 (ok_Mark_setNumber S1_z j1 v3_ r7_z h3_y hj1 (by omega)) (fun S9_z h10_y => ?_)
          obtain ⟨h11_y, p12_y⟩ := h10_y
          refine ok_b1 (ok_MarkReader_mayBegin S9_z j1 v3_ h11_y hb hj1) (fun r11_z h13_y => ?_)
          refine ok_if (fun c14_y => ?_) (fun c14_y => ?_)
          · refine ok_b2 (ok_MarkReader_refuse S9_z 2 h11_y hb (by omega)) (fun r15_z S14_z h15_y => ?_)
            obtain ⟨h16_y, p17_y⟩ := h15_y
            refine ok_chk (by omega) ?_
            exact ok_some ⟨h16_y, by omega⟩
          · refine ok_chk (by omega) ?_
            exact ih S9_z v2_ (v3_ + 1) h11_y (by omega) (by omega)
        · unfold f_MarkReader_readNumbers_63
          refine ok_b2 (ok_MarkReader_refuse S1_z 1 h3_y hb (by omega)) (fun r2x18_z S1x18_z h19_y => ?_)
          obtain ⟨h20_y, p21_y⟩ := h19_y
          refine ok_chk (by omega) ?_
          exact ok_some ⟨h20_y, by omega⟩
      · unfold f_MarkReader_readNumbers_63
        refine ok_b2 (ok_MarkReader_refuse S1_z 1 h3_y hb (by omega)) (fun r2x22_z S1x22_z h23_y => ?_)
        obtain ⟨h24_y, p25_y⟩ := h23_y
        refine ok_chk (by omega) ?_
        exact ok_some ⟨h24_y, by omega⟩
set_option maxHeartbeats 4000000 in
theorem ok_MarkReader_readNumbers {b : Nat} (S : SS) (j1 : Nat) (hC : CX b S) (hb : 2 ≤ b) (hj1 : j1 < 40) : okk (f_MarkReader_readNumbers S j1) (fun u => CX b u.2 ∧ (u.1 = 0 ∨ u.1 = 1)) := by
  unfold f_MarkReader_readNumbers
  have b2_y := cx_mk_2 hC hj1
  refine ok_if (fun c3_y => ?_) (fun c3_y => ?_)
  · unfold f_MarkReader_readNumbers_18
    unfold f_MarkReader_readNumbers_30
    exact okl_MarkReader_readNumbers_33 j1 hb hj1 FU S 0 0 hC (by omega) (by unfold FU; omega)
  · refine ok_if (fun c6_y => ?_) (fun c6_y => ?_)
    · refine ok_chk (by omega) ?_
      unfold f_MarkReader_readNumbers_30
      have b8_y := num6_all (gi S (14 + 4 * j1) 2).toNat (by omega)
      exact okl_MarkReader_readNumbers_33 j1 hb hj1 FU S (num6 (gi S (14 + 4 * j1) 2).toNat) 0 hC (by omega) (by unfold FU; omega)
    · unfold f_MarkReader_readNumbers_18
      unfold f_MarkReader_readNumbers_30
      exact okl_MarkReader_readNumbers_33 j1 hb hj1 FU S 0 0 hC (by omega) (by unfold FU; omega)
set_option maxHeartbeats 4000000 in
theorem okl_MarkReader_readWord_11 {b : Nat} (j1 : Nat) (hb : 2 ≤ b) (hj1 : j1 < 40) : ∀ (n : Nat) (S : SS) (w2_ : Int64) (v4_ : Int) (v5_ : Int), CX b S → (0 ≤ v5_ ∧ v5_ ≤ 2000) → 2000 - v5_ < (n : Int) → okk (f_MarkReader_readWord_11 j1 n S w2_ v4_ v5_) (fun u => CX b u.2 ∧ (u.1 = 0 ∨ u.1 = 1)) := by
  intro n
  induction n with
  | zero => intro S w2_ v4_ v5_ hC hi hm; exfalso; omega
  | succ n ih =>
    intro S w2_ v4_ v5_ hC hi hm
    have hm : 2000 - v5_ < (n : Int) + 1 := by omega
    show okk (f_MarkReader_readWord_11_b j1 (f_MarkReader_readWord_11 j1 n) S w2_ v4_ v5_) _
    unfold f_MarkReader_readWord_11_b
    refine ok_chk ((hC).2.2.2.2.2 hb).1.1 ?_
    have b1_y := cx_1_1 hC
    refine ok_if (fun c2_y => ?_) (fun c2_y => ?_)
    · unfold f_MarkReader_readWord_95
      refine ok_if (fun c4_y => ?_) (fun c4_y => ?_)
      · unfold f_MarkReader_readWord_114
        refine ok_b2 (ok_MarkReader_refuse S 1 hC hb (by omega)) (fun r2x5_z S1x5_z h6_y => ?_)
        obtain ⟨h7_y, p8_y⟩ := h6_y
        refine ok_chk (by omega) ?_
        exact ok_some ⟨h7_y, by omega⟩
      · have b9_y := cx_177_4 hC
        have b10_y := cx_177_5 hC
        refine ok_chk (by omega) ?_
        refine ok_if (fun c11_y => ?_) (fun c11_y => ?_)
        · have b12_y := cx_sh hC (show shOk (14 + 4 * j1 + 2) by omega)
          refine ok_if (fun c13_y => ?_) (fun c13_y => ?_)
          · refine ok_b1 (ok_Sheet_add S (14 + 4 * j1 + 2) w2_ hC (show shOk (14 + 4 * j1 + 2) by omega)) (fun S5x3_z h14_y => ?_)
            obtain ⟨h15_y, p16_y⟩ := h14_y
            exact ok_some ⟨h15_y, by omega⟩
          · refine ok_b2 (ok_MarkReader_refuse S 3 hC hb (by omega)) (fun r8x3_z S7x3_z h17_y => ?_)
            obtain ⟨h18_y, p19_y⟩ := h17_y
            refine ok_chk (by omega) ?_
            exact ok_some ⟨h18_y, by omega⟩
        · unfold f_MarkReader_readWord_114
          refine ok_b2 (ok_MarkReader_refuse S 1 hC hb (by omega)) (fun r2x20_z S1x20_z h21_y => ?_)
          obtain ⟨h22_y, p23_y⟩ := h21_y
          refine ok_chk (by omega) ?_
          exact ok_some ⟨h22_y, by omega⟩
    · refine ok_chk ((hC).2.2.2.2.2 hb).1.1 ?_
      have b25_y := cx_1_1 hC
      refine ok_b1 (ok_Tape_byteAt S v5_ hC) (fun r2_z h24_y => ?_)
      refine ok_if (fun c26_y => ?_) (fun c26_y => ?_)
      · refine ok_if (fun c27_y => ?_) (fun c27_y => ?_)
        · unfold f_MarkReader_readWord_95
          refine ok_if (fun c29_y => ?_) (fun c29_y => ?_)
          · unfold f_MarkReader_readWord_114
            refine ok_b2 (ok_MarkReader_refuse S 1 hC hb (by omega)) (fun r2x30_z S1x30_z h31_y => ?_)
            obtain ⟨h32_y, p33_y⟩ := h31_y
            refine ok_chk (by omega) ?_
            exact ok_some ⟨h32_y, by omega⟩
          · have b34_y := cx_177_4 hC
            have b35_y := cx_177_5 hC
            refine ok_chk (by omega) ?_
            refine ok_if (fun c36_y => ?_) (fun c36_y => ?_)
            · have b37_y := cx_sh hC (show shOk (14 + 4 * j1 + 2) by omega)
              refine ok_if (fun c38_y => ?_) (fun c38_y => ?_)
              · refine ok_b1 (ok_Sheet_add S (14 + 4 * j1 + 2) w2_ hC (show shOk (14 + 4 * j1 + 2) by omega)) (fun S5x28_z h39_y => ?_)
                obtain ⟨h40_y, p41_y⟩ := h39_y
                exact ok_some ⟨h40_y, by omega⟩
              · refine ok_b2 (ok_MarkReader_refuse S 3 hC hb (by omega)) (fun r8x28_z S7x28_z h42_y => ?_)
                obtain ⟨h43_y, p44_y⟩ := h42_y
                refine ok_chk (by omega) ?_
                exact ok_some ⟨h43_y, by omega⟩
            · unfold f_MarkReader_readWord_114
              refine ok_b2 (ok_MarkReader_refuse S 1 hC hb (by omega)) (fun r2x45_z S1x45_z h46_y => ?_)
              obtain ⟨h47_y, p48_y⟩ := h46_y
              refine ok_chk (by omega) ?_
              exact ok_some ⟨h47_y, by omega⟩
        · refine ok_if (fun c49_y => ?_) (fun c49_y => ?_)
          · unfold f_MarkReader_readWord_69
            unfold f_MarkReader_readWord_70
            refine ok_chk (by omega) ?_
            refine ok_lt (fun S3x51_z eS3x51_z => ?_)
            have h52_y : CX b S3x51_z := by rw [eS3x51_z]; exact cs_177_4 hC (by omega) (by omega)
            have f53_y : gi S3x51_z 177 4 = v5_ + 1 := gi_eq eS3x51_z
            have f54_y : gi S3x51_z 1 1 = gi S 1 1 := gi_ne eS3x51_z (by omega)
            refine ok_chk (by omega) ?_
            exact ih S3x51_z ((lsh w2_ 8) ||| (i2l r2_z)) 0 (v5_ + 1) h52_y (by omega) (by omega)
          · refine ok_b1 (ok_MP_isOfWord S r2_z hC) (fun r5_z h55_y => ?_)
            refine ok_if (fun c56_y => ?_) (fun c56_y => ?_)
            · unfold f_MarkReader_readWord_69
              unfold f_MarkReader_readWord_70
              refine ok_chk (by omega) ?_
              refine ok_lt (fun S3x58_z eS3x58_z => ?_)
              have h59_y : CX b S3x58_z := by rw [eS3x58_z]; exact cs_177_4 hC (by omega) (by omega)
              have f60_y : gi S3x58_z 177 4 = v5_ + 1 := gi_eq eS3x58_z
              have f61_y : gi S3x58_z 1 1 = gi S 1 1 := gi_ne eS3x58_z (by omega)
              refine ok_chk (by omega) ?_
              exact ih S3x58_z ((lsh w2_ 8) ||| (i2l r2_z)) 0 (v5_ + 1) h59_y (by omega) (by omega)
            · unfold f_MarkReader_readWord_70
              refine ok_chk (by omega) ?_
              refine ok_lt (fun S3x62_z eS3x62_z => ?_)
              have h63_y : CX b S3x62_z := by rw [eS3x62_z]; exact cs_177_4 hC (by omega) (by omega)
              have f64_y : gi S3x62_z 177 4 = v5_ + 1 := gi_eq eS3x62_z
              have f65_y : gi S3x62_z 1 1 = gi S 1 1 := gi_ne eS3x62_z (by omega)
              refine ok_chk (by omega) ?_
              exact ih S3x62_z ((lsh w2_ 8) ||| (i2l r2_z)) 1 (v5_ + 1) h63_y (by omega) (by omega)
      · unfold f_MarkReader_readWord_95
        refine ok_if (fun c67_y => ?_) (fun c67_y => ?_)
        · unfold f_MarkReader_readWord_114
          refine ok_b2 (ok_MarkReader_refuse S 1 hC hb (by omega)) (fun r2x68_z S1x68_z h69_y => ?_)
          obtain ⟨h70_y, p71_y⟩ := h69_y
          refine ok_chk (by omega) ?_
          exact ok_some ⟨h70_y, by omega⟩
        · have b72_y := cx_177_4 hC
          have b73_y := cx_177_5 hC
          refine ok_chk (by omega) ?_
          refine ok_if (fun c74_y => ?_) (fun c74_y => ?_)
          · have b75_y := cx_sh hC (show shOk (14 + 4 * j1 + 2) by omega)
            refine ok_if (fun c76_y => ?_) (fun c76_y => ?_)
            · refine ok_b1 (ok_Sheet_add S (14 + 4 * j1 + 2) w2_ hC (show shOk (14 + 4 * j1 + 2) by omega)) (fun S5x66_z h77_y => ?_)
              obtain ⟨h78_y, p79_y⟩ := h77_y
              exact ok_some ⟨h78_y, by omega⟩
            · refine ok_b2 (ok_MarkReader_refuse S 3 hC hb (by omega)) (fun r8x66_z S7x66_z h80_y => ?_)
              obtain ⟨h81_y, p82_y⟩ := h80_y
              refine ok_chk (by omega) ?_
              exact ok_some ⟨h81_y, by omega⟩
          · unfold f_MarkReader_readWord_114
            refine ok_b2 (ok_MarkReader_refuse S 1 hC hb (by omega)) (fun r2x83_z S1x83_z h84_y => ?_)
            obtain ⟨h85_y, p86_y⟩ := h84_y
            refine ok_chk (by omega) ?_
            exact ok_some ⟨h85_y, by omega⟩
set_option maxHeartbeats 4000000 in
theorem ok_MarkReader_readWord {b : Nat} (S : SS) (j1 : Nat) (hC : CX b S) (hb : 2 ≤ b) (hj1 : j1 < 40) : okk (f_MarkReader_readWord S j1) (fun u => CX b u.2 ∧ (u.1 = 0 ∨ u.1 = 1)) := by
  unfold f_MarkReader_readWord
  have b2_y := cx_177_5 hC
  exact okl_MarkReader_readWord_11 j1 hb hj1 FU S 0 1 (gi S 177 5) hC (by omega) (by unfold FU; omega)
set_option maxHeartbeats 4000000 in
theorem okl_MarkReader_readWords_2 {b : Nat} (j1 : Nat) (hb : 2 ≤ b) (hj1 : j1 < 40) : ∀ (n : Nat) (S : SS) (v2_ : Int), CX b S → (0 ≤ v2_ ∧ v2_ ≤ 8) → 8 - v2_ < (n : Int) → okk (f_MarkReader_readWords_2 j1 n S v2_) (fun u => CX b u.2 ∧ (u.1 = 0 ∨ u.1 = 1)) := by
  intro n
  induction n with
  | zero => intro S v2_ hC hi hm; exfalso; omega
  | succ n ih =>
    intro S v2_ hC hi hm
    have hm : 8 - v2_ < (n : Int) + 1 := by omega
    show okk (f_MarkReader_readWords_2_b j1 (f_MarkReader_readWords_2 j1 n) S v2_) _
    unfold f_MarkReader_readWords_2_b
    refine ok_if (fun c1_y => ?_) (fun c1_y => ?_)
    · exact ok_some ⟨hC, by omega⟩
    · refine ok_b1 (ok_MarkReader_skipBlanks S hC hb) (fun S1_z h2_y => ?_)
      obtain ⟨h3_y, p4_y⟩ := h2_y
      have b5_y := cx_177_4 h3_y
      refine ok_lt (fun S4_z eS4_z => ?_)
      have h6_y : CX b S4_z := by rw [eS4_z]; exact cs_177_5 h3_y (by omega) (by omega)
      have f7_y : gi S4_z 177 5 = gi S1_z 177 4 := gi_eq eS4_z
      have f8_y : gi S4_z 177 4 = gi S1_z 177 4 := gi_ne eS4_z (by omega)
      refine ok_chk ((h6_y).2.2.2.2.2 hb).1.1 ?_
      have b10_y := cx_1_1 h6_y
      refine ok_b1 (ok_Tape_byteAt S4_z (gi S4_z 177 4) h6_y) (fun r6_z h9_y => ?_)
      refine ok_if (fun c11_y => ?_) (fun c11_y => ?_)
      · unfold f_MarkReader_readWords_47
        refine ok_b2 (ok_MarkReader_refuse S4_z 1 h6_y hb (by omega)) (fun r2x12_z S1x12_z h13_y => ?_)
        obtain ⟨h14_y, p15_y⟩ := h13_y
        refine ok_chk (by omega) ?_
        exact ok_some ⟨h14_y, by omega⟩
      · refine ok_if (fun c16_y => ?_) (fun c16_y => ?_)
        · refine ok_if (fun c17_y => ?_) (fun c17_y => ?_)
          · unfold f_MarkReader_readWords_47
            refine ok_b2 (ok_MarkReader_refuse S4_z 1 h6_y hb (by omega)) (fun r2x18_z S1x18_z h19_y => ?_)
            obtain ⟨h20_y, p21_y⟩ := h19_y
            refine ok_chk (by omega) ?_
            exact ok_some ⟨h20_y, by omega⟩
          · unfold f_MarkReader_readWords_53
            refine ok_if (fun c23_y => ?_) (fun c23_y => ?_)
            · refine ok_chk (by omega) ?_
              refine ok_lt (fun S7x22_z eS7x22_z => ?_)
              have h24_y : CX b S7x22_z := by rw [eS7x22_z]; exact cs_177_4 h6_y (by omega) (by omega)
              have f25_y : gi S7x22_z 177 4 = (gi S4_z 177 4) + 1 := gi_eq eS7x22_z
              have f26_y : gi S7x22_z 177 5 = gi S4_z 177 5 := gi_ne eS7x22_z (by omega)
              exact ok_some ⟨h24_y, by omega⟩
            · refine ok_b2 (ok_MarkReader_readWord S4_z j1 h6_y hb hj1) (fun r2x22_z S1x22_z h27_y => ?_)
              obtain ⟨h28_y, p29_y⟩ := h27_y
              refine ok_if (fun c30_y => ?_) (fun c30_y => ?_)
              · exact ok_some ⟨h28_y, by omega⟩
              · refine ok_chk (by omega) ?_
                exact ih S1x22_z (v2_ + 1) h28_y (by omega) (by omega)
        · unfold f_MarkReader_readWords_53
          refine ok_if (fun c32_y => ?_) (fun c32_y => ?_)
          · refine ok_chk (by omega) ?_
            refine ok_lt (fun S7x31_z eS7x31_z => ?_)
            have h33_y : CX b S7x31_z := by rw [eS7x31_z]; exact cs_177_4 h6_y (by omega) (by omega)
            have f34_y : gi S7x31_z 177 4 = (gi S4_z 177 4) + 1 := gi_eq eS7x31_z
            have f35_y : gi S7x31_z 177 5 = gi S4_z 177 5 := gi_ne eS7x31_z (by omega)
            exact ok_some ⟨h33_y, by omega⟩
          · refine ok_b2 (ok_MarkReader_readWord S4_z j1 h6_y hb hj1) (fun r2x31_z S1x31_z h36_y => ?_)
            obtain ⟨h37_y, p38_y⟩ := h36_y
            refine ok_if (fun c39_y => ?_) (fun c39_y => ?_)
            · exact ok_some ⟨h37_y, by omega⟩
            · refine ok_chk (by omega) ?_
              exact ih S1x31_z (v2_ + 1) h37_y (by omega) (by omega)
set_option maxHeartbeats 4000000 in
theorem ok_MarkReader_readWords {b : Nat} (S : SS) (j1 : Nat) (hC : CX b S) (hb : 2 ≤ b) (hj1 : j1 < 40) : okk (f_MarkReader_readWords S j1) (fun u => CX b u.2 ∧ (u.1 = 0 ∨ u.1 = 1)) := by
  unfold f_MarkReader_readWords
  exact okl_MarkReader_readWords_2 j1 hb hj1 FU S 0 hC (by omega) (by unfold FU; omega)
set_option maxHeartbeats 4000000 in
theorem ok_MarkReader_readLine {b : Nat} (S : SS) (hC : CX b S) (hb : 2 ≤ b) : okk (f_MarkReader_readLine S) (fun u => CX b u.2 ∧ ((u.1 = 0 ∨ u.1 = 1) ∧ (u.1 = 0 ∨ (b : Int) < 42))) := by
  unfold f_MarkReader_readLine
  refine ok_b1 (ok_MarkReader_handNamed S hC hb) (fun r1x1_z h2_y => ?_)
  refine ok_if (fun c3_y => ?_) (fun c3_y => ?_)
  · refine ok_b2 (ok_MarkReader_refuse S 1 hC hb (by omega)) (fun r20x1_z S19x1_z h4_y => ?_)
    obtain ⟨h5_y, p6_y⟩ := h4_y
    refine ok_chk (by omega) ?_
    exact ok_some ⟨h5_y, by omega⟩
  · refine ok_chk ((hC).2.2.2.2.2 hb).1.2.1 ?_
    refine ok_b2 (ok_Pile_blank2 S hC) (fun o4x1_z S3x1_z h7_y => ?_)
    obtain ⟨h8_y, p9_y⟩ := h7_y
    refine ok_on (fun h10_y => ?_) (fun j6x1_z h10_y => ?_)
    · refine ok_b2 (ok_MarkReader_refuse S3x1_z 3 h8_y hb (by omega)) (fun r8x1_z S7x1_z h11_y => ?_)
      obtain ⟨h12_y, p13_y⟩ := h11_y
      refine ok_chk (by omega) ?_
      exact ok_some ⟨h12_y, by omega⟩
    · have hj6x1_z : j6x1_z < 40 := (p9_y j6x1_z h10_y).1
      have s14_y := (p9_y j6x1_z h10_y).2
      have s15_y := ((hC).2.2.2.2.2 hb).2
      refine ok_chk (by omega) ?_
      refine ok_lt (fun S11x1_z eS11x1_z => ?_)
      have h16_y : CX b S11x1_z := by rw [eS11x1_z]; exact cs_mk_3 h8_y hj6x1_z (by omega) (by omega)
      refine ok_b1 (ok_MarkReader_readToken S11x1_z h16_y hb) (fun S12x1_z h17_y => ?_)
      obtain ⟨h18_y, p19_y⟩ := h17_y
      refine ok_b1 (ok_MarkReader_isToken S12x1_z 4 h18_y hb (by decide)) (fun r14x1_z h20_y => ?_)
      refine ok_if (fun c21_y => ?_) (fun c21_y => ?_)
      · unfold f_MarkReader_readLine_61
        refine ok_b1 (ok_MarkReader_kindNamed S12x1_z h18_y hb) (fun r1x22_z h23_y => ?_)
        refine ok_lt (fun S3x22_z eS3x22_z => ?_)
        have h24_y : CX b S3x22_z := by rw [eS3x22_z]; exact cs_mk_2 h18_y hj6x1_z (by omega) (by omega)
        have b25_y := cx_mk_2 h24_y hj6x1_z
        refine ok_if (fun c26_y => ?_) (fun c26_y => ?_)
        · unfold f_MarkReader_readLine_92
          refine ok_b2 (ok_MarkReader_refuse S3x22_z 1 h24_y hb (by omega)) (fun r2x27_z S1x27_z h28_y => ?_)
          obtain ⟨h29_y, p30_y⟩ := h28_y
          refine ok_chk (by omega) ?_
          exact ok_some ⟨h29_y, by omega⟩
        · have b31_y := cx_mk_7 h24_y hj6x1_z
          refine ok_if (fun c32_y => ?_) (fun c32_y => ?_)
          · unfold f_MarkReader_readLine_98
            refine ok_b2 (ok_MarkReader_readNumbers S3x22_z j6x1_z h24_y hb hj6x1_z) (fun r2x33_z S1x33_z h34_y => ?_)
            obtain ⟨h35_y, p36_y⟩ := h34_y
            refine ok_if (fun c37_y => ?_) (fun c37_y => ?_)
            · exact ok_some ⟨h35_y, by omega⟩
            · refine ok_b1 (ok_Mark_place S1x33_z j6x1_z h35_y hj6x1_z) (fun S4x33_z h38_y => ?_)
              obtain ⟨h39_y, p40_y⟩ := h38_y
              refine ok_b1 (ok_MarkReader_readToken S4x33_z h39_y hb) (fun S6x33_z h41_y => ?_)
              obtain ⟨h42_y, p43_y⟩ := h41_y
              have b44_y := cx_mk_2 h42_y hj6x1_z
              refine ok_if (fun c45_y => ?_) (fun c45_y => ?_)
              · unfold f_MarkReader_readLine_132
                refine ok_b1 (ok_MarkReader_isToken S6x33_z 11 h42_y hb (by decide)) (fun r1x46_z h47_y => ?_)
                refine ok_if (fun c48_y => ?_) (fun c48_y => ?_)
                · refine ok_b2 (ok_MarkReader_refuse S6x33_z 1 h42_y hb (by omega)) (fun r4x46_z S3x46_z h49_y => ?_)
                  obtain ⟨h50_y, p51_y⟩ := h49_y
                  refine ok_chk (by omega) ?_
                  exact ok_some ⟨h50_y, by omega⟩
                · refine ok_b2 (ok_MarkReader_readWords S6x33_z j6x1_z h42_y hb hj6x1_z) (fun r8x46_z S7x46_z h52_y => ?_)
                  obtain ⟨h53_y, p54_y⟩ := h52_y
                  refine ok_chk (by omega) ?_
                  exact ok_some ⟨h53_y, by omega⟩
              · refine ok_if (fun c55_y => ?_) (fun c55_y => ?_)
                · unfold f_MarkReader_readLine_132
                  refine ok_b1 (ok_MarkReader_isToken S6x33_z 11 h42_y hb (by decide)) (fun r1x56_z h57_y => ?_)
                  refine ok_if (fun c58_y => ?_) (fun c58_y => ?_)
                  · refine ok_b2 (ok_MarkReader_refuse S6x33_z 1 h42_y hb (by omega)) (fun r4x56_z S3x56_z h59_y => ?_)
                    obtain ⟨h60_y, p61_y⟩ := h59_y
                    refine ok_chk (by omega) ?_
                    exact ok_some ⟨h60_y, by omega⟩
                  · refine ok_b2 (ok_MarkReader_readWords S6x33_z j6x1_z h42_y hb hj6x1_z) (fun r8x56_z S7x56_z h62_y => ?_)
                    obtain ⟨h63_y, p64_y⟩ := h62_y
                    refine ok_chk (by omega) ?_
                    exact ok_some ⟨h63_y, by omega⟩
                · refine ok_b1 (ok_MarkReader_isToken S6x33_z 12 h42_y hb (by decide)) (fun r10x33_z h65_y => ?_)
                  refine ok_if (fun c66_y => ?_) (fun c66_y => ?_)
                  · refine ok_b2 (ok_MarkReader_refuse S6x33_z 1 h42_y hb (by omega)) (fun r13x33_z S12x33_z h67_y => ?_)
                    obtain ⟨h68_y, p69_y⟩ := h67_y
                    refine ok_if (fun c70_y => ?_) (fun c70_y => ?_)
                    · exact ok_some ⟨h68_y, by omega⟩
                    · exact ok_some ⟨h68_y, by omega⟩
                  · exact ok_some ⟨h42_y, by omega⟩
          · refine ok_if (fun c71_y => ?_) (fun c71_y => ?_)
            · unfold f_MarkReader_readLine_92
              refine ok_b2 (ok_MarkReader_refuse S3x22_z 1 h24_y hb (by omega)) (fun r2x72_z S1x72_z h73_y => ?_)
              obtain ⟨h74_y, p75_y⟩ := h73_y
              refine ok_chk (by omega) ?_
              exact ok_some ⟨h74_y, by omega⟩
            · unfold f_MarkReader_readLine_98
              refine ok_b2 (ok_MarkReader_readNumbers S3x22_z j6x1_z h24_y hb hj6x1_z) (fun r2x76_z S1x76_z h77_y => ?_)
              obtain ⟨h78_y, p79_y⟩ := h77_y
              refine ok_if (fun c80_y => ?_) (fun c80_y => ?_)
              · exact ok_some ⟨h78_y, by omega⟩
              · refine ok_b1 (ok_Mark_place S1x76_z j6x1_z h78_y hj6x1_z) (fun S4x76_z h81_y => ?_)
                obtain ⟨h82_y, p83_y⟩ := h81_y
                refine ok_b1 (ok_MarkReader_readToken S4x76_z h82_y hb) (fun S6x76_z h84_y => ?_)
                obtain ⟨h85_y, p86_y⟩ := h84_y
                have b87_y := cx_mk_2 h85_y hj6x1_z
                refine ok_if (fun c88_y => ?_) (fun c88_y => ?_)
                · unfold f_MarkReader_readLine_132
                  refine ok_b1 (ok_MarkReader_isToken S6x76_z 11 h85_y hb (by decide)) (fun r1x89_z h90_y => ?_)
                  refine ok_if (fun c91_y => ?_) (fun c91_y => ?_)
                  · refine ok_b2 (ok_MarkReader_refuse S6x76_z 1 h85_y hb (by omega)) (fun r4x89_z S3x89_z h92_y => ?_)
                    obtain ⟨h93_y, p94_y⟩ := h92_y
                    refine ok_chk (by omega) ?_
                    exact ok_some ⟨h93_y, by omega⟩
                  · refine ok_b2 (ok_MarkReader_readWords S6x76_z j6x1_z h85_y hb hj6x1_z) (fun r8x89_z S7x89_z h95_y => ?_)
                    obtain ⟨h96_y, p97_y⟩ := h95_y
                    refine ok_chk (by omega) ?_
                    exact ok_some ⟨h96_y, by omega⟩
                · refine ok_if (fun c98_y => ?_) (fun c98_y => ?_)
                  · unfold f_MarkReader_readLine_132
                    refine ok_b1 (ok_MarkReader_isToken S6x76_z 11 h85_y hb (by decide)) (fun r1x99_z h100_y => ?_)
                    refine ok_if (fun c101_y => ?_) (fun c101_y => ?_)
                    · refine ok_b2 (ok_MarkReader_refuse S6x76_z 1 h85_y hb (by omega)) (fun r4x99_z S3x99_z h102_y => ?_)
                      obtain ⟨h103_y, p104_y⟩ := h102_y
                      refine ok_chk (by omega) ?_
                      exact ok_some ⟨h103_y, by omega⟩
                    · refine ok_b2 (ok_MarkReader_readWords S6x76_z j6x1_z h85_y hb hj6x1_z) (fun r8x99_z S7x99_z h105_y => ?_)
                      obtain ⟨h106_y, p107_y⟩ := h105_y
                      refine ok_chk (by omega) ?_
                      exact ok_some ⟨h106_y, by omega⟩
                  · refine ok_b1 (ok_MarkReader_isToken S6x76_z 12 h85_y hb (by decide)) (fun r10x76_z h108_y => ?_)
                    refine ok_if (fun c109_y => ?_) (fun c109_y => ?_)
                    · refine ok_b2 (ok_MarkReader_refuse S6x76_z 1 h85_y hb (by omega)) (fun r13x76_z S12x76_z h110_y => ?_)
                      obtain ⟨h111_y, p112_y⟩ := h110_y
                      refine ok_if (fun c113_y => ?_) (fun c113_y => ?_)
                      · exact ok_some ⟨h111_y, by omega⟩
                      · exact ok_some ⟨h111_y, by omega⟩
                    · exact ok_some ⟨h85_y, by omega⟩
      · refine ok_lt (fun S16x1_z eS16x1_z => ?_)
        have h114_y : CX b S16x1_z := by rw [eS16x1_z]; exact cs_mk_7 h18_y hj6x1_z (by omega) (by omega)
        refine ok_b1 (ok_MarkReader_readToken S16x1_z h114_y hb) (fun S17x1_z h115_y => ?_)
        obtain ⟨h116_y, p117_y⟩ := h115_y
        unfold f_MarkReader_readLine_61
        refine ok_b1 (ok_MarkReader_kindNamed S17x1_z h116_y hb) (fun r1x118_z h119_y => ?_)
        refine ok_lt (fun S3x118_z eS3x118_z => ?_)
        have h120_y : CX b S3x118_z := by rw [eS3x118_z]; exact cs_mk_2 h116_y hj6x1_z (by omega) (by omega)
        have b121_y := cx_mk_2 h120_y hj6x1_z
        refine ok_if (fun c122_y => ?_) (fun c122_y => ?_)
        · unfold f_MarkReader_readLine_92
          refine ok_b2 (ok_MarkReader_refuse S3x118_z 1 h120_y hb (by omega)) (fun r2x123_z S1x123_z h124_y => ?_)
          obtain ⟨h125_y, p126_y⟩ := h124_y
          refine ok_chk (by omega) ?_
          exact ok_some ⟨h125_y, by omega⟩
        · have b127_y := cx_mk_7 h120_y hj6x1_z
          refine ok_if (fun c128_y => ?_) (fun c128_y => ?_)
          · unfold f_MarkReader_readLine_98
            refine ok_b2 (ok_MarkReader_readNumbers S3x118_z j6x1_z h120_y hb hj6x1_z) (fun r2x129_z S1x129_z h130_y => ?_)
            obtain ⟨h131_y, p132_y⟩ := h130_y
            refine ok_if (fun c133_y => ?_) (fun c133_y => ?_)
            · exact ok_some ⟨h131_y, by omega⟩
            · refine ok_b1 (ok_Mark_place S1x129_z j6x1_z h131_y hj6x1_z) (fun S4x129_z h134_y => ?_)
              obtain ⟨h135_y, p136_y⟩ := h134_y
              refine ok_b1 (ok_MarkReader_readToken S4x129_z h135_y hb) (fun S6x129_z h137_y => ?_)
              obtain ⟨h138_y, p139_y⟩ := h137_y
              have b140_y := cx_mk_2 h138_y hj6x1_z
              refine ok_if (fun c141_y => ?_) (fun c141_y => ?_)
              · unfold f_MarkReader_readLine_132
                refine ok_b1 (ok_MarkReader_isToken S6x129_z 11 h138_y hb (by decide)) (fun r1x142_z h143_y => ?_)
                refine ok_if (fun c144_y => ?_) (fun c144_y => ?_)
                · refine ok_b2 (ok_MarkReader_refuse S6x129_z 1 h138_y hb (by omega)) (fun r4x142_z S3x142_z h145_y => ?_)
                  obtain ⟨h146_y, p147_y⟩ := h145_y
                  refine ok_chk (by omega) ?_
                  exact ok_some ⟨h146_y, by omega⟩
                · refine ok_b2 (ok_MarkReader_readWords S6x129_z j6x1_z h138_y hb hj6x1_z) (fun r8x142_z S7x142_z h148_y => ?_)
                  obtain ⟨h149_y, p150_y⟩ := h148_y
                  refine ok_chk (by omega) ?_
                  exact ok_some ⟨h149_y, by omega⟩
              · refine ok_if (fun c151_y => ?_) (fun c151_y => ?_)
                · unfold f_MarkReader_readLine_132
                  refine ok_b1 (ok_MarkReader_isToken S6x129_z 11 h138_y hb (by decide)) (fun r1x152_z h153_y => ?_)
                  refine ok_if (fun c154_y => ?_) (fun c154_y => ?_)
                  · refine ok_b2 (ok_MarkReader_refuse S6x129_z 1 h138_y hb (by omega)) (fun r4x152_z S3x152_z h155_y => ?_)
                    obtain ⟨h156_y, p157_y⟩ := h155_y
                    refine ok_chk (by omega) ?_
                    exact ok_some ⟨h156_y, by omega⟩
                  · refine ok_b2 (ok_MarkReader_readWords S6x129_z j6x1_z h138_y hb hj6x1_z) (fun r8x152_z S7x152_z h158_y => ?_)
                    obtain ⟨h159_y, p160_y⟩ := h158_y
                    refine ok_chk (by omega) ?_
                    exact ok_some ⟨h159_y, by omega⟩
                · refine ok_b1 (ok_MarkReader_isToken S6x129_z 12 h138_y hb (by decide)) (fun r10x129_z h161_y => ?_)
                  refine ok_if (fun c162_y => ?_) (fun c162_y => ?_)
                  · refine ok_b2 (ok_MarkReader_refuse S6x129_z 1 h138_y hb (by omega)) (fun r13x129_z S12x129_z h163_y => ?_)
                    obtain ⟨h164_y, p165_y⟩ := h163_y
                    refine ok_if (fun c166_y => ?_) (fun c166_y => ?_)
                    · exact ok_some ⟨h164_y, by omega⟩
                    · exact ok_some ⟨h164_y, by omega⟩
                  · exact ok_some ⟨h138_y, by omega⟩
          · refine ok_if (fun c167_y => ?_) (fun c167_y => ?_)
            · unfold f_MarkReader_readLine_92
              refine ok_b2 (ok_MarkReader_refuse S3x118_z 1 h120_y hb (by omega)) (fun r2x168_z S1x168_z h169_y => ?_)
              obtain ⟨h170_y, p171_y⟩ := h169_y
              refine ok_chk (by omega) ?_
              exact ok_some ⟨h170_y, by omega⟩
            · unfold f_MarkReader_readLine_98
              refine ok_b2 (ok_MarkReader_readNumbers S3x118_z j6x1_z h120_y hb hj6x1_z) (fun r2x172_z S1x172_z h173_y => ?_)
              obtain ⟨h174_y, p175_y⟩ := h173_y
              refine ok_if (fun c176_y => ?_) (fun c176_y => ?_)
              · exact ok_some ⟨h174_y, by omega⟩
              · refine ok_b1 (ok_Mark_place S1x172_z j6x1_z h174_y hj6x1_z) (fun S4x172_z h177_y => ?_)
                obtain ⟨h178_y, p179_y⟩ := h177_y
                refine ok_b1 (ok_MarkReader_readToken S4x172_z h178_y hb) (fun S6x172_z h180_y => ?_)
                obtain ⟨h181_y, p182_y⟩ := h180_y
                have b183_y := cx_mk_2 h181_y hj6x1_z
                refine ok_if (fun c184_y => ?_) (fun c184_y => ?_)
                · unfold f_MarkReader_readLine_132
                  refine ok_b1 (ok_MarkReader_isToken S6x172_z 11 h181_y hb (by decide)) (fun r1x185_z h186_y => ?_)
                  refine ok_if (fun c187_y => ?_) (fun c187_y => ?_)
                  · refine ok_b2 (ok_MarkReader_refuse S6x172_z 1 h181_y hb (by omega)) (fun r4x185_z S3x185_z h188_y => ?_)
                    obtain ⟨h189_y, p190_y⟩ := h188_y
                    refine ok_chk (by omega) ?_
                    exact ok_some ⟨h189_y, by omega⟩
                  · refine ok_b2 (ok_MarkReader_readWords S6x172_z j6x1_z h181_y hb hj6x1_z) (fun r8x185_z S7x185_z h191_y => ?_)
                    obtain ⟨h192_y, p193_y⟩ := h191_y
                    refine ok_chk (by omega) ?_
                    exact ok_some ⟨h192_y, by omega⟩
                · refine ok_if (fun c194_y => ?_) (fun c194_y => ?_)
                  · unfold f_MarkReader_readLine_132
                    refine ok_b1 (ok_MarkReader_isToken S6x172_z 11 h181_y hb (by decide)) (fun r1x195_z h196_y => ?_)
                    refine ok_if (fun c197_y => ?_) (fun c197_y => ?_)
                    · refine ok_b2 (ok_MarkReader_refuse S6x172_z 1 h181_y hb (by omega)) (fun r4x195_z S3x195_z h198_y => ?_)
                      obtain ⟨h199_y, p200_y⟩ := h198_y
                      refine ok_chk (by omega) ?_
                      exact ok_some ⟨h199_y, by omega⟩
                    · refine ok_b2 (ok_MarkReader_readWords S6x172_z j6x1_z h181_y hb hj6x1_z) (fun r8x195_z S7x195_z h201_y => ?_)
                      obtain ⟨h202_y, p203_y⟩ := h201_y
                      refine ok_chk (by omega) ?_
                      exact ok_some ⟨h202_y, by omega⟩
                  · refine ok_b1 (ok_MarkReader_isToken S6x172_z 12 h181_y hb (by decide)) (fun r10x172_z h204_y => ?_)
                    refine ok_if (fun c205_y => ?_) (fun c205_y => ?_)
                    · refine ok_b2 (ok_MarkReader_refuse S6x172_z 1 h181_y hb (by omega)) (fun r13x172_z S12x172_z h206_y => ?_)
                      obtain ⟨h207_y, p208_y⟩ := h206_y
                      refine ok_if (fun c209_y => ?_) (fun c209_y => ?_)
                      · exact ok_some ⟨h207_y, by omega⟩
                      · exact ok_some ⟨h207_y, by omega⟩
                    · exact ok_some ⟨h181_y, by omega⟩
theorem okl_marks (v3 : Int) : ∀ (n : Nat) (b : Nat) (S : SS) (v5_ : Int), 2 ≤ b → b ≤ 42 → CX b S → (0 ≤ v5_ ∧ v5_ ≤ 41) → 41 - v5_ < (n : Int) → okk (f_MarkReader_readMarks_44 v3 n S v5_) (fun u => CX 0 u.2 ∧ (gi u.2 10 3 + gi u.2 10 4 ≤ 40 ∧ (u.1 = 0 ∨ u.1 = 1))) := by
  intro n
  induction n with
  | zero => intro b S v5_ hb hb2 hC hi hm; exfalso; omega
  | succ n ih =>
    intro b S v5_ hb hb2 hC hi hm
    have hm : 41 - v5_ < (n : Int) + 1 := by omega
    show okk (f_MarkReader_readMarks_44_b v3 (f_MarkReader_readMarks_44 v3 n) S v5_) _
    unfold f_MarkReader_readMarks_44_b
    have s0 := (hC.2.2.2.2.2 hb).2
    refine ok_if (fun _ => ok_some ⟨hC.weak, by dsimp only; omega⟩) (fun c1 => ?_)
    refine ok_b1 (ok_MarkReader_readToken S hC hb) (fun S1 h1 => ?_)
    have h1 := h1.1
    have s1 := (h1.2.2.2.2.2 hb).2
    refine ok_chk (h1.2.2.2.2.2 hb).1.1 (ok_if (fun _ => ?_) (fun _ => ok_some ⟨h1.weak, by dsimp only; omega⟩))
    refine ok_b2 (ok_MarkReader_readLine S1 h1 hb) (fun r6 S5 h5 => ?_)
    have p5 := h5.2
    have h5 := h5.1
    dsimp only at h5 p5
    have s5 := (h5.2.2.2.2.2 hb).2
    have b3 := cx_10_3 h5
    have b4 := cx_10_4 h5
    refine ok_if (fun _ => ok_some ⟨h5.weak, by dsimp only; omega⟩) (fun c2 => ?_)
    refine ok_chk (h5.2.2.2.2.2 hb).1.2.1 (ok_chk (by omega) (ok_lt (fun S10 e => ok_chk (by omega) ?_)))
    have e3 : gi S10 10 3 = gi S5 10 3 := gi_ne e (by omega)
    have e4 : gi S10 10 4 = gi S5 10 4 + 1 := gi_eq e
    have h10 : CX 0 S10 := by rw [e]; exact cs_10_4 h5.weak (by decide) (by omega) (by omega)
    have h10 : CX (b - 1 + 2) S10 := h10.two (by rw [e]; exact (h5.2.2.2.2.2 hb).1) (by omega)
    exact ih (b - 1 + 2) S10 (v5_ + 1) (by omega) (by omega) h10 (by omega) (by omega)
theorem ok_MarkReader_readMarks (S : SS) (v3 : Int) (hC : CX 0 S) (hp0 : gi S 10 3 ≤ 40) (hp1 : 0 ≤ v3 ∧ v3 ≤ 60) : okk (f_MarkReader_readMarks S v3) (fun u => CX 0 u.2 ∧ (gi u.2 10 3 + gi u.2 10 4 ≤ 40 ∧ (u.1 = 0 ∨ u.1 = 1))) := by
  unfold f_MarkReader_readMarks
  refine ok_lt (fun S1 e1 => ok_lt (fun S2 e2 => ok_lt (fun S3 e3 => ok_lt (fun S4 e4 => ok_lt (fun S5 e5 => ?_)))))
  have h1 : CX 0 S1 := by rw [e1]; exact cs_q177 hC (by decide)
  have h2 : CX 0 S2 := by rw [e2]; exact cs_q177 h1 (by decide)
  have h3 : CX 0 S3 := by rw [e3]; exact cs_q177 h2 (by decide)
  have h4 : CX 0 S4 := by rw [e4]; exact cs_177_3 h3 (by omega) (by omega)
  have h5 : CX 0 S5 := by rw [e5]; exact cs_177_4 h4 (by omega) (by omega)
  have q : ∀ k, gq S5 177 k = if k = 2 then some 3 else if k = 1 then some 10 else if k = 0 then some 1 else gq S 177 k := by
    intro k
    rw [e5, show ∀ v, gq (si S4 177 4 v) 177 k = gq S4 177 k from fun _ => rfl, e4, show ∀ v, gq (si S3 177 3 v) 177 k = gq S3 177 k from fun _ => rfl, e3, gq_sq, e2, gq_sq, e1, gq_sq]
    by_cases k2 : k = 2
    · rw [if_pos ⟨rfl, k2⟩, if_pos k2]
    · rw [if_neg (by omega), if_neg k2]
      by_cases k1 : k = 1
      · rw [if_pos ⟨rfl, k1⟩, if_pos k1]
      · rw [if_neg (by omega), if_neg k1]
        by_cases k0 : k = 0
        · rw [if_pos ⟨rfl, k0⟩, if_pos k0]
        · rw [if_neg (by omega), if_neg k0]
  have q3 : gq S5 177 0 = some 1 ∧ gq S5 177 1 = some 10 ∧ gq S5 177 2 = some 3 := ⟨by rw [q]; rfl, by rw [q]; rfl, by rw [q]; rfl⟩
  refine ok_chk q3.2.2 (ok_lt (fun S6 e6 => ?_))
  have h6 : CX 0 S6 := by rw [e6]; exact cx_Fault_clear h5
  have q6 : gq S6 177 0 = some 1 ∧ gq S6 177 1 = some 10 ∧ gq S6 177 2 = some 3 := by rw [e6]; exact q3
  refine ok_chk q6.2.1 (ok_lt (fun S8 e8 => ?_))
  have h8 : CX 0 S8 := by rw [e8]; exact cs_10_4 h6 (by decide) (by omega) (by omega)
  have q8 : gq S8 177 0 = some 1 ∧ gq S8 177 1 = some 10 ∧ gq S8 177 2 = some 3 := by rw [e8]; exact q6
  have b8 := cx_10_3 h8
  have z8 : gi S8 10 4 = 0 := gi_eq e8
  have h8 : CX ((gi S8 10 3).toNat + 2) S8 := h8.two q8 (by omega)
  exact okl_marks v3 FU _ S8 0 (by omega) (by omega) h8 (by omega) (by unfold FU; omega)
theorem ok_MP_marks (S : SS) (hC : CX 0 S) : okk (f_MP_marks S) (fun u => CX 0 u.2 ∧ True) := by
  have hs : gi S 4 1 ≤ 60 := (cx_sh hC (show shOk 4 by decide)).2.1
  have b4 := cx_sh hC (show shOk 4 by decide)
  have b3 := cx_10_3 hC
  unfold f_MP_marks
  refine ok_b2 (ok_MarkReader_readMarks S _ hC (by omega) (by omega)) (fun r3 S2 h2 => ok_lt (fun S5 e5 => ?_))
  have p2 := h2.2
  have h2 := h2.1
  dsimp only at h2 p2
  have h5 : CX 0 S5 := by rw [e5]; exact cs_1_1 h2 (by omega) (by omega)
  have f3 : gi S5 10 3 = gi S2 10 3 := gi_ne e5 (by omega)
  have f4 : gi S5 10 4 = gi S2 10 4 := gi_ne e5 (by omega)
  refine ok_if (fun _ => ok_some ⟨h5, trivial⟩) (fun _ => ?_)
  refine ok_b2 (ok_Pile_accept S5 h5 (by omega)) (fun r7 S6 h6 => ?_)
  refine ok_b1 (ok_MP_settle S6 h6.1) (fun S9 h9 => ?_)
  exact ok_some ⟨h9.1, trivial⟩
def bcb (o : Option Int) : Bool := match o with
  | some r => decide (0 ≤ r ∧ r ≤ 63)
  | none => false
set_option maxRecDepth 100000 in
theorem bc_all : ∀ n : Nat, n < 256 → bcb (f_bitCount SZ (n : Int)) = true := by decide +kernel
theorem ok_bitCount {b : Nat} (S : SS) (v : Int) (hC : CX b S) (hv : 0 ≤ v ∧ v ≤ 255) : okk (f_bitCount S v) (fun r => 0 ≤ r ∧ r ≤ 63) := by
  have h := bc_all v.toNat (by omega)
  rw [show ((v.toNat : Nat) : Int) = v by omega] at h
  show okk (f_bitCount SZ v) _
  cases q : f_bitCount SZ v with
  | none => rw [q] at h; cases h
  | some r => rw [q] at h; exact ok_some (of_decide_eq_true h)
theorem shl1_all : ∀ n : Nat, n < 9 → 1 ≤ shli 1 (n : Int) ∧ shli 1 (n : Int) ≤ 256 := by decide +kernel
theorem shl1 (k : Int) (h : 0 ≤ k ∧ k ≤ 8) : 1 ≤ shli 1 k ∧ shli 1 k ≤ 256 := by
  have h := shl1_all k.toNat (by omega)
  rw [show ((k.toNat : Nat) : Int) = k by omega] at h
  exact h
theorem mulr {a c : Int} (ha : 0 ≤ a ∧ a ≤ 400) (hc : 0 ≤ c ∧ c ≤ 9) : 0 ≤ a * c ∧ a * c ≤ 3600 := by
  have h1 := Int.mul_nonneg ha.1 hc.1
  have h2 : a * c ≤ 400 * 9 := Int.mul_le_mul ha.2 hc.2 hc.1 (by omega)
  omega
theorem okl_weigh (q2 q3 : Nat) (hq2 : shOk q2) (hq3 : shOk q3) : ∀ (n : Nat) (S : SS) (v6_ v7_ v8_ v9_ : Int), CX 0 S → (0 ≤ v6_ ∧ v6_ ≤ 100000 ∧ 0 ≤ v9_ ∧ v9_ ≤ 256 ∧ v8_ ≤ 256) → 256 - v9_ < (n : Int) → okk (f_Holding_weigh_23 q2 q3 n S v6_ v7_ v8_ v9_) (fun u => CX 0 u.2 ∧ True) := by
  intro n
  induction n with
  | zero => intro S v6_ v7_ v8_ v9_ hC hi hm; exfalso; omega
  | succ n ih =>
    intro S v6_ v7_ v8_ v9_ hC hi hm
    have hm : 256 - v9_ < (n : Int) + 1 := by omega
    show okk (f_Holding_weigh_23_b q2 q3 (f_Holding_weigh_23 q2 q3 n) S v6_ v7_ v8_ v9_) _
    unfold f_Holding_weigh_23_b
    refine ok_if (fun _ => ?_) (fun c1 => ?_)
    · refine ok_lt (fun S1 e1 => ?_)
      have h1 : CX 0 S1 := by rw [e1]; exact cs_183_7 hC (by omega) (by omega)
      refine ok_b1 (ok_Holding_listMissed S1 h1) (fun S2 h2 => ok_b1 (ok_Setter_takeDone S2 _ h2.1) (fun S5 h5 => ok_b1 (ok_Setter_make S5 q2 184 h5.1 hq2 (by decide)) (fun S7 h7 => ok_b1 (ok_Holding_listChanges S7 q3 h7.1 hq3) (fun S9 h9 => ok_some ⟨h9.1, trivial⟩))))
    have k1 : ∀ S', CX 0 S' → okk (f_Holding_weigh_160 q2 q3 (f_Holding_weigh_23 q2 q3 n) S' v6_ v7_ v8_ v9_) (fun u => CX 0 u.2 ∧ True) := by
      intro S' h'
      unfold f_Holding_weigh_160
      exact ok_chk (by omega) (ih S' v6_ v7_ v8_ (v9_ + 1) h' (by omega) (by omega))
    have k2 : ∀ S' (v10_ v12_ v13_ : Int), CX 0 S' → (0 ≤ v12_ ∧ v12_ ≤ 400 ∧ 0 ≤ v13_ ∧ v13_ ≤ 100000) → okk (f_Holding_weigh_140 q2 q3 (f_Holding_weigh_23 q2 q3 n) S' v8_ v9_ v10_ v12_ v13_) (fun u => CX 0 u.2 ∧ True) := by
      intro S' v10_ v12_ v13_ h' hv
      unfold f_Holding_weigh_140
      refine ok_lt (fun S1 e1 => ok_lt (fun S2 e2 => ?_))
      have h1 : CX 0 S1 := by rw [e1]; exact cs_183_8 h' (by omega) (by omega)
      have h2 : CX 0 S2 := by rw [e2]; exact cs_183_10 h1 (by omega) (by omega)
      unfold f_Holding_weigh_160
      exact ok_chk (by omega) (ih S2 v13_ v10_ v8_ (v9_ + 1) h2 (by omega) (by omega))
    refine ok_b1 (ok_bitCount S v9_ hC (by omega)) (fun r11 hr => ?_)
    have g6 := cx_183_6 hC
    have m6 := mulr (a := r11) (c := gi S 183 6) (by omega) (by omega)
    refine ok_chk (by omega) (ok_chk (by omega) (ok_b1 (ok_Holding_distanceFor S _ hC) (fun r16 h16 => ok_if (fun c2 => ?_) (fun _ => k1 S hC))))
    refine ok_b1 (ok_Setter_takeDone S v9_ hC) (fun S18 h18 => ok_b1 (ok_Setter_make S18 q2 184 h18.1 hq2 (by decide)) (fun S20 h20 => ok_b2 (ok_Ruler_measure S20 184 0 q3 0 r16 h20.1 (by decide) hq3 (by omega) (by omega) (by omega)) (fun r23 S22 h22 => ?_)))
    have p22 := h22.2
    have h22 := h22.1
    dsimp only at h22 p22
    have g5 := cx_183_5 h22
    have g6' := cx_183_6 h22
    have m5 := mulr (a := r23) (c := gi S22 183 5) (by omega) (by omega)
    have m6' := mulr (a := r11) (c := gi S22 183 6) (by omega) (by omega)
    refine ok_chk (by omega) (ok_chk (by omega) (ok_chk (by omega) ?_))
    refine ok_if (fun _ => k1 S22 h22) (fun _ => ok_if (fun _ => k2 S22 _ _ _ h22 (by omega)) (fun _ => ok_if (fun _ => ok_if (fun _ => k1 S22 h22) (fun _ => k2 S22 _ _ _ h22 (by omega))) (fun _ => k1 S22 h22)))
theorem ok_MP_hold (S : SS) (hC : CX 0 S) : okk (f_MP_hold S) (fun u => CX 0 u.2 ∧ True) := by
  have b5 := cx_10_5 hC
  unfold f_MP_hold
  refine ok_if (fun c1 => ?_) (fun _ => ok_some ⟨hC, trivial⟩)
  have hs := shl1 (min (gi S 10 5) 8) (by omega)
  unfold f_Holding_weigh
  exact ok_b2 (okl_weigh 4 6 (by decide) (by decide) FU S 100000 0 _ 0 hC (by omega) (by unfold FU; omega)) (fun r S1 h => ok_some ⟨h.1, trivial⟩)
