theorem stl_all : ∀ i : Nat, i < 13 → shri (stl i) 0 = stl i ∧ 1 ≤ stl i ∧ stl i ≤ 100 := by decide
theorem stl_rng {i : Nat} (h : i < 13) : 1 ≤ stl i ∧ stl i ≤ 100 := (stl_all i h).2
theorem len_rng (S : SS) {i : Nat} (h : i < 13) : f_length S i = stl i ∧ 1 ≤ stl i ∧ stl i ≤ 100 := stl_all i h
theorem toc_rng (a : Int) : 0 ≤ toc a ∧ toc a < 65536 := by
  unfold toc
  generalize (oi a).toUInt32 = u
  have h : (u % 65536).toNat < 65536 := by rw [UInt32.toNat_mod]; exact Nat.mod_lt _ (by decide)
  generalize u % 65536 = w at h
  have e : w.toInt32.toInt = (w.toNat : Int) := by
    show w.toBitVec.toInt = _
    rw [BitVec.toInt_eq_toNat_cond, if_pos (by show 2 * w.toNat < 2 ^ 32; omega)]
    rfl
  rw [e]
  omega
theorem num6_all : ∀ k : Nat, k < 6 → 0 ≤ num6 k ∧ num6 k ≤ 3 := by decide
theorem ok_charAt {b : Nat} (S : SS) (i0 : Nat) (v1 : Int) (hC : CX b S) (hi0 : i0 < 13) (hp0 : 0 ≤ v1 ∧ v1 < stl i0) : okk (f_charAt S i0 v1) (fun r => True) := by
  unfold f_charAt
  refine ok_if (fun h => absurd (show (1 : Int) = 0 from h) (by decide)) (fun _ => ?_)
  refine ok_b1 (R := fun r => 0 ≤ r ∧ r < 65536) ?_ (fun r h => ok_chk h (ok_some trivial))
  unfold f_l1charAt
  refine ok_b1 (R := fun _ => True) ?_ (fun _ _ => ok_chk hp0 (ok_chk (toc_rng _) (ok_some (toc_rng _))))
  unfold f_checkIndex f_preCheck
  exact ⟨(), by rw [if_neg (by omega), if_pos (by omega)]; rfl, trivial⟩
set_option maxHeartbeats 4000000 in
theorem okl_indexOfChar_7 {b : Nat} (S : SS) (i0 : Nat) (v1 : Int) (v2 : Int) (v3 : Int) (hC : CX b S) (hi0 : i0 < 13) (hp0 : 0 ≤ v2 ∧ v2 < v3 ∧ v3 ≤ stl i0 ∧ stl i0 ≤ 100) : ∀ (n : Nat) (v4_ : Int) (v5_ : Int), (0 ≤ v5_ ∧ v5_ ≤ 100) → 100 - v5_ < (n : Int) → okk (f_indexOfChar_7 S i0 v1 v2 v3 n v4_ v5_) (fun r => True) := by
  intro n
  induction n with
  | zero => intro v4_ v5_ hi hm; exfalso; omega
  | succ n ih =>
    intro v4_ v5_ hi hm
    have hm : 100 - v5_ < (n : Int) + 1 := by omega
    show okk (f_indexOfChar_7_b S i0 v1 v2 v3 (f_indexOfChar_7 S i0 v1 v2 v3 n) v4_ v5_) _
    unfold f_indexOfChar_7_b
    refine ok_if (fun c1_y => ?_) (fun c1_y => ?_)
    · exact ok_some (by trivial)
    · have b2_y := stl_rng hi0
      refine ok_chk (by omega) ?_
      refine ok_if (fun c3_y => ?_) (fun c3_y => ?_)
      · exact ok_some (by trivial)
      · refine ok_chk (by omega) ?_
        exact ih v4_ (v5_ + 1) (by omega) (by omega)
set_option maxHeartbeats 4000000 in
theorem ok_indexOfChar {b : Nat} (S : SS) (i0 : Nat) (v1 : Int) (v2 : Int) (v3 : Int) (hC : CX b S) (hi0 : i0 < 13) (hp0 : 0 ≤ v2 ∧ v2 < v3 ∧ v3 ≤ stl i0 ∧ stl i0 ≤ 100) : okk (f_indexOfChar S i0 v1 v2 v3) (fun r => True) := by
  unfold f_indexOfChar
  have b2_y := tob_rng v1
  exact okl_indexOfChar_7 S i0 v1 v2 v3 hC hi0 (by omega) FU (tob v1) v2 (by omega) (by unfold FU; omega)
set_option maxHeartbeats 4000000 in
theorem ok_l1indexOf {b : Nat} (S : SS) (i0 : Nat) (v1 : Int) (v2 : Int) (v3 : Int) (hC : CX b S) (hi0 : i0 < 13) : okk (f_l1indexOf S i0 v1 v2 v3) (fun r => True) := by
  unfold f_l1indexOf
  refine ok_if (fun c2_y => ?_) (fun c2_y => ?_)
  · exact ok_some (by trivial)
  · have b3_y := stl_rng hi0
    refine ok_if (fun c4_y => ?_) (fun c4_y => ?_)
    · refine ok_b1 (ok_indexOfChar S i0 v1 (max v2 0) (min v3 (stl i0)) hC hi0 (by omega)) (fun r5x1_z h5_y => ?_)
      exact ok_some (by trivial)
    · exact ok_some (by trivial)
set_option maxHeartbeats 4000000 in
theorem ok_indexOf2 {b : Nat} (S : SS) (i0 : Nat) (v1 : Int) (v2 : Int) (hC : CX b S) (hi0 : i0 < 13) : okk (f_indexOf2 S i0 v1 v2) (fun r => True) := by
  unfold f_indexOf2
  refine ok_if (fun h => absurd (show (1 : Int) = 0 from h) (by decide)) (fun _ => ?_)
  have b2_y := len_rng S hi0
  refine ok_b1 (ok_l1indexOf S i0 v1 v2 (f_length S i0) hC hi0) (fun r3x1_z h3_y => ?_)
  exact ok_some (by trivial)
set_option maxHeartbeats 4000000 in
theorem ok_indexOf {b : Nat} (S : SS) (i0 : Nat) (v1 : Int) (hC : CX b S) (hi0 : i0 < 13) : okk (f_indexOf S i0 v1) (fun r => True) := by
  unfold f_indexOf
  refine ok_b1 (ok_indexOf2 S i0 v1 0 hC hi0) (fun r1x1_z h2_y => ?_)
  exact ok_some (by trivial)
set_option maxHeartbeats 4000000 in
theorem ok_MP_isOfWord {b : Nat} (S : SS) (v0 : Int) (hC : CX b S) : okk (f_MP_isOfWord S v0) (fun r => r = 0 ∨ r = 1) := by
  unfold f_MP_isOfWord
  refine ok_if (fun c2_y => ?_) (fun c2_y => ?_)
  · refine ok_if (fun c3_y => ?_) (fun c3_y => ?_)
    · refine ok_if (fun c4_y => ?_) (fun c4_y => ?_)
      · unfold f_MP_isOfWord_28
        refine ok_if (fun c6_y => ?_) (fun c6_y => ?_)
        · exact ok_some (by omega)
        · refine ok_if (fun c7_y => ?_) (fun c7_y => ?_)
          · exact ok_some (by omega)
          · have b8_y := toc_rng v0
            refine ok_b1 (ok_indexOf S 0 (toc v0) hC (by decide)) (fun r2x5_z h9_y => ?_)
            refine ok_if (fun c10_y => ?_) (fun c10_y => ?_)
            · exact ok_some (by omega)
            · exact ok_some (by omega)
      · refine ok_if (fun c11_y => ?_) (fun c11_y => ?_)
        · unfold f_MP_isOfWord_28
          refine ok_if (fun c13_y => ?_) (fun c13_y => ?_)
          · exact ok_some (by omega)
          · refine ok_if (fun c14_y => ?_) (fun c14_y => ?_)
            · exact ok_some (by omega)
            · have b15_y := toc_rng v0
              refine ok_b1 (ok_indexOf S 0 (toc v0) hC (by decide)) (fun r2x12_z h16_y => ?_)
              refine ok_if (fun c17_y => ?_) (fun c17_y => ?_)
              · exact ok_some (by omega)
              · exact ok_some (by omega)
        · exact ok_some (by omega)
    · exact ok_some (by omega)
  · exact ok_some (by omega)
set_option maxHeartbeats 4000000 in
theorem ok_SheetReader_addWord {b : Nat} (S : SS) (w1 : Int64) (v2 : Int) (hC : CX b S) : okk (f_SheetReader_addWord S w1 v2) (fun S1 => CX b S1 ∧ (True)) := by
  unfold f_SheetReader_addWord
  refine ok_if (fun c2_y => ?_) (fun c2_y => ?_)
  · exact ok_some ⟨hC, by trivial⟩
  · refine ok_b1 (ok_Sheet_add S 175 w1 hC (show shOk 175 by decide)) (fun S1x1_z h3_y => ?_)
    obtain ⟨h4_y, p5_y⟩ := h3_y
    exact ok_some ⟨h4_y, by trivial⟩
set_option maxHeartbeats 4000000 in
theorem okl_SheetReader_readProof_20 {b : Nat} (v2 : Int) (hp0 : v2 ≤ 300) : ∀ (n : Nat) (S : SS) (w4_ : Int64) (v6_ : Int) (v7_ : Int), CX b S → (0 ≤ v6_ ∧ v6_ ≤ 8 ∧ 0 ≤ v7_ ∧ v7_ ≤ 2000) → 2000 - v7_ < (n : Int) → okk (f_SheetReader_readProof_20 v2 n S w4_ v6_ v7_) (fun u => CX b u.2 ∧ (u.1 = 0 ∨ u.1 = 1)) := by
  intro n
  induction n with
  | zero => intro S w4_ v6_ v7_ hC hi hm; exfalso; omega
  | succ n ih =>
    intro S w4_ v6_ v7_ hC hi hm
    have hm : 2000 - v7_ < (n : Int) + 1 := by omega
    show okk (f_SheetReader_readProof_20_b v2 (f_SheetReader_readProof_20 v2 n) S w4_ v6_ v7_) _
    unfold f_SheetReader_readProof_20_b
    have b1_y := cx_1_1 hC
    refine ok_if (fun c2_y => ?_) (fun c2_y => ?_)
    · refine ok_b1 (ok_SheetReader_addWord S w4_ v6_ hC) (fun S2_z h3_y => ?_)
      obtain ⟨h4_y, p5_y⟩ := h3_y
      exact ok_some ⟨h4_y, by omega⟩
    · have b7_y := cx_1_1 hC
      refine ok_b1 (ok_Tape_byteAt S v7_ hC) (fun r4_z h6_y => ?_)
      refine ok_if (fun c8_y => ?_) (fun c8_y => ?_)
      · refine ok_b1 (ok_MP_isOfWord S r4_z hC) (fun r7_z h9_y => ?_)
        refine ok_if (fun c10_y => ?_) (fun c10_y => ?_)
        · unfold f_SheetReader_readProof_77
          refine ok_b2 (ok_Fault_tellOf S 1 v7_ hC (by omega) (by omega)) (fun r2x11_z S1x11_z h12_y => ?_)
          obtain ⟨h13_y, p14_y⟩ := h12_y
          refine ok_chk (by omega) ?_
          exact ok_some ⟨h13_y, by omega⟩
        · refine ok_if (fun c15_y => ?_) (fun c15_y => ?_)
          · unfold f_SheetReader_readProof_77
            refine ok_b2 (ok_Fault_tellOf S 1 v7_ hC (by omega) (by omega)) (fun r2x16_z S1x16_z h17_y => ?_)
            obtain ⟨h18_y, p19_y⟩ := h17_y
            refine ok_chk (by omega) ?_
            exact ok_some ⟨h18_y, by omega⟩
          · refine ok_if (fun c20_y => ?_) (fun c20_y => ?_)
            · have b21_y := cx_sh hC (show shOk 175 by decide)
              refine ok_if (fun c22_y => ?_) (fun c22_y => ?_)
              · unfold f_SheetReader_readProof_109
                refine ok_chk (by omega) ?_
                unfold f_SheetReader_readProof_123
                refine ok_chk (by omega) ?_
                exact ih S ((lsh w4_ 8) ||| (i2l r4_z)) (v6_ + 1) (v7_ + 1) hC (by omega) (by omega)
              · refine ok_b2 (ok_Fault_tellOf S 3 v7_ hC (by omega) (by omega)) (fun r11_z S10_z h25_y => ?_)
                obtain ⟨h26_y, p27_y⟩ := h25_y
                refine ok_chk (by omega) ?_
                exact ok_some ⟨h26_y, by omega⟩
            · unfold f_SheetReader_readProof_109
              refine ok_chk (by omega) ?_
              unfold f_SheetReader_readProof_123
              refine ok_chk (by omega) ?_
              exact ih S ((lsh w4_ 8) ||| (i2l r4_z)) (v6_ + 1) (v7_ + 1) hC (by omega) (by omega)
      · refine ok_b1 (ok_SheetReader_addWord S w4_ v6_ hC) (fun S14_z h30_y => ?_)
        obtain ⟨h31_y, p32_y⟩ := h30_y
        unfold f_SheetReader_readProof_123
        refine ok_chk (by omega) ?_
        exact ih S14_z (0 : Int64) 0 (v7_ + 1) h31_y (by omega) (by omega)
set_option maxHeartbeats 4000000 in
theorem ok_SheetReader_readProof {b : Nat} (S : SS) (v2 : Int) (hC : CX b S) (hp0 : v2 ≤ 300) : okk (f_SheetReader_readProof S v2) (fun u => CX b u.2 ∧ (u.1 = 0 ∨ u.1 = 1)) := by
  unfold f_SheetReader_readProof
  refine ok_lt (fun S1x1_z eS1x1_z => ?_)
  have h2_y : CX b S1x1_z := by rw [eS1x1_z]; exact cx_Sheet_clear hC (show shOk 175 by decide)
  refine ok_lt (fun S3x1_z eS3x1_z => ?_)
  have h3_y : CX b S3x1_z := by rw [eS3x1_z]; exact cx_Fault_clear h2_y
  exact okl_SheetReader_readProof_20 v2 (by omega) FU S3x1_z 0 0 0 h3_y (by omega) (by unfold FU; omega)
set_option maxHeartbeats 4000000 in
theorem ok_MP_first (S : SS) (hC : CX 0 S) : okk (f_MP_first S) (fun u => CX 0 u.2 ∧ (True)) := by
  unfold f_MP_first
  refine ok_b2 (ok_SheetReader_readProof S 60 hC (by omega)) (fun r2x1_z S1x1_z h2_y => ?_)
  obtain ⟨h3_y, p4_y⟩ := h2_y
  refine ok_lt (fun S4x1_z eS4x1_z => ?_)
  have h5_y : CX 0 S4x1_z := by rw [eS4x1_z]; exact cs_1_1 h3_y (by omega) (by omega)
  have f6_y : gi S4x1_z 1 1 = 0 := gi_eq eS4x1_z
  refine ok_if (fun c7_y => ?_) (fun c7_y => ?_)
  · exact ok_some ⟨h5_y, by trivial⟩
  · refine ok_b1 (ok_Sheet_copyFrom S4x1_z 4 175 h5_y (show shOk 4 by decide) (show shOk 175 by decide)) (fun S5x1_z h8_y => ?_)
    obtain ⟨h9_y, p10_y⟩ := h8_y
    refine ok_lt (fun S7x1_z eS7x1_z => ?_)
    have h11_y : CX 0 S7x1_z := by rw [eS7x1_z]; exact cx_Pile_clear h9_y
    refine ok_b1 (ok_MP_settle S7x1_z h11_y) (fun S9x1_z h12_y => ?_)
    obtain ⟨h13_y, p14_y⟩ := h12_y
    have b15_y := cx_sh h13_y (show shOk 4 by decide)
    exact ok_some ⟨h13_y, by trivial⟩
set_option maxHeartbeats 4000000 in
theorem ok_MP_second (S : SS) (hC : CX 0 S) : okk (f_MP_second S) (fun u => CX 0 u.2 ∧ (True)) := by
  unfold f_MP_second
  refine ok_b2 (ok_SheetReader_readProof S 150 hC (by omega)) (fun r2x1_z S1x1_z h2_y => ?_)
  obtain ⟨h3_y, p4_y⟩ := h2_y
  refine ok_lt (fun S4x1_z eS4x1_z => ?_)
  have h5_y : CX 0 S4x1_z := by rw [eS4x1_z]; exact cs_1_1 h3_y (by omega) (by omega)
  have f6_y : gi S4x1_z 1 1 = 0 := gi_eq eS4x1_z
  refine ok_if (fun c7_y => ?_) (fun c7_y => ?_)
  · exact ok_some ⟨h5_y, by trivial⟩
  · refine ok_b1 (ok_Sheet_copyFrom S4x1_z 6 175 h5_y (show shOk 6 by decide) (show shOk 175 by decide)) (fun S5x1_z h8_y => ?_)
    obtain ⟨h9_y, p10_y⟩ := h8_y
    have b11_y := cx_sh h9_y (show shOk 6 by decide)
    exact ok_some ⟨h9_y, by trivial⟩
set_option maxHeartbeats 4000000 in
theorem okl_MarkReader_skipBlanks_5 {b : Nat} (hb : 2 ≤ b) : ∀ (n : Nat) (S : SS) (v1_ : Int), CX b S → (0 ≤ v1_ ∧ v1_ ≤ 2000) → 2000 - v1_ < (n : Int) → okk (f_MarkReader_skipBlanks_5 n S v1_) (fun S1 => CX b S1 ∧ (True)) := by
  intro n
  induction n with
  | zero => intro S v1_ hC hi hm; exfalso; omega
  | succ n ih =>
    intro S v1_ hC hi hm
    have hm : 2000 - v1_ < (n : Int) + 1 := by omega
    show okk (f_MarkReader_skipBlanks_5_b (f_MarkReader_skipBlanks_5 n) S v1_) _
    unfold f_MarkReader_skipBlanks_5_b
    refine ok_chk ((hC).2.2.2.2.2 hb).1.1 ?_
    have b1_y := cx_1_1 hC
    refine ok_if (fun c2_y => ?_) (fun c2_y => ?_)
    · exact ok_some ⟨hC, by trivial⟩
    · refine ok_chk ((hC).2.2.2.2.2 hb).1.1 ?_
      have b4_y := cx_1_1 hC
      refine ok_b1 (ok_Tape_byteAt S v1_ hC) (fun r2_z h3_y => ?_)
      refine ok_if (fun c5_y => ?_) (fun c5_y => ?_)
      · exact ok_some ⟨hC, by trivial⟩
      · refine ok_chk (by omega) ?_
        refine ok_lt (fun S6_z eS6_z => ?_)
        have h6_y : CX b S6_z := by rw [eS6_z]; exact cs_177_4 hC (by omega) (by omega)
        have f7_y : gi S6_z 177 4 = v1_ + 1 := gi_eq eS6_z
        have f8_y : gi S6_z 1 1 = gi S 1 1 := gi_ne eS6_z (by omega)
        refine ok_chk (by omega) ?_
        exact ih S6_z (v1_ + 1) h6_y (by omega) (by omega)
set_option maxHeartbeats 4000000 in
theorem ok_MarkReader_skipBlanks {b : Nat} (S : SS) (hC : CX b S) (hb : 2 ≤ b) : okk (f_MarkReader_skipBlanks S) (fun S1 => CX b S1 ∧ (True)) := by
  unfold f_MarkReader_skipBlanks
  have b2_y := cx_177_4 hC
  exact okl_MarkReader_skipBlanks_5  hb FU S (gi S 177 4) hC (by omega) (by unfold FU; omega)
def DG (S : SS) : Prop := gi S 177 6 = 2 → ∀ k : Nat, gi S 177 5 ≤ (k : Int) → (k : Int) < gi S 177 4 → (k : Int) < gi S 1 1 ∧ 48 ≤ andi (gi S 2 k) 255 ∧ andi (gi S 2 k) 255 ≤ 57
theorem ok_byteAt2 {b : Nat} (S : SS) (v : Int) (hC : CX b S) : okk (f_Tape_byteAt S v) (fun r => -1 ≤ r ∧ r ≤ 255 ∧ (0 ≤ v → v < gi S 1 1 → r = andi (gi S 2 v.toNat) 255)) := by
  have h1 := cx_1_1 hC
  have h2 := andi255 (gi S 2 v.toNat)
  unfold f_Tape_byteAt
  refine ok_if (fun _ => ok_some (by omega)) (fun _ => ok_if (fun _ => ok_some (by omega)) (fun _ => ok_if (fun _ => ok_chk (by omega) (ok_some (by omega))) (fun _ => ok_some (by omega))))
theorem sort2 {S : SS} {v : Int} (h : f_MarkReader_sortOf S v = 2) : 48 ≤ v ∧ v ≤ 57 := by
  unfold f_MarkReader_sortOf f_MP_isSmall f_MP_isDigit at h
  repeat' split at h
  all_goals omega
theorem sort_rng (S : SS) (v : Int) : 0 ≤ f_MarkReader_sortOf S v ∧ f_MarkReader_sortOf S v ≤ 2 := by
  unfold f_MarkReader_sortOf
  repeat' split
  all_goals omega
theorem okl_token {b : Nat} (hb : 2 ≤ b) : ∀ (n : Nat) (S : SS) (v1_ : Int), CX b S → DG S → (0 ≤ v1_ ∧ v1_ ≤ 2000 ∧ v1_ = gi S 177 4) → 2000 - v1_ < (n : Int) → okk (f_MarkReader_readToken_67 n S v1_) (fun S1 => CX b S1 ∧ DG S1) := by
  intro n
  induction n with
  | zero => intro S v1_ hC hD hi hm; exfalso; omega
  | succ n ih =>
    intro S v1_ hC hD hi hm
    have hm : 2000 - v1_ < (n : Int) + 1 := by omega
    show okk (f_MarkReader_readToken_67_b (f_MarkReader_readToken_67 n) S v1_) _
    unfold f_MarkReader_readToken_67_b
    have h1 := cx_1_1 hC
    refine ok_chk (hC.2.2.2.2.2 hb).1.1 (ok_if (fun _ => ok_some ⟨hC, hD⟩) (fun c1 => ok_chk (hC.2.2.2.2.2 hb).1.1 (ok_b1 (ok_byteAt2 S v1_ hC) (fun r2 h2 => ok_if (fun c2 => ?_) (fun _ => ok_some ⟨hC, hD⟩)))))
    refine ok_chk (by omega) (ok_lt (fun S7 e => ok_chk (by omega) ?_))
    have h7 : CX b S7 := by rw [e]; exact cs_177_4 hC (by omega) (by omega)
    have e4 : gi S7 177 4 = v1_ + 1 := gi_eq e
    have e5 : gi S7 177 5 = gi S 177 5 := gi_ne e (by omega)
    have e6 : gi S7 177 6 = gi S 177 6 := gi_ne e (by omega)
    have e1 : gi S7 1 1 = gi S 1 1 := gi_ne e (by omega)
    refine ih S7 (v1_ + 1) h7 (fun h6 k k1 k2 => ?_) (by omega) (by omega)
    have e2 : gi S7 2 k = gi S 2 k := gi_ne e (by omega)
    rw [e1, e2]
    by_cases q : (k : Int) < v1_
    · exact hD (by omega) k (by omega) (by omega)
    · have hk : v1_.toNat = k := by omega
      have h3 := h2.2.2 (by omega) (by omega)
      rw [hk] at h3
      have h4 := sort2 (c2.trans (by omega))
      rw [← h3]
      exact ⟨by omega, h4⟩
theorem ok_token54 {b : Nat} (S : SS) (hC : CX b S) (hb : 2 ≤ b) (hD : DG S) : okk (f_MarkReader_readToken_54 S) (fun S1 => CX b S1 ∧ DG S1) := by
  have h4 := cx_177_4 hC
  unfold f_MarkReader_readToken_54
  exact ok_if (fun _ => ok_some ⟨hC, hD⟩) (fun _ => okl_token hb FU S _ hC hD (by omega) (by unfold FU; omega))
theorem ok_MarkReader_readToken {b : Nat} (S : SS) (hC : CX b S) (hb : 2 ≤ b) : okk (f_MarkReader_readToken S) (fun S1 => CX b S1 ∧ DG S1) := by
  unfold f_MarkReader_readToken
  refine ok_b1 (ok_MarkReader_skipBlanks S hC hb) (fun S1 h1 => ?_)
  have h1 := h1.1
  have b4 := cx_177_4 h1
  refine ok_lt (fun S4 e4 => ?_)
  have h4 : CX b S4 := by rw [e4]; exact cs_177_5 h1 (by omega) (by omega)
  have f5 : gi S4 177 5 = gi S1 177 4 := gi_eq e4
  have f4 : gi S4 177 4 = gi S1 177 4 := gi_ne e4 (by omega)
  refine ok_chk (h4.2.2.2.2.2 hb).1.1 (ok_b1 (ok_byteAt2 S4 _ h4) (fun r6 h6 => ok_lt (fun S9 e9 => ?_)))
  have sr := sort_rng S4 r6
  have h9 : CX b S9 := by rw [e9]; exact cs_177_6 h4 (by omega) (by omega)
  have g6 : gi S9 177 6 = f_MarkReader_sortOf S4 r6 := gi_eq e9
  have g5 : gi S9 177 5 = gi S4 177 5 := gi_ne e9 (by omega)
  have g4 : gi S9 177 4 = gi S4 177 4 := gi_ne e9 (by omega)
  have g1 : gi S9 1 1 = gi S4 1 1 := gi_ne e9 (by omega)
  have bs := cx_1_1 h9
  have b94 := cx_177_4 h9
  refine ok_chk (h9.2.2.2.2.2 hb).1.1 (ok_if (fun c1 => ?_) (fun c1 => ?_))
  · exact ok_token54 S9 h9 hb (fun _ k k1 k2 => by omega)
  · refine ok_chk (by omega) (ok_lt (fun S14 e => ?_))
    have h14 : CX b S14 := by rw [e]; exact cs_177_4 h9 (by omega) (by omega)
    have k4 : gi S14 177 4 = gi S9 177 4 + 1 := gi_eq e
    have k5 : gi S14 177 5 = gi S9 177 5 := gi_ne e (by omega)
    have k6 : gi S14 177 6 = gi S9 177 6 := gi_ne e (by omega)
    have k1' : gi S14 1 1 = gi S9 1 1 := gi_ne e (by omega)
    refine ok_token54 S14 h14 hb (fun q6 k k1 k2 => ?_)
    have e2 : gi S14 2 k = gi S4 2 k := by rw [gi_ne e (by omega), gi_ne e9 (by omega)]
    have hk : (gi S4 177 4).toNat = k := by omega
    have h3 := h6.2.2 (by omega) (by omega)
    rw [hk] at h3
    have hs := sort2 (S := S4) (v := r6) (by omega)
    rw [k1', e2, ← h3]
    exact ⟨by omega, hs⟩
theorem okl_number {b : Nat} (S : SS) (hC : CX b S) (hb : 2 ≤ b) (hD : DG S) (h6 : gi S 177 6 = 2) (hl : gi S 177 4 - gi S 177 5 ≤ 3) : ∀ (n : Nat) (v1_ v2_ : Int), ((v2_ = gi S 177 5 ∧ v1_ = 0) ∨ (v2_ = gi S 177 5 + 1 ∧ 0 ≤ v1_ ∧ v1_ ≤ 9) ∨ (v2_ = gi S 177 5 + 2 ∧ 0 ≤ v1_ ∧ v1_ ≤ 99) ∨ (v2_ = gi S 177 5 + 3 ∧ 0 ≤ v1_ ∧ v1_ ≤ 999)) → gi S 177 5 + 3 - v2_ < (n : Int) → okk (f_MarkReader_numberRead_7 S n v1_ v2_) (fun r => 0 ≤ r ∧ r ≤ 999) := by
  intro n
  induction n with
  | zero => intro v1_ v2_ hi hm; exfalso; omega
  | succ n ih =>
    intro v1_ v2_ hi hm
    have hm : gi S 177 5 + 3 - v2_ < (n : Int) + 1 := by omega
    show okk (f_MarkReader_numberRead_7_b S (f_MarkReader_numberRead_7 S n) v1_ v2_) _
    unfold f_MarkReader_numberRead_7_b
    have b5 := cx_177_5 hC
    have b4 := cx_177_4 hC
    refine ok_if (fun _ => ok_some (by omega)) (fun c1 => ?_)
    have hk := hD h6 v2_.toNat (by omega) (by omega)
    refine ok_chk (by omega) (ok_chk (hC.2.2.2.2.2 hb).1.1 (ok_b1 (ok_byteAt2 S v2_ hC) (fun r3 h3 => ?_)))
    have h4 := h3.2.2 (by omega) (by omega)
    rw [← h4] at hk
    exact ok_chk (by omega) (ok_chk (by omega) (ok_chk (by omega) (ih _ _ (by omega) (by omega))))
theorem ok_MarkReader_numberRead {b : Nat} (S : SS) (hC : CX b S) (hb : 2 ≤ b) (hD : DG S) (hp0 : gi S 177 6 = 2) (hp1 : gi S 177 4 - gi S 177 5 ≤ 3) : okk (f_MarkReader_numberRead S) (fun r => 0 ≤ r ∧ r ≤ 999) := by
  unfold f_MarkReader_numberRead
  exact okl_number S hC hb hD hp0 hp1 FU 0 _ (by omega) (by unfold FU; omega)
theorem markAt_lt {S : SS} {v : Int} {j : Nat} (h : f_Pile_markAt S v = some (some j)) : v < 40 := by
  unfold f_Pile_markAt at h
  by_cases c1 : v < 40
  · exact c1
  · exfalso
    repeat' split at h
    all_goals first | omega | (cases h; done) | skip
    all_goals first | (rw [w_chkN (by omega)] at h; cases h) | skip
theorem pblank_lt {b : Nat} {S S1 : SS} {j : Nat} (hC : CX b S) (h : f_Pile_blank S = some (some j, S1)) : gi S 10 3 + gi S 10 4 < 40 := by
  have b3 := cx_10_3 hC
  have b4 := cx_10_4 hC
  unfold f_Pile_blank at h
  rw [w_chkP (by omega)] at h
  cases q : f_Pile_markAt S (gi S 10 3 + gi S 10 4) with
  | none => rw [q] at h; cases h
  | some o =>
    cases o with
    | none => rw [q] at h; cases h
    | some j2 => exact markAt_lt q
theorem ok_Pile_blank2 {b : Nat} (S : SS) (hC : CX b S) : okk (f_Pile_blank S) (fun u => CX b u.2 ∧ (∀ j, u.1 = some j → j < 40 ∧ gi S 10 3 + gi S 10 4 < 40)) := by
  obtain ⟨⟨o, S1⟩, e, h⟩ := ok_Pile_blank S hC
  refine ⟨(o, S1), e, h.1, fun j hj => ⟨h.2 j hj, pblank_lt (j := j) (S1 := S1) hC ?_⟩⟩
  rw [e, show o = some j from hj]
set_option maxHeartbeats 4000000 in
theorem ok_MarkReader_refuse {b : Nat} (S : SS) (v1 : Int) (hC : CX b S) (hb : 2 ≤ b) (hp0 : i32 v1) : okk (f_MarkReader_refuse S v1) (fun u => CX b u.2 ∧ (u.1 = 0)) := by
  unfold f_MarkReader_refuse
  refine ok_chk ((hC).2.2.2.2.2 hb).1.2.2 ?_
  have b2_y := cx_177_5 hC
  refine ok_b2 (ok_Fault_tellOf S v1 (gi S 177 5) hC (by omega) (by omega)) (fun r3x1_z S2x1_z h3_y => ?_)
  obtain ⟨h4_y, p5_y⟩ := h3_y
  refine ok_chk (by omega) ?_
  exact ok_some ⟨h4_y, by omega⟩
set_option maxHeartbeats 4000000 in
theorem ok_MarkReader_mayBeginMove {b : Nat} (S : SS) (v1 : Int) (v2 : Int) (v3 : Int) (v4 : Int) (hC : CX b S) (hp0 : -1 ≤ v1 ∧ v1 ≤ 999) (hp1 : -1 ≤ v2 ∧ v2 ≤ 999) (hp2 : -1 ≤ v3 ∧ v3 ≤ 999) : okk (f_MarkReader_mayBeginMove S v1 v2 v3 v4) (fun r => r = 0 ∨ r = 1) := by
  unfold f_MarkReader_mayBeginMove
  refine ok_if (fun c2_y => ?_) (fun c2_y => ?_)
  · have b3_y := cx_177_3 hC
    refine ok_if (fun c4_y => ?_) (fun c4_y => ?_)
    · exact ok_some (by omega)
    · refine ok_if (fun c5_y => ?_) (fun c5_y => ?_)
      · exact ok_some (by omega)
      · refine ok_if (fun c6_y => ?_) (fun c6_y => ?_)
        · exact ok_some (by omega)
        · exact ok_some (by omega)
  · refine ok_if (fun c7_y => ?_) (fun c7_y => ?_)
    · refine ok_if (fun c8_y => ?_) (fun c8_y => ?_)
      · exact ok_some (by omega)
      · have b9_y := cx_177_3 hC
        refine ok_if (fun c10_y => ?_) (fun c10_y => ?_)
        · exact ok_some (by omega)
        · refine ok_if (fun c11_y => ?_) (fun c11_y => ?_)
          · exact ok_some (by omega)
          · refine ok_chk (by omega) ?_
            refine ok_if (fun c12_y => ?_) (fun c12_y => ?_)
            · exact ok_some (by omega)
            · exact ok_some (by omega)
    · refine ok_if (fun c13_y => ?_) (fun c13_y => ?_)
      · exact ok_some (by omega)
      · refine ok_chk (by omega) ?_
        refine ok_if (fun c14_y => ?_) (fun c14_y => ?_)
        · exact ok_some (by omega)
        · have b15_y := cx_177_3 hC
          refine ok_if (fun c16_y => ?_) (fun c16_y => ?_)
          · exact ok_some (by omega)
          · exact ok_some (by omega)
