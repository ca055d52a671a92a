def RB (S : SS) (W B : Int) : Prop := ∀ k : Nat, (k : Int) ≤ W → gi S 182 k ≤ B
theorem rb_step {S S1 : SS} {W B v x : Int} (e : S1 = si S 182 x.toNat v) (hx : 0 ≤ x) (hv : v ≤ B + 1) (hR : ∀ k : Nat, (k : Int) ≤ W → gi S 182 k ≤ B + 1 ∧ (x ≤ k → gi S 182 k ≤ B)) : ∀ k : Nat, (k : Int) ≤ W → gi S1 182 k ≤ B + 1 ∧ (x + 1 ≤ k → gi S1 182 k ≤ B) := by
  intro k hk
  have h := hR k hk
  rw [e, gi_si]
  by_cases q : 182 = 182 ∧ k = x.toNat
  · rw [if_pos q]; exact ⟨hv, fun h2 => by omega⟩
  · rw [if_neg q]; exact ⟨h.1, fun h2 => h.2 (by omega)⟩
theorem okl_fill {b : Nat} (v1 : Int) (w2 : Int64) (q3 : Nat) (v4 v5 W B z : Int) (hq3 : shOk q3) (hW : W ≤ 300) (hB : 0 ≤ B ∧ B ≤ 100000) (hv4 : 0 ≤ v4 ∧ v4 ≤ 2000) : ∀ (n : Nat) (S : SS) (v8_ v9_ v10_ v11_ : Int), CX b S → (1 ≤ v11_ ∧ v11_ ≤ 302 ∧ v8_ ≤ W ∧ 0 ≤ v9_ ∧ v9_ ≤ B) → (∀ k : Nat, (k : Int) ≤ W → gi S 182 k ≤ B + 1 ∧ (v11_ ≤ k → gi S 182 k ≤ B)) → gi S q3 1 = z → 302 - v11_ < (n : Int) → okk (f_Ruler_fillRow_101 v1 w2 q3 v4 v5 n S v8_ v9_ v10_ v11_) (fun u => CX b u.2 ∧ RB u.2 W (B + 1) ∧ gi u.2 q3 1 = z) := by
  intro n
  induction n with
  | zero => intro S v8_ v9_ v10_ v11_ hC hi hR hz hm; exfalso; omega
  | succ n ih =>
    intro S v8_ v9_ v10_ v11_ hC hi hR hz hm
    have hm : 302 - v11_ < (n : Int) + 1 := by omega
    show okk (f_Ruler_fillRow_101_b v1 w2 q3 v4 v5 (f_Ruler_fillRow_101 v1 w2 q3 v4 v5 n) S v8_ v9_ v10_ v11_) _
    unfold f_Ruler_fillRow_101_b
    refine ok_if (fun h => ok_some ⟨hC, fun k hk => (hR k hk).1, hz⟩) (fun h => ?_)
    have hup := (hR v11_.toNat (by omega)).2 (by omega)
    have lup := cx_182 hC v11_.toNat
    refine ok_chk (by omega) (ok_chk (by omega) (ok_chk (by omega) (ok_b1 (ok_Sheet_wordAt S q3 _ hC hq3) (fun w4 _ => ?_))))
    refine ok_if (fun _ => ?_) (fun _ => ?_)
    · refine ok_chk (by omega) (ok_lt (fun S1 e => ?_))
      have h1 : CX b S1 := by rw [e]; exact cs_182 hC (by omega) (by omega)
      have hR1 := rb_step e (by omega) (by omega) hR
      have hz1 : gi S1 q3 1 = z := by rw [gi_ne e (by omega)]; exact hz
      unfold f_Ruler_fillRow_174
      refine ok_chk (by omega) (ok_chk (by omega) ?_)
      exact ih S1 v8_ _ _ (v11_ + 1) h1 (by omega) hR1 hz1 (by omega)
    · have ll := cx_182 hC (v11_ - 1).toNat
      refine ok_chk (by omega) (ok_chk (by omega) (ok_chk (by omega) (ok_chk (by omega) (ok_lt (fun S1 e => ?_)))))
      have h1 : CX b S1 := by rw [e]; exact cs_182 hC (by omega) (by omega)
      have hR1 := rb_step e (by omega) (by omega) hR
      have hz1 : gi S1 q3 1 = z := by rw [gi_ne e (by omega)]; exact hz
      unfold f_Ruler_fillRow_174
      refine ok_chk (by omega) (ok_chk (by omega) ?_)
      exact ih S1 v8_ _ _ (v11_ + 1) h1 (by omega) hR1 hz1 (by omega)
theorem ok_fill85 {b : Nat} (v1 : Int) (w2 : Int64) (q3 : Nat) (v4 v5 W B z : Int) (hq3 : shOk q3) (hW : W ≤ 300) (hB : 0 ≤ B ∧ B ≤ 100000) (hv4 : 0 ≤ v4 ∧ v4 ≤ 2000) (S : SS) (v7_ v8_ v9_ vt0_ vt1_ : Int) (hC : CX b S) (hR : RB S W B) (hz : gi S q3 1 = z) (h : 1 ≤ v7_ ∧ v7_ ≤ 300 ∧ vt1_ = v7_ - 1 ∧ v8_ ≤ W ∧ 0 ≤ v9_ ∧ v9_ ≤ B ∧ 0 ≤ vt0_ ∧ vt0_ ≤ B + 1) : okk (f_Ruler_fillRow_85 v1 w2 q3 v4 v5 S v7_ v8_ v9_ vt0_ vt1_) (fun u => CX b u.2 ∧ RB u.2 W (B + 1) ∧ gi u.2 q3 1 = z) := by
  unfold f_Ruler_fillRow_85
  refine ok_chk (by omega) (ok_lt (fun S1 e => ?_))
  have h1 : CX b S1 := by rw [e]; exact cs_182 hC (by omega) (by omega)
  have hR1 := rb_step (W := W) (B := B) e (by omega) (by omega) (fun k hk => ⟨by have := hR k hk; omega, fun _ => hR k hk⟩)
  have hz1 : gi S1 q3 1 = z := by rw [gi_ne e (by omega)]; exact hz
  refine ok_chk (by omega) (ok_chk (by omega) ?_)
  exact okl_fill v1 w2 q3 v4 v5 W B z hq3 hW hB hv4 FU S1 v8_ v9_ _ v7_ h1 (by omega) (fun k hk => ⟨(hR1 k hk).1, fun h2 => (hR1 k hk).2 (by omega)⟩) hz1 (by unfold FU; omega)
theorem ok_Ruler_fillRow {b : Nat} (S : SS) (v1 : Int) (w2 : Int64) (q3 : Nat) (v4 v5 W B z : Int) (hC : CX b S) (hq3 : shOk q3) (h1 : 1 ≤ v1 ∧ v1 ≤ 300) (hB : 1001 ≤ B ∧ B ≤ 90000) (hv4 : 0 ≤ v4 ∧ v4 ≤ 2000) (hv5 : 0 ≤ v5 ∧ v5 ≤ 1000) (hz : gi S q3 1 = z) (hW : W = max 0 (z - v4)) (hd : v1 - v5 ≤ W) (hR : RB S W B) : okk (f_Ruler_fillRow S v1 w2 q3 v4 v5) (fun u => CX b u.2 ∧ RB u.2 W (B + 1) ∧ gi u.2 q3 1 = z) := by
  have bq := cx_sh hC hq3
  have hR' : RB S W (B + 1) := fun k hk => by have := hR k hk; omega
  unfold f_Ruler_fillRow
  refine ok_chk (by omega) (ok_chk (by omega) (ok_chk (by omega) ?_))
  refine ok_if (fun _ => ok_chk (by omega) (ok_some ⟨hC, hR', hz⟩)) (fun c1 => ?_)
  refine ok_if (fun c2 => ?_) (fun _ => ok_chk (by omega) (ok_some ⟨hC, hR', hz⟩))
  have lo := cx_182 hC (max 1 (v1 - v5) - 1).toNat
  have hi := hR (max 1 (v1 - v5) - 1).toNat (by omega)
  refine ok_chk (by omega) (ok_chk (by omega) (ok_chk (by omega) ?_))
  refine ok_if (fun c3 => ?_) (fun c3 => ok_chk (by omega) ?_)
  · exact ok_fill85 v1 w2 q3 v4 v5 W B z hq3 (by omega) (by omega) hv4 S _ _ _ _ _ hC hR hz (by omega)
  · exact ok_fill85 v1 w2 q3 v4 v5 W B z hq3 (by omega) (by omega) hv4 S _ _ _ _ _ hC hR hz (by omega)
theorem okl_meas85 {b : Nat} (q1 : Nat) (v2 : Int) (q3 : Nat) (v4 v5 W z : Int) (hq1 : shOk q1) (hq3 : shOk q3) (hv2 : 0 ≤ v2 ∧ v2 ≤ 2000) (hv4 : 0 ≤ v4 ∧ v4 ≤ 2000) (hv5 : 0 ≤ v5 ∧ v5 ≤ 1000) (hW : W = max 0 (z - v4)) (hW2 : W ≤ 300) : ∀ (n : Nat) (S : SS) (v6_ v7_ v8_ v9_ : Int), CX b S → (v7_ = W ∧ v6_ ≤ W + v5 ∧ v6_ ≤ 300 ∧ 1 ≤ v9_ ∧ v9_ ≤ 301 ∧ v8_ = v5 + 1) → RB S W (1000 + v9_) → gi S q3 1 = z → 302 - v9_ < (n : Int) → okk (f_Ruler_measure_85 q1 v2 q3 v4 v5 n S v6_ v7_ v8_ v9_) (fun u => CX b u.2 ∧ (0 ≤ u.1 ∧ u.1 ≤ v5 + 1)) := by
  intro n
  induction n with
  | zero => intro S v6_ v7_ v8_ v9_ hC hi hR hz hm; exfalso; omega
  | succ n ih =>
    intro S v6_ v7_ v8_ v9_ hC hi hR hz hm
    have hm : 302 - v9_ < (n : Int) + 1 := by omega
    show okk (f_Ruler_measure_85_b q1 v2 q3 v4 v5 (f_Ruler_measure_85 q1 v2 q3 v4 v5 n) S v6_ v7_ v8_ v9_) _
    unfold f_Ruler_measure_85_b
    have l7 := cx_182 hC v7_.toNat
    refine ok_if (fun _ => ok_chk (by omega) (ok_some ⟨hC, by dsimp only; omega⟩)) (fun c1 => ?_)
    refine ok_chk (by omega) (ok_chk (by omega) (ok_b1 (ok_Sheet_wordAt S q1 _ hC hq1) (fun w5 _ => ?_)))
    refine ok_b2 (ok_Ruler_fillRow S v9_ w5 q3 v4 v5 W (1000 + v9_) z hC hq3 (by omega) (by omega) hv4 hv5 hz hW (by omega) hR) (fun r8 S7 h => ?_)
    refine ok_if (fun _ => ok_chk (by omega) ?_) (fun _ => ok_some ⟨h.1, by dsimp only; omega⟩)
    exact ih S7 v6_ v7_ v8_ (v9_ + 1) h.1 (by omega) (fun k hk => by have := h.2.1 k hk; dsimp only at this; omega) h.2.2 (by omega)
theorem okl_meas60 {b : Nat} (q1 : Nat) (v2 : Int) (q3 : Nat) (v4 v5 W z : Int) (hq1 : shOk q1) (hq3 : shOk q3) (hv2 : 0 ≤ v2 ∧ v2 ≤ 2000) (hv4 : 0 ≤ v4 ∧ v4 ≤ 2000) (hv5 : 0 ≤ v5 ∧ v5 ≤ 1000) (hW : W = max 0 (z - v4)) (hW2 : W ≤ 300) : ∀ (n : Nat) (S : SS) (v6_ v7_ v8_ v9_ : Int), CX b S → (v7_ = W ∧ v6_ ≤ W + v5 ∧ v6_ ≤ 300 ∧ 0 ≤ v9_ ∧ v9_ ≤ 301 ∧ v8_ = v5 + 1) → (∀ k : Nat, (k : Int) < v9_ → gi S 182 k ≤ 1001) → gi S q3 1 = z → 302 - v9_ < (n : Int) → okk (f_Ruler_measure_60 q1 v2 q3 v4 v5 n S v6_ v7_ v8_ v9_) (fun u => CX b u.2 ∧ (0 ≤ u.1 ∧ u.1 ≤ v5 + 1)) := by
  intro n
  induction n with
  | zero => intro S v6_ v7_ v8_ v9_ hC hi hR hz hm; exfalso; omega
  | succ n ih =>
    intro S v6_ v7_ v8_ v9_ hC hi hR hz hm
    have hm : 302 - v9_ < (n : Int) + 1 := by omega
    show okk (f_Ruler_measure_60_b q1 v2 q3 v4 v5 (f_Ruler_measure_60 q1 v2 q3 v4 v5 n) S v6_ v7_ v8_ v9_) _
    unfold f_Ruler_measure_60_b
    refine ok_if (fun c1 => ?_) (fun c1 => ?_)
    · exact okl_meas85 q1 v2 q3 v4 v5 W z hq1 hq3 hv2 hv4 hv5 hW hW2 FU S v6_ v7_ v8_ 1 hC (by omega) (fun k hk => hR k (by omega)) hz (by unfold FU; omega)
    · refine ok_chk (by omega) (ok_lt (fun S1 e => ?_))
      have h1 : CX b S1 := by rw [e]; exact cs_182 hC (by omega) (by omega)
      have hz1 : gi S1 q3 1 = z := by rw [gi_ne e (by omega)]; exact hz
      refine ok_chk (by omega) ?_
      refine ih S1 v6_ v7_ v8_ (v9_ + 1) h1 (by omega) (fun k hk => ?_) hz1 (by omega)
      rw [e, gi_si]
      by_cases q : 182 = 182 ∧ k = v9_.toNat
      · rw [if_pos q]; omega
      · rw [if_neg q]; exact hR k (by omega)
theorem absi_rng (x : Int) : 0 ≤ absi x ∧ x ≤ absi x ∧ 0 - x ≤ absi x := by
  unfold absi
  split
  all_goals omega
theorem ok_Ruler_measure {b : Nat} (S : SS) (q1 : Nat) (v2 : Int) (q3 : Nat) (v4 v5 : Int) (hC : CX b S) (hq1 : shOk q1) (hq3 : shOk q3) (hp0 : 0 ≤ v2 ∧ v2 ≤ 2000) (hp1 : 0 ≤ v4 ∧ v4 ≤ 2000) (hp2 : -1000 ≤ v5 ∧ v5 ≤ 1000) : okk (f_Ruler_measure S q1 v2 q3 v4 v5) (fun u => CX b u.2 ∧ (u.1 ≤ v5 + 1 ∧ (0 ≤ v5 → 0 ≤ u.1))) := by
  have b1 := cx_sh hC hq1
  have b3 := cx_sh hC hq3
  unfold f_Ruler_measure
  refine ok_chk (by omega) (ok_chk (by omega) (ok_chk (by omega) (ok_chk (by omega) (ok_chk (by omega) ?_))))
  have ha := absi_rng (max 0 (gi S q1 1 - v2) - max 0 (gi S q3 1 - v4))
  refine ok_if (fun _ => ok_some ⟨hC, by dsimp only; omega⟩) (fun c1 => ?_)
  refine ok_if (fun c2 => ?_) (fun _ => ok_some ⟨hC, by dsimp only; omega⟩)
  refine ok_mono (okl_meas60 q1 v2 q3 v4 v5 _ _ hq1 hq3 hp0 hp1 (by omega) rfl (by omega) FU S _ _ _ 0 hC (by omega) (fun k hk => by omega) rfl (by unfold FU; omega)) (fun r h => ⟨h.1, h.2.2, fun _ => h.2.1⟩)
theorem ok_Holding_distanceFor {b : Nat} (S : SS) (v1 : Int) (hC : CX b S) : okk (f_Holding_distanceFor S v1) (fun r => -1 ≤ r ∧ r ≤ 300) := by
  unfold f_Holding_distanceFor
  refine ok_if (fun _ => ok_some (by omega)) (fun c1 => ok_if (fun c2 => ok_chk (by omega) (ok_some ?_)) (fun _ => ok_some (by omega)))
  have h : 0 ≤ v1 / gi S 183 5 := Int.ediv_nonneg (by omega) (by omega)
  omega
set_option maxHeartbeats 4000000 in
theorem okl_Holding_listChanges_33 {b : Nat} (q1 : Nat) (hq1 : shOk q1) : ∀ (n : Nat) (S : SS) (v3_ : Int) (v4_ : Int) (v5_ : Int) (v6_ : Int) (v7_ : Int), CX b S → (0 ≤ v3_ ∧ v3_ ≤ v7_ ∧ 0 ≤ v4_ ∧ v4_ ≤ v7_ ∧ -v7_ ≤ v5_ ∧ v5_ ≤ 400 ∧ v6_ ≤ 600 ∧ 0 ≤ v7_ ∧ v7_ ≤ 600) → 601 - v7_ < (n : Int) → okk (f_Holding_listChanges_33 q1 n S v3_ v4_ v5_ v6_ v7_) (fun S1 => CX b S1 ∧ (True)) := by
  intro n
  induction n with
  | zero => intro S v3_ v4_ v5_ v6_ v7_ hC hi hm; exfalso; omega
  | succ n ih =>
    intro S v3_ v4_ v5_ v6_ v7_ hC hi hm
    have hm : 601 - v7_ < (n : Int) + 1 := by omega
    show okk (f_Holding_listChanges_33_b q1 (f_Holding_listChanges_33 q1 n) S v3_ v4_ v5_ v6_ v7_) _
    unfold f_Holding_listChanges_33_b
    refine ok_if (fun c1_y => ?_) (fun c1_y => ?_)
    · exact ok_some ⟨hC, by trivial⟩
    · have b2_y := cx_sh hC (show shOk 184 by decide)
      refine ok_if (fun c3_y => ?_) (fun c3_y => ?_)
      · unfold f_Holding_listChanges_60
        refine ok_if (fun c5_y => ?_) (fun c5_y => ?_)
        · unfold f_Holding_listChanges_84
          unfold f_Holding_listChanges_85
          refine ok_if (fun c8_y => ?_) (fun c8_y => ?_)
          · unfold f_Holding_listChanges_119
            refine ok_chk (by omega) ?_
            refine ok_if (fun c10_y => ?_) (fun c10_y => ?_)
            · unfold f_Holding_listChanges_167
              refine ok_if (fun c12_y => ?_) (fun c12_y => ?_)
              · unfold f_Holding_listChanges_213
                refine ok_b1 (ok_Holding_note S 2 v3_ v4_ hC (by omega) (by omega) (by omega)) (fun S1x13_z h14_y => ?_)
                obtain ⟨h15_y, p16_y⟩ := h14_y
                refine ok_chk (by omega) ?_
                unfold f_Holding_listChanges_224
                refine ok_chk (by omega) ?_
                exact ih S1x13_z v3_ (v4_ + 1) (v5_ + (-1)) v6_ (v7_ + 1) h15_y (by omega) (by omega)
              · refine ok_chk (by omega) ?_
                refine ok_b2 (ok_Ruler_measure S 184 (v3_ + 1) q1 v4_ (v5_ + (-1)) hC (show shOk 184 by decide) hq1 (by omega) (by omega) (by omega)) (fun r4x11_z S3x11_z h18_y => ?_)
                obtain ⟨h19_y, p20_y⟩ := h18_y
                refine ok_if (fun c21_y => ?_) (fun c21_y => ?_)
                · unfold f_Holding_listChanges_213
                  refine ok_b1 (ok_Holding_note S3x11_z 2 v3_ v4_ h19_y (by omega) (by omega) (by omega)) (fun S1x22_z h23_y => ?_)
                  obtain ⟨h24_y, p25_y⟩ := h23_y
                  refine ok_chk (by omega) ?_
                  unfold f_Holding_listChanges_224
                  refine ok_chk (by omega) ?_
                  exact ih S1x22_z v3_ (v4_ + 1) (v5_ + (-1)) v6_ (v7_ + 1) h24_y (by omega) (by omega)
                · refine ok_b1 (ok_Holding_note S3x11_z 1 v3_ v4_ h19_y (by omega) (by omega) (by omega)) (fun S6x11_z h27_y => ?_)
                  obtain ⟨h28_y, p29_y⟩ := h27_y
                  refine ok_chk (by omega) ?_
                  unfold f_Holding_listChanges_224
                  refine ok_chk (by omega) ?_
                  exact ih S6x11_z (v3_ + 1) v4_ (v5_ + (-1)) v6_ (v7_ + 1) h28_y (by omega) (by omega)
            · refine ok_chk (by omega) ?_
              refine ok_chk (by omega) ?_
              refine ok_b2 (ok_Ruler_measure S 184 (v3_ + 1) q1 (v4_ + 1) (v5_ + (-1)) hC (show shOk 184 by decide) hq1 (by omega) (by omega) (by omega)) (fun r5x9_z S4x9_z h31_y => ?_)
              obtain ⟨h32_y, p33_y⟩ := h31_y
              refine ok_if (fun c34_y => ?_) (fun c34_y => ?_)
              · unfold f_Holding_listChanges_167
                have b36_y := cx_sh h32_y (show shOk 184 by decide)
                refine ok_if (fun c37_y => ?_) (fun c37_y => ?_)
                · unfold f_Holding_listChanges_213
                  refine ok_b1 (ok_Holding_note S4x9_z 2 v3_ v4_ h32_y (by omega) (by omega) (by omega)) (fun S1x38_z h39_y => ?_)
                  obtain ⟨h40_y, p41_y⟩ := h39_y
                  refine ok_chk (by omega) ?_
                  unfold f_Holding_listChanges_224
                  refine ok_chk (by omega) ?_
                  exact ih S1x38_z v3_ (v4_ + 1) (v5_ + (-1)) v6_ (v7_ + 1) h40_y (by omega) (by omega)
                · refine ok_chk (by omega) ?_
                  refine ok_b2 (ok_Ruler_measure S4x9_z 184 (v3_ + 1) q1 v4_ (v5_ + (-1)) h32_y (show shOk 184 by decide) hq1 (by omega) (by omega) (by omega)) (fun r4x35_z S3x35_z h43_y => ?_)
                  obtain ⟨h44_y, p45_y⟩ := h43_y
                  refine ok_if (fun c46_y => ?_) (fun c46_y => ?_)
                  · unfold f_Holding_listChanges_213
                    refine ok_b1 (ok_Holding_note S3x35_z 2 v3_ v4_ h44_y (by omega) (by omega) (by omega)) (fun S1x47_z h48_y => ?_)
                    obtain ⟨h49_y, p50_y⟩ := h48_y
                    refine ok_chk (by omega) ?_
                    unfold f_Holding_listChanges_224
                    refine ok_chk (by omega) ?_
                    exact ih S1x47_z v3_ (v4_ + 1) (v5_ + (-1)) v6_ (v7_ + 1) h49_y (by omega) (by omega)
                  · refine ok_b1 (ok_Holding_note S3x35_z 1 v3_ v4_ h44_y (by omega) (by omega) (by omega)) (fun S6x35_z h52_y => ?_)
                    obtain ⟨h53_y, p54_y⟩ := h52_y
                    refine ok_chk (by omega) ?_
                    unfold f_Holding_listChanges_224
                    refine ok_chk (by omega) ?_
                    exact ih S6x35_z (v3_ + 1) v4_ (v5_ + (-1)) v6_ (v7_ + 1) h53_y (by omega) (by omega)
              · refine ok_b1 (ok_Holding_note S4x9_z 0 v3_ v4_ h32_y (by omega) (by omega) (by omega)) (fun S7x9_z h56_y => ?_)
                obtain ⟨h57_y, p58_y⟩ := h56_y
                refine ok_chk (by omega) ?_
                refine ok_chk (by omega) ?_
                unfold f_Holding_listChanges_224
                refine ok_chk (by omega) ?_
                exact ih S7x9_z (v3_ + 1) (v4_ + 1) (v5_ + (-1)) v6_ (v7_ + 1) h57_y (by omega) (by omega)
          · refine ok_b1 (ok_Sheet_wordAt S 184 v3_ hC (show shOk 184 by decide)) (fun w1x7_z h60_y => ?_)
            refine ok_b1 (ok_Sheet_wordAt S q1 v4_ hC hq1) (fun w3x7_z h61_y => ?_)
            refine ok_if (fun c62_y => ?_) (fun c62_y => ?_)
            · refine ok_chk (by omega) ?_
              refine ok_chk (by omega) ?_
              unfold f_Holding_listChanges_224
              refine ok_chk (by omega) ?_
              exact ih S (v3_ + 1) (v4_ + 1) v5_ v6_ (v7_ + 1) hC (by omega) (by omega)
            · unfold f_Holding_listChanges_119
              refine ok_chk (by omega) ?_
              refine ok_if (fun c65_y => ?_) (fun c65_y => ?_)
              · unfold f_Holding_listChanges_167
                refine ok_if (fun c67_y => ?_) (fun c67_y => ?_)
                · unfold f_Holding_listChanges_213
                  refine ok_b1 (ok_Holding_note S 2 v3_ v4_ hC (by omega) (by omega) (by omega)) (fun S1x68_z h69_y => ?_)
                  obtain ⟨h70_y, p71_y⟩ := h69_y
                  refine ok_chk (by omega) ?_
                  unfold f_Holding_listChanges_224
                  refine ok_chk (by omega) ?_
                  exact ih S1x68_z v3_ (v4_ + 1) (v5_ + (-1)) v6_ (v7_ + 1) h70_y (by omega) (by omega)
                · refine ok_chk (by omega) ?_
                  refine ok_b2 (ok_Ruler_measure S 184 (v3_ + 1) q1 v4_ (v5_ + (-1)) hC (show shOk 184 by decide) hq1 (by omega) (by omega) (by omega)) (fun r4x66_z S3x66_z h73_y => ?_)
                  obtain ⟨h74_y, p75_y⟩ := h73_y
                  refine ok_if (fun c76_y => ?_) (fun c76_y => ?_)
                  · unfold f_Holding_listChanges_213
                    refine ok_b1 (ok_Holding_note S3x66_z 2 v3_ v4_ h74_y (by omega) (by omega) (by omega)) (fun S1x77_z h78_y => ?_)
                    obtain ⟨h79_y, p80_y⟩ := h78_y
                    refine ok_chk (by omega) ?_
                    unfold f_Holding_listChanges_224
                    refine ok_chk (by omega) ?_
                    exact ih S1x77_z v3_ (v4_ + 1) (v5_ + (-1)) v6_ (v7_ + 1) h79_y (by omega) (by omega)
                  · refine ok_b1 (ok_Holding_note S3x66_z 1 v3_ v4_ h74_y (by omega) (by omega) (by omega)) (fun S6x66_z h82_y => ?_)
                    obtain ⟨h83_y, p84_y⟩ := h82_y
                    refine ok_chk (by omega) ?_
                    unfold f_Holding_listChanges_224
                    refine ok_chk (by omega) ?_
                    exact ih S6x66_z (v3_ + 1) v4_ (v5_ + (-1)) v6_ (v7_ + 1) h83_y (by omega) (by omega)
              · refine ok_chk (by omega) ?_
                refine ok_chk (by omega) ?_
                refine ok_b2 (ok_Ruler_measure S 184 (v3_ + 1) q1 (v4_ + 1) (v5_ + (-1)) hC (show shOk 184 by decide) hq1 (by omega) (by omega) (by omega)) (fun r5x64_z S4x64_z h86_y => ?_)
                obtain ⟨h87_y, p88_y⟩ := h86_y
                refine ok_if (fun c89_y => ?_) (fun c89_y => ?_)
                · unfold f_Holding_listChanges_167
                  have b91_y := cx_sh h87_y (show shOk 184 by decide)
                  refine ok_if (fun c92_y => ?_) (fun c92_y => ?_)
                  · unfold f_Holding_listChanges_213
                    refine ok_b1 (ok_Holding_note S4x64_z 2 v3_ v4_ h87_y (by omega) (by omega) (by omega)) (fun S1x93_z h94_y => ?_)
                    obtain ⟨h95_y, p96_y⟩ := h94_y
                    refine ok_chk (by omega) ?_
                    unfold f_Holding_listChanges_224
                    refine ok_chk (by omega) ?_
                    exact ih S1x93_z v3_ (v4_ + 1) (v5_ + (-1)) v6_ (v7_ + 1) h95_y (by omega) (by omega)
                  · refine ok_chk (by omega) ?_
                    refine ok_b2 (ok_Ruler_measure S4x64_z 184 (v3_ + 1) q1 v4_ (v5_ + (-1)) h87_y (show shOk 184 by decide) hq1 (by omega) (by omega) (by omega)) (fun r4x90_z S3x90_z h98_y => ?_)
                    obtain ⟨h99_y, p100_y⟩ := h98_y
                    refine ok_if (fun c101_y => ?_) (fun c101_y => ?_)
                    · unfold f_Holding_listChanges_213
                      refine ok_b1 (ok_Holding_note S3x90_z 2 v3_ v4_ h99_y (by omega) (by omega) (by omega)) (fun S1x102_z h103_y => ?_)
                      obtain ⟨h104_y, p105_y⟩ := h103_y
                      refine ok_chk (by omega) ?_
                      unfold f_Holding_listChanges_224
                      refine ok_chk (by omega) ?_
                      exact ih S1x102_z v3_ (v4_ + 1) (v5_ + (-1)) v6_ (v7_ + 1) h104_y (by omega) (by omega)
                    · refine ok_b1 (ok_Holding_note S3x90_z 1 v3_ v4_ h99_y (by omega) (by omega) (by omega)) (fun S6x90_z h107_y => ?_)
                      obtain ⟨h108_y, p109_y⟩ := h107_y
                      refine ok_chk (by omega) ?_
                      unfold f_Holding_listChanges_224
                      refine ok_chk (by omega) ?_
                      exact ih S6x90_z (v3_ + 1) v4_ (v5_ + (-1)) v6_ (v7_ + 1) h108_y (by omega) (by omega)
                · refine ok_b1 (ok_Holding_note S4x64_z 0 v3_ v4_ h87_y (by omega) (by omega) (by omega)) (fun S7x64_z h111_y => ?_)
                  obtain ⟨h112_y, p113_y⟩ := h111_y
                  refine ok_chk (by omega) ?_
                  refine ok_chk (by omega) ?_
                  unfold f_Holding_listChanges_224
                  refine ok_chk (by omega) ?_
                  exact ih S7x64_z (v3_ + 1) (v4_ + 1) (v5_ + (-1)) v6_ (v7_ + 1) h112_y (by omega) (by omega)
        · have b115_y := cx_sh hC hq1
          refine ok_if (fun c116_y => ?_) (fun c116_y => ?_)
          · unfold f_Holding_listChanges_84
            unfold f_Holding_listChanges_85
            refine ok_if (fun c119_y => ?_) (fun c119_y => ?_)
            · unfold f_Holding_listChanges_119
              refine ok_chk (by omega) ?_
              refine ok_if (fun c121_y => ?_) (fun c121_y => ?_)
              · unfold f_Holding_listChanges_167
                refine ok_if (fun c123_y => ?_) (fun c123_y => ?_)
                · unfold f_Holding_listChanges_213
                  refine ok_b1 (ok_Holding_note S 2 v3_ v4_ hC (by omega) (by omega) (by omega)) (fun S1x124_z h125_y => ?_)
                  obtain ⟨h126_y, p127_y⟩ := h125_y
                  refine ok_chk (by omega) ?_
                  unfold f_Holding_listChanges_224
                  refine ok_chk (by omega) ?_
                  exact ih S1x124_z v3_ (v4_ + 1) (v5_ + (-1)) v6_ (v7_ + 1) h126_y (by omega) (by omega)
                · refine ok_chk (by omega) ?_
                  refine ok_b2 (ok_Ruler_measure S 184 (v3_ + 1) q1 v4_ (v5_ + (-1)) hC (show shOk 184 by decide) hq1 (by omega) (by omega) (by omega)) (fun r4x122_z S3x122_z h129_y => ?_)
                  obtain ⟨h130_y, p131_y⟩ := h129_y
                  refine ok_if (fun c132_y => ?_) (fun c132_y => ?_)
                  · unfold f_Holding_listChanges_213
                    refine ok_b1 (ok_Holding_note S3x122_z 2 v3_ v4_ h130_y (by omega) (by omega) (by omega)) (fun S1x133_z h134_y => ?_)
                    obtain ⟨h135_y, p136_y⟩ := h134_y
                    refine ok_chk (by omega) ?_
                    unfold f_Holding_listChanges_224
                    refine ok_chk (by omega) ?_
                    exact ih S1x133_z v3_ (v4_ + 1) (v5_ + (-1)) v6_ (v7_ + 1) h135_y (by omega) (by omega)
                  · refine ok_b1 (ok_Holding_note S3x122_z 1 v3_ v4_ h130_y (by omega) (by omega) (by omega)) (fun S6x122_z h138_y => ?_)
                    obtain ⟨h139_y, p140_y⟩ := h138_y
                    refine ok_chk (by omega) ?_
                    unfold f_Holding_listChanges_224
                    refine ok_chk (by omega) ?_
                    exact ih S6x122_z (v3_ + 1) v4_ (v5_ + (-1)) v6_ (v7_ + 1) h139_y (by omega) (by omega)
              · refine ok_chk (by omega) ?_
                refine ok_chk (by omega) ?_
                refine ok_b2 (ok_Ruler_measure S 184 (v3_ + 1) q1 (v4_ + 1) (v5_ + (-1)) hC (show shOk 184 by decide) hq1 (by omega) (by omega) (by omega)) (fun r5x120_z S4x120_z h142_y => ?_)
                obtain ⟨h143_y, p144_y⟩ := h142_y
                refine ok_if (fun c145_y => ?_) (fun c145_y => ?_)
                · unfold f_Holding_listChanges_167
                  have b147_y := cx_sh h143_y (show shOk 184 by decide)
                  refine ok_if (fun c148_y => ?_) (fun c148_y => ?_)
                  · unfold f_Holding_listChanges_213
                    refine ok_b1 (ok_Holding_note S4x120_z 2 v3_ v4_ h143_y (by omega) (by omega) (by omega)) (fun S1x149_z h150_y => ?_)
                    obtain ⟨h151_y, p152_y⟩ := h150_y
                    refine ok_chk (by omega) ?_
                    unfold f_Holding_listChanges_224
                    refine ok_chk (by omega) ?_
                    exact ih S1x149_z v3_ (v4_ + 1) (v5_ + (-1)) v6_ (v7_ + 1) h151_y (by omega) (by omega)
                  · refine ok_chk (by omega) ?_
                    refine ok_b2 (ok_Ruler_measure S4x120_z 184 (v3_ + 1) q1 v4_ (v5_ + (-1)) h143_y (show shOk 184 by decide) hq1 (by omega) (by omega) (by omega)) (fun r4x146_z S3x146_z h154_y => ?_)
                    obtain ⟨h155_y, p156_y⟩ := h154_y
                    refine ok_if (fun c157_y => ?_) (fun c157_y => ?_)
                    · unfold f_Holding_listChanges_213
                      refine ok_b1 (ok_Holding_note S3x146_z 2 v3_ v4_ h155_y (by omega) (by omega) (by omega)) (fun S1x158_z h159_y => ?_)
                      obtain ⟨h160_y, p161_y⟩ := h159_y
                      refine ok_chk (by omega) ?_
                      unfold f_Holding_listChanges_224
                      refine ok_chk (by omega) ?_
                      exact ih S1x158_z v3_ (v4_ + 1) (v5_ + (-1)) v6_ (v7_ + 1) h160_y (by omega) (by omega)
                    · refine ok_b1 (ok_Holding_note S3x146_z 1 v3_ v4_ h155_y (by omega) (by omega) (by omega)) (fun S6x146_z h163_y => ?_)
                      obtain ⟨h164_y, p165_y⟩ := h163_y
                      refine ok_chk (by omega) ?_
                      unfold f_Holding_listChanges_224
                      refine ok_chk (by omega) ?_
                      exact ih S6x146_z (v3_ + 1) v4_ (v5_ + (-1)) v6_ (v7_ + 1) h164_y (by omega) (by omega)
                · refine ok_b1 (ok_Holding_note S4x120_z 0 v3_ v4_ h143_y (by omega) (by omega) (by omega)) (fun S7x120_z h167_y => ?_)
                  obtain ⟨h168_y, p169_y⟩ := h167_y
                  refine ok_chk (by omega) ?_
                  refine ok_chk (by omega) ?_
                  unfold f_Holding_listChanges_224
                  refine ok_chk (by omega) ?_
                  exact ih S7x120_z (v3_ + 1) (v4_ + 1) (v5_ + (-1)) v6_ (v7_ + 1) h168_y (by omega) (by omega)
            · refine ok_b1 (ok_Sheet_wordAt S 184 v3_ hC (show shOk 184 by decide)) (fun w1x118_z h171_y => ?_)
              refine ok_b1 (ok_Sheet_wordAt S q1 v4_ hC hq1) (fun w3x118_z h172_y => ?_)
              refine ok_if (fun c173_y => ?_) (fun c173_y => ?_)
              · refine ok_chk (by omega) ?_
                refine ok_chk (by omega) ?_
                unfold f_Holding_listChanges_224
                refine ok_chk (by omega) ?_
                exact ih S (v3_ + 1) (v4_ + 1) v5_ v6_ (v7_ + 1) hC (by omega) (by omega)
              · unfold f_Holding_listChanges_119
                refine ok_chk (by omega) ?_
                refine ok_if (fun c176_y => ?_) (fun c176_y => ?_)
                · unfold f_Holding_listChanges_167
                  refine ok_if (fun c178_y => ?_) (fun c178_y => ?_)
                  · unfold f_Holding_listChanges_213
                    refine ok_b1 (ok_Holding_note S 2 v3_ v4_ hC (by omega) (by omega) (by omega)) (fun S1x179_z h180_y => ?_)
                    obtain ⟨h181_y, p182_y⟩ := h180_y
                    refine ok_chk (by omega) ?_
                    unfold f_Holding_listChanges_224
                    refine ok_chk (by omega) ?_
                    exact ih S1x179_z v3_ (v4_ + 1) (v5_ + (-1)) v6_ (v7_ + 1) h181_y (by omega) (by omega)
                  · refine ok_chk (by omega) ?_
                    refine ok_b2 (ok_Ruler_measure S 184 (v3_ + 1) q1 v4_ (v5_ + (-1)) hC (show shOk 184 by decide) hq1 (by omega) (by omega) (by omega)) (fun r4x177_z S3x177_z h184_y => ?_)
                    obtain ⟨h185_y, p186_y⟩ := h184_y
                    refine ok_if (fun c187_y => ?_) (fun c187_y => ?_)
                    · unfold f_Holding_listChanges_213
                      refine ok_b1 (ok_Holding_note S3x177_z 2 v3_ v4_ h185_y (by omega) (by omega) (by omega)) (fun S1x188_z h189_y => ?_)
                      obtain ⟨h190_y, p191_y⟩ := h189_y
                      refine ok_chk (by omega) ?_
                      unfold f_Holding_listChanges_224
                      refine ok_chk (by omega) ?_
                      exact ih S1x188_z v3_ (v4_ + 1) (v5_ + (-1)) v6_ (v7_ + 1) h190_y (by omega) (by omega)
                    · refine ok_b1 (ok_Holding_note S3x177_z 1 v3_ v4_ h185_y (by omega) (by omega) (by omega)) (fun S6x177_z h193_y => ?_)
                      obtain ⟨h194_y, p195_y⟩ := h193_y
                      refine ok_chk (by omega) ?_
                      unfold f_Holding_listChanges_224
                      refine ok_chk (by omega) ?_
                      exact ih S6x177_z (v3_ + 1) v4_ (v5_ + (-1)) v6_ (v7_ + 1) h194_y (by omega) (by omega)
                · refine ok_chk (by omega) ?_
                  refine ok_chk (by omega) ?_
                  refine ok_b2 (ok_Ruler_measure S 184 (v3_ + 1) q1 (v4_ + 1) (v5_ + (-1)) hC (show shOk 184 by decide) hq1 (by omega) (by omega) (by omega)) (fun r5x175_z S4x175_z h197_y => ?_)
                  obtain ⟨h198_y, p199_y⟩ := h197_y
                  refine ok_if (fun c200_y => ?_) (fun c200_y => ?_)
                  · unfold f_Holding_listChanges_167
                    have b202_y := cx_sh h198_y (show shOk 184 by decide)
                    refine ok_if (fun c203_y => ?_) (fun c203_y => ?_)
                    · unfold f_Holding_listChanges_213
                      refine ok_b1 (ok_Holding_note S4x175_z 2 v3_ v4_ h198_y (by omega) (by omega) (by omega)) (fun S1x204_z h205_y => ?_)
                      obtain ⟨h206_y, p207_y⟩ := h205_y
                      refine ok_chk (by omega) ?_
                      unfold f_Holding_listChanges_224
                      refine ok_chk (by omega) ?_
                      exact ih S1x204_z v3_ (v4_ + 1) (v5_ + (-1)) v6_ (v7_ + 1) h206_y (by omega) (by omega)
                    · refine ok_chk (by omega) ?_
                      refine ok_b2 (ok_Ruler_measure S4x175_z 184 (v3_ + 1) q1 v4_ (v5_ + (-1)) h198_y (show shOk 184 by decide) hq1 (by omega) (by omega) (by omega)) (fun r4x201_z S3x201_z h209_y => ?_)
                      obtain ⟨h210_y, p211_y⟩ := h209_y
                      refine ok_if (fun c212_y => ?_) (fun c212_y => ?_)
                      · unfold f_Holding_listChanges_213
                        refine ok_b1 (ok_Holding_note S3x201_z 2 v3_ v4_ h210_y (by omega) (by omega) (by omega)) (fun S1x213_z h214_y => ?_)
                        obtain ⟨h215_y, p216_y⟩ := h214_y
                        refine ok_chk (by omega) ?_
                        unfold f_Holding_listChanges_224
                        refine ok_chk (by omega) ?_
                        exact ih S1x213_z v3_ (v4_ + 1) (v5_ + (-1)) v6_ (v7_ + 1) h215_y (by omega) (by omega)
                      · refine ok_b1 (ok_Holding_note S3x201_z 1 v3_ v4_ h210_y (by omega) (by omega) (by omega)) (fun S6x201_z h218_y => ?_)
                        obtain ⟨h219_y, p220_y⟩ := h218_y
                        refine ok_chk (by omega) ?_
                        unfold f_Holding_listChanges_224
                        refine ok_chk (by omega) ?_
                        exact ih S6x201_z (v3_ + 1) v4_ (v5_ + (-1)) v6_ (v7_ + 1) h219_y (by omega) (by omega)
                  · refine ok_b1 (ok_Holding_note S4x175_z 0 v3_ v4_ h198_y (by omega) (by omega) (by omega)) (fun S7x175_z h222_y => ?_)
                    obtain ⟨h223_y, p224_y⟩ := h222_y
                    refine ok_chk (by omega) ?_
                    refine ok_chk (by omega) ?_
                    unfold f_Holding_listChanges_224
                    refine ok_chk (by omega) ?_
                    exact ih S7x175_z (v3_ + 1) (v4_ + 1) (v5_ + (-1)) v6_ (v7_ + 1) h223_y (by omega) (by omega)
          · unfold f_Holding_listChanges_85
            refine ok_if (fun c227_y => ?_) (fun c227_y => ?_)
            · unfold f_Holding_listChanges_119
              refine ok_chk (by omega) ?_
              refine ok_if (fun c229_y => ?_) (fun c229_y => ?_)
              · unfold f_Holding_listChanges_167
                refine ok_if (fun c231_y => ?_) (fun c231_y => ?_)
                · unfold f_Holding_listChanges_213
                  refine ok_b1 (ok_Holding_note S 2 v3_ v4_ hC (by omega) (by omega) (by omega)) (fun S1x232_z h233_y => ?_)
                  obtain ⟨h234_y, p235_y⟩ := h233_y
                  refine ok_chk (by omega) ?_
                  unfold f_Holding_listChanges_224
                  refine ok_chk (by omega) ?_
                  exact ih S1x232_z v3_ (v4_ + 1) (v5_ + (-1)) v6_ (v7_ + 1) h234_y (by omega) (by omega)
                · refine ok_chk (by omega) ?_
                  refine ok_b2 (ok_Ruler_measure S 184 (v3_ + 1) q1 v4_ (v5_ + (-1)) hC (show shOk 184 by decide) hq1 (by omega) (by omega) (by omega)) (fun r4x230_z S3x230_z h237_y => ?_)
                  obtain ⟨h238_y, p239_y⟩ := h237_y
                  refine ok_if (fun c240_y => ?_) (fun c240_y => ?_)
                  · unfold f_Holding_listChanges_213
                    refine ok_b1 (ok_Holding_note S3x230_z 2 v3_ v4_ h238_y (by omega) (by omega) (by omega)) (fun S1x241_z h242_y => ?_)
                    obtain ⟨h243_y, p244_y⟩ := h242_y
                    refine ok_chk (by omega) ?_
                    unfold f_Holding_listChanges_224
                    refine ok_chk (by omega) ?_
                    exact ih S1x241_z v3_ (v4_ + 1) (v5_ + (-1)) v6_ (v7_ + 1) h243_y (by omega) (by omega)
                  · refine ok_b1 (ok_Holding_note S3x230_z 1 v3_ v4_ h238_y (by omega) (by omega) (by omega)) (fun S6x230_z h246_y => ?_)
                    obtain ⟨h247_y, p248_y⟩ := h246_y
                    refine ok_chk (by omega) ?_
                    unfold f_Holding_listChanges_224
                    refine ok_chk (by omega) ?_
                    exact ih S6x230_z (v3_ + 1) v4_ (v5_ + (-1)) v6_ (v7_ + 1) h247_y (by omega) (by omega)
              · refine ok_chk (by omega) ?_
                refine ok_chk (by omega) ?_
                refine ok_b2 (ok_Ruler_measure S 184 (v3_ + 1) q1 (v4_ + 1) (v5_ + (-1)) hC (show shOk 184 by decide) hq1 (by omega) (by omega) (by omega)) (fun r5x228_z S4x228_z h250_y => ?_)
                obtain ⟨h251_y, p252_y⟩ := h250_y
                refine ok_if (fun c253_y => ?_) (fun c253_y => ?_)
                · unfold f_Holding_listChanges_167
                  have b255_y := cx_sh h251_y (show shOk 184 by decide)
                  refine ok_if (fun c256_y => ?_) (fun c256_y => ?_)
                  · unfold f_Holding_listChanges_213
                    refine ok_b1 (ok_Holding_note S4x228_z 2 v3_ v4_ h251_y (by omega) (by omega) (by omega)) (fun S1x257_z h258_y => ?_)
                    obtain ⟨h259_y, p260_y⟩ := h258_y
                    refine ok_chk (by omega) ?_
                    unfold f_Holding_listChanges_224
                    refine ok_chk (by omega) ?_
                    exact ih S1x257_z v3_ (v4_ + 1) (v5_ + (-1)) v6_ (v7_ + 1) h259_y (by omega) (by omega)
                  · refine ok_chk (by omega) ?_
                    refine ok_b2 (ok_Ruler_measure S4x228_z 184 (v3_ + 1) q1 v4_ (v5_ + (-1)) h251_y (show shOk 184 by decide) hq1 (by omega) (by omega) (by omega)) (fun r4x254_z S3x254_z h262_y => ?_)
                    obtain ⟨h263_y, p264_y⟩ := h262_y
                    refine ok_if (fun c265_y => ?_) (fun c265_y => ?_)
                    · unfold f_Holding_listChanges_213
                      refine ok_b1 (ok_Holding_note S3x254_z 2 v3_ v4_ h263_y (by omega) (by omega) (by omega)) (fun S1x266_z h267_y => ?_)
                      obtain ⟨h268_y, p269_y⟩ := h267_y
                      refine ok_chk (by omega) ?_
                      unfold f_Holding_listChanges_224
                      refine ok_chk (by omega) ?_
                      exact ih S1x266_z v3_ (v4_ + 1) (v5_ + (-1)) v6_ (v7_ + 1) h268_y (by omega) (by omega)
                    · refine ok_b1 (ok_Holding_note S3x254_z 1 v3_ v4_ h263_y (by omega) (by omega) (by omega)) (fun S6x254_z h271_y => ?_)
                      obtain ⟨h272_y, p273_y⟩ := h271_y
                      refine ok_chk (by omega) ?_
                      unfold f_Holding_listChanges_224
                      refine ok_chk (by omega) ?_
                      exact ih S6x254_z (v3_ + 1) v4_ (v5_ + (-1)) v6_ (v7_ + 1) h272_y (by omega) (by omega)
                · refine ok_b1 (ok_Holding_note S4x228_z 0 v3_ v4_ h251_y (by omega) (by omega) (by omega)) (fun S7x228_z h275_y => ?_)
                  obtain ⟨h276_y, p277_y⟩ := h275_y
                  refine ok_chk (by omega) ?_
                  refine ok_chk (by omega) ?_
                  unfold f_Holding_listChanges_224
                  refine ok_chk (by omega) ?_
                  exact ih S7x228_z (v3_ + 1) (v4_ + 1) (v5_ + (-1)) v6_ (v7_ + 1) h276_y (by omega) (by omega)
            · refine ok_b1 (ok_Sheet_wordAt S 184 v3_ hC (show shOk 184 by decide)) (fun w1x226_z h279_y => ?_)
              refine ok_b1 (ok_Sheet_wordAt S q1 v4_ hC hq1) (fun w3x226_z h280_y => ?_)
              refine ok_if (fun c281_y => ?_) (fun c281_y => ?_)
              · refine ok_chk (by omega) ?_
                refine ok_chk (by omega) ?_
                unfold f_Holding_listChanges_224
                refine ok_chk (by omega) ?_
                exact ih S (v3_ + 1) (v4_ + 1) v5_ v6_ (v7_ + 1) hC (by omega) (by omega)
              · unfold f_Holding_listChanges_119
                refine ok_chk (by omega) ?_
                refine ok_if (fun c284_y => ?_) (fun c284_y => ?_)
                · unfold f_Holding_listChanges_167
                  refine ok_if (fun c286_y => ?_) (fun c286_y => ?_)
                  · unfold f_Holding_listChanges_213
                    refine ok_b1 (ok_Holding_note S 2 v3_ v4_ hC (by omega) (by omega) (by omega)) (fun S1x287_z h288_y => ?_)
                    obtain ⟨h289_y, p290_y⟩ := h288_y
                    refine ok_chk (by omega) ?_
                    unfold f_Holding_listChanges_224
                    refine ok_chk (by omega) ?_
                    exact ih S1x287_z v3_ (v4_ + 1) (v5_ + (-1)) v6_ (v7_ + 1) h289_y (by omega) (by omega)
                  · refine ok_chk (by omega) ?_
                    refine ok_b2 (ok_Ruler_measure S 184 (v3_ + 1) q1 v4_ (v5_ + (-1)) hC (show shOk 184 by decide) hq1 (by omega) (by omega) (by omega)) (fun r4x285_z S3x285_z h292_y => ?_)
                    obtain ⟨h293_y, p294_y⟩ := h292_y
                    refine ok_if (fun c295_y => ?_) (fun c295_y => ?_)
                    · unfold f_Holding_listChanges_213
                      refine ok_b1 (ok_Holding_note S3x285_z 2 v3_ v4_ h293_y (by omega) (by omega) (by omega)) (fun S1x296_z h297_y => ?_)
                      obtain ⟨h298_y, p299_y⟩ := h297_y
                      refine ok_chk (by omega) ?_
                      unfold f_Holding_listChanges_224
                      refine ok_chk (by omega) ?_
                      exact ih S1x296_z v3_ (v4_ + 1) (v5_ + (-1)) v6_ (v7_ + 1) h298_y (by omega) (by omega)
                    · refine ok_b1 (ok_Holding_note S3x285_z 1 v3_ v4_ h293_y (by omega) (by omega) (by omega)) (fun S6x285_z h301_y => ?_)
                      obtain ⟨h302_y, p303_y⟩ := h301_y
                      refine ok_chk (by omega) ?_
                      unfold f_Holding_listChanges_224
                      refine ok_chk (by omega) ?_
                      exact ih S6x285_z (v3_ + 1) v4_ (v5_ + (-1)) v6_ (v7_ + 1) h302_y (by omega) (by omega)
                · refine ok_chk (by omega) ?_
                  refine ok_chk (by omega) ?_
                  refine ok_b2 (ok_Ruler_measure S 184 (v3_ + 1) q1 (v4_ + 1) (v5_ + (-1)) hC (show shOk 184 by decide) hq1 (by omega) (by omega) (by omega)) (fun r5x283_z S4x283_z h305_y => ?_)
                  obtain ⟨h306_y, p307_y⟩ := h305_y
                  refine ok_if (fun c308_y => ?_) (fun c308_y => ?_)
                  · unfold f_Holding_listChanges_167
                    have b310_y := cx_sh h306_y (show shOk 184 by decide)
                    refine ok_if (fun c311_y => ?_) (fun c311_y => ?_)
                    · unfold f_Holding_listChanges_213
                      refine ok_b1 (ok_Holding_note S4x283_z 2 v3_ v4_ h306_y (by omega) (by omega) (by omega)) (fun S1x312_z h313_y => ?_)
                      obtain ⟨h314_y, p315_y⟩ := h313_y
                      refine ok_chk (by omega) ?_
                      unfold f_Holding_listChanges_224
                      refine ok_chk (by omega) ?_
                      exact ih S1x312_z v3_ (v4_ + 1) (v5_ + (-1)) v6_ (v7_ + 1) h314_y (by omega) (by omega)
                    · refine ok_chk (by omega) ?_
                      refine ok_b2 (ok_Ruler_measure S4x283_z 184 (v3_ + 1) q1 v4_ (v5_ + (-1)) h306_y (show shOk 184 by decide) hq1 (by omega) (by omega) (by omega)) (fun r4x309_z S3x309_z h317_y => ?_)
                      obtain ⟨h318_y, p319_y⟩ := h317_y
                      refine ok_if (fun c320_y => ?_) (fun c320_y => ?_)
                      · unfold f_Holding_listChanges_213
                        refine ok_b1 (ok_Holding_note S3x309_z 2 v3_ v4_ h318_y (by omega) (by omega) (by omega)) (fun S1x321_z h322_y => ?_)
                        obtain ⟨h323_y, p324_y⟩ := h322_y
                        refine ok_chk (by omega) ?_
                        unfold f_Holding_listChanges_224
                        refine ok_chk (by omega) ?_
                        exact ih S1x321_z v3_ (v4_ + 1) (v5_ + (-1)) v6_ (v7_ + 1) h323_y (by omega) (by omega)
                      · refine ok_b1 (ok_Holding_note S3x309_z 1 v3_ v4_ h318_y (by omega) (by omega) (by omega)) (fun S6x309_z h326_y => ?_)
                        obtain ⟨h327_y, p328_y⟩ := h326_y
                        refine ok_chk (by omega) ?_
                        unfold f_Holding_listChanges_224
                        refine ok_chk (by omega) ?_
                        exact ih S6x309_z (v3_ + 1) v4_ (v5_ + (-1)) v6_ (v7_ + 1) h327_y (by omega) (by omega)
                  · refine ok_b1 (ok_Holding_note S4x283_z 0 v3_ v4_ h306_y (by omega) (by omega) (by omega)) (fun S7x283_z h330_y => ?_)
                    obtain ⟨h331_y, p332_y⟩ := h330_y
                    refine ok_chk (by omega) ?_
                    refine ok_chk (by omega) ?_
                    unfold f_Holding_listChanges_224
                    refine ok_chk (by omega) ?_
                    exact ih S7x283_z (v3_ + 1) (v4_ + 1) (v5_ + (-1)) v6_ (v7_ + 1) h331_y (by omega) (by omega)
      · have b334_y := cx_sh hC hq1
        refine ok_if (fun c335_y => ?_) (fun c335_y => ?_)
        · exact ok_some ⟨hC, by trivial⟩
        · unfold f_Holding_listChanges_60
          refine ok_if (fun c337_y => ?_) (fun c337_y => ?_)
          · unfold f_Holding_listChanges_84
            unfold f_Holding_listChanges_85
            refine ok_if (fun c340_y => ?_) (fun c340_y => ?_)
            · unfold f_Holding_listChanges_119
              refine ok_chk (by omega) ?_
              refine ok_if (fun c342_y => ?_) (fun c342_y => ?_)
              · unfold f_Holding_listChanges_167
                refine ok_if (fun c344_y => ?_) (fun c344_y => ?_)
                · unfold f_Holding_listChanges_213
                  refine ok_b1 (ok_Holding_note S 2 v3_ v4_ hC (by omega) (by omega) (by omega)) (fun S1x345_z h346_y => ?_)
                  obtain ⟨h347_y, p348_y⟩ := h346_y
                  refine ok_chk (by omega) ?_
                  unfold f_Holding_listChanges_224
                  refine ok_chk (by omega) ?_
                  exact ih S1x345_z v3_ (v4_ + 1) (v5_ + (-1)) v6_ (v7_ + 1) h347_y (by omega) (by omega)
                · refine ok_chk (by omega) ?_
                  refine ok_b2 (ok_Ruler_measure S 184 (v3_ + 1) q1 v4_ (v5_ + (-1)) hC (show shOk 184 by decide) hq1 (by omega) (by omega) (by omega)) (fun r4x343_z S3x343_z h350_y => ?_)
                  obtain ⟨h351_y, p352_y⟩ := h350_y
                  refine ok_if (fun c353_y => ?_) (fun c353_y => ?_)
                  · unfold f_Holding_listChanges_213
                    refine ok_b1 (ok_Holding_note S3x343_z 2 v3_ v4_ h351_y (by omega) (by omega) (by omega)) (fun S1x354_z h355_y => ?_)
                    obtain ⟨h356_y, p357_y⟩ := h355_y
                    refine ok_chk (by omega) ?_
                    unfold f_Holding_listChanges_224
                    refine ok_chk (by omega) ?_
                    exact ih S1x354_z v3_ (v4_ + 1) (v5_ + (-1)) v6_ (v7_ + 1) h356_y (by omega) (by omega)
                  · refine ok_b1 (ok_Holding_note S3x343_z 1 v3_ v4_ h351_y (by omega) (by omega) (by omega)) (fun S6x343_z h359_y => ?_)
                    obtain ⟨h360_y, p361_y⟩ := h359_y
                    refine ok_chk (by omega) ?_
                    unfold f_Holding_listChanges_224
                    refine ok_chk (by omega) ?_
                    exact ih S6x343_z (v3_ + 1) v4_ (v5_ + (-1)) v6_ (v7_ + 1) h360_y (by omega) (by omega)
              · refine ok_chk (by omega) ?_
                refine ok_chk (by omega) ?_
                refine ok_b2 (ok_Ruler_measure S 184 (v3_ + 1) q1 (v4_ + 1) (v5_ + (-1)) hC (show shOk 184 by decide) hq1 (by omega) (by omega) (by omega)) (fun r5x341_z S4x341_z h363_y => ?_)
                obtain ⟨h364_y, p365_y⟩ := h363_y
                refine ok_if (fun c366_y => ?_) (fun c366_y => ?_)
                · unfold f_Holding_listChanges_167
                  have b368_y := cx_sh h364_y (show shOk 184 by decide)
                  refine ok_if (fun c369_y => ?_) (fun c369_y => ?_)
                  · unfold f_Holding_listChanges_213
                    refine ok_b1 (ok_Holding_note S4x341_z 2 v3_ v4_ h364_y (by omega) (by omega) (by omega)) (fun S1x370_z h371_y => ?_)
                    obtain ⟨h372_y, p373_y⟩ := h371_y
                    refine ok_chk (by omega) ?_
                    unfold f_Holding_listChanges_224
                    refine ok_chk (by omega) ?_
                    exact ih S1x370_z v3_ (v4_ + 1) (v5_ + (-1)) v6_ (v7_ + 1) h372_y (by omega) (by omega)
                  · refine ok_chk (by omega) ?_
                    refine ok_b2 (ok_Ruler_measure S4x341_z 184 (v3_ + 1) q1 v4_ (v5_ + (-1)) h364_y (show shOk 184 by decide) hq1 (by omega) (by omega) (by omega)) (fun r4x367_z S3x367_z h375_y => ?_)
                    obtain ⟨h376_y, p377_y⟩ := h375_y
                    refine ok_if (fun c378_y => ?_) (fun c378_y => ?_)
                    · unfold f_Holding_listChanges_213
                      refine ok_b1 (ok_Holding_note S3x367_z 2 v3_ v4_ h376_y (by omega) (by omega) (by omega)) (fun S1x379_z h380_y => ?_)
                      obtain ⟨h381_y, p382_y⟩ := h380_y
                      refine ok_chk (by omega) ?_
                      unfold f_Holding_listChanges_224
                      refine ok_chk (by omega) ?_
                      exact ih S1x379_z v3_ (v4_ + 1) (v5_ + (-1)) v6_ (v7_ + 1) h381_y (by omega) (by omega)
                    · refine ok_b1 (ok_Holding_note S3x367_z 1 v3_ v4_ h376_y (by omega) (by omega) (by omega)) (fun S6x367_z h384_y => ?_)
                      obtain ⟨h385_y, p386_y⟩ := h384_y
                      refine ok_chk (by omega) ?_
                      unfold f_Holding_listChanges_224
                      refine ok_chk (by omega) ?_
                      exact ih S6x367_z (v3_ + 1) v4_ (v5_ + (-1)) v6_ (v7_ + 1) h385_y (by omega) (by omega)
                · refine ok_b1 (ok_Holding_note S4x341_z 0 v3_ v4_ h364_y (by omega) (by omega) (by omega)) (fun S7x341_z h388_y => ?_)
                  obtain ⟨h389_y, p390_y⟩ := h388_y
                  refine ok_chk (by omega) ?_
                  refine ok_chk (by omega) ?_
                  unfold f_Holding_listChanges_224
                  refine ok_chk (by omega) ?_
                  exact ih S7x341_z (v3_ + 1) (v4_ + 1) (v5_ + (-1)) v6_ (v7_ + 1) h389_y (by omega) (by omega)
            · refine ok_b1 (ok_Sheet_wordAt S 184 v3_ hC (show shOk 184 by decide)) (fun w1x339_z h392_y => ?_)
              refine ok_b1 (ok_Sheet_wordAt S q1 v4_ hC hq1) (fun w3x339_z h393_y => ?_)
              refine ok_if (fun c394_y => ?_) (fun c394_y => ?_)
              · refine ok_chk (by omega) ?_
                refine ok_chk (by omega) ?_
                unfold f_Holding_listChanges_224
                refine ok_chk (by omega) ?_
                exact ih S (v3_ + 1) (v4_ + 1) v5_ v6_ (v7_ + 1) hC (by omega) (by omega)
              · unfold f_Holding_listChanges_119
                refine ok_chk (by omega) ?_
                refine ok_if (fun c397_y => ?_) (fun c397_y => ?_)
                · unfold f_Holding_listChanges_167
                  refine ok_if (fun c399_y => ?_) (fun c399_y => ?_)
                  · unfold f_Holding_listChanges_213
                    refine ok_b1 (ok_Holding_note S 2 v3_ v4_ hC (by omega) (by omega) (by omega)) (fun S1x400_z h401_y => ?_)
                    obtain ⟨h402_y, p403_y⟩ := h401_y
                    refine ok_chk (by omega) ?_
                    unfold f_Holding_listChanges_224
                    refine ok_chk (by omega) ?_
                    exact ih S1x400_z v3_ (v4_ + 1) (v5_ + (-1)) v6_ (v7_ + 1) h402_y (by omega) (by omega)
                  · refine ok_chk (by omega) ?_
                    refine ok_b2 (ok_Ruler_measure S 184 (v3_ + 1) q1 v4_ (v5_ + (-1)) hC (show shOk 184 by decide) hq1 (by omega) (by omega) (by omega)) (fun r4x398_z S3x398_z h405_y => ?_)
                    obtain ⟨h406_y, p407_y⟩ := h405_y
                    refine ok_if (fun c408_y => ?_) (fun c408_y => ?_)
                    · unfold f_Holding_listChanges_213
                      refine ok_b1 (ok_Holding_note S3x398_z 2 v3_ v4_ h406_y (by omega) (by omega) (by omega)) (fun S1x409_z h410_y => ?_)
                      obtain ⟨h411_y, p412_y⟩ := h410_y
                      refine ok_chk (by omega) ?_
                      unfold f_Holding_listChanges_224
                      refine ok_chk (by omega) ?_
                      exact ih S1x409_z v3_ (v4_ + 1) (v5_ + (-1)) v6_ (v7_ + 1) h411_y (by omega) (by omega)
                    · refine ok_b1 (ok_Holding_note S3x398_z 1 v3_ v4_ h406_y (by omega) (by omega) (by omega)) (fun S6x398_z h414_y => ?_)
                      obtain ⟨h415_y, p416_y⟩ := h414_y
                      refine ok_chk (by omega) ?_
                      unfold f_Holding_listChanges_224
                      refine ok_chk (by omega) ?_
                      exact ih S6x398_z (v3_ + 1) v4_ (v5_ + (-1)) v6_ (v7_ + 1) h415_y (by omega) (by omega)
                · refine ok_chk (by omega) ?_
                  refine ok_chk (by omega) ?_
                  refine ok_b2 (ok_Ruler_measure S 184 (v3_ + 1) q1 (v4_ + 1) (v5_ + (-1)) hC (show shOk 184 by decide) hq1 (by omega) (by omega) (by omega)) (fun r5x396_z S4x396_z h418_y => ?_)
                  obtain ⟨h419_y, p420_y⟩ := h418_y
                  refine ok_if (fun c421_y => ?_) (fun c421_y => ?_)
                  · unfold f_Holding_listChanges_167
                    have b423_y := cx_sh h419_y (show shOk 184 by decide)
                    refine ok_if (fun c424_y => ?_) (fun c424_y => ?_)
                    · unfold f_Holding_listChanges_213
                      refine ok_b1 (ok_Holding_note S4x396_z 2 v3_ v4_ h419_y (by omega) (by omega) (by omega)) (fun S1x425_z h426_y => ?_)
                      obtain ⟨h427_y, p428_y⟩ := h426_y
                      refine ok_chk (by omega) ?_
                      unfold f_Holding_listChanges_224
                      refine ok_chk (by omega) ?_
                      exact ih S1x425_z v3_ (v4_ + 1) (v5_ + (-1)) v6_ (v7_ + 1) h427_y (by omega) (by omega)
                    · refine ok_chk (by omega) ?_
                      refine ok_b2 (ok_Ruler_measure S4x396_z 184 (v3_ + 1) q1 v4_ (v5_ + (-1)) h419_y (show shOk 184 by decide) hq1 (by omega) (by omega) (by omega)) (fun r4x422_z S3x422_z h430_y => ?_)
                      obtain ⟨h431_y, p432_y⟩ := h430_y
                      refine ok_if (fun c433_y => ?_) (fun c433_y => ?_)
                      · unfold f_Holding_listChanges_213
                        refine ok_b1 (ok_Holding_note S3x422_z 2 v3_ v4_ h431_y (by omega) (by omega) (by omega)) (fun S1x434_z h435_y => ?_)
                        obtain ⟨h436_y, p437_y⟩ := h435_y
                        refine ok_chk (by omega) ?_
                        unfold f_Holding_listChanges_224
                        refine ok_chk (by omega) ?_
                        exact ih S1x434_z v3_ (v4_ + 1) (v5_ + (-1)) v6_ (v7_ + 1) h436_y (by omega) (by omega)
                      · refine ok_b1 (ok_Holding_note S3x422_z 1 v3_ v4_ h431_y (by omega) (by omega) (by omega)) (fun S6x422_z h439_y => ?_)
                        obtain ⟨h440_y, p441_y⟩ := h439_y
                        refine ok_chk (by omega) ?_
                        unfold f_Holding_listChanges_224
                        refine ok_chk (by omega) ?_
                        exact ih S6x422_z (v3_ + 1) v4_ (v5_ + (-1)) v6_ (v7_ + 1) h440_y (by omega) (by omega)
                  · refine ok_b1 (ok_Holding_note S4x396_z 0 v3_ v4_ h419_y (by omega) (by omega) (by omega)) (fun S7x396_z h443_y => ?_)
                    obtain ⟨h444_y, p445_y⟩ := h443_y
                    refine ok_chk (by omega) ?_
                    refine ok_chk (by omega) ?_
                    unfold f_Holding_listChanges_224
                    refine ok_chk (by omega) ?_
                    exact ih S7x396_z (v3_ + 1) (v4_ + 1) (v5_ + (-1)) v6_ (v7_ + 1) h444_y (by omega) (by omega)
          · refine ok_if (fun c447_y => ?_) (fun c447_y => ?_)
            · unfold f_Holding_listChanges_84
              unfold f_Holding_listChanges_85
              refine ok_if (fun c450_y => ?_) (fun c450_y => ?_)
              · unfold f_Holding_listChanges_119
                refine ok_chk (by omega) ?_
                refine ok_if (fun c452_y => ?_) (fun c452_y => ?_)
                · unfold f_Holding_listChanges_167
                  refine ok_if (fun c454_y => ?_) (fun c454_y => ?_)
                  · unfold f_Holding_listChanges_213
                    refine ok_b1 (ok_Holding_note S 2 v3_ v4_ hC (by omega) (by omega) (by omega)) (fun S1x455_z h456_y => ?_)
                    obtain ⟨h457_y, p458_y⟩ := h456_y
                    refine ok_chk (by omega) ?_
                    unfold f_Holding_listChanges_224
                    refine ok_chk (by omega) ?_
                    exact ih S1x455_z v3_ (v4_ + 1) (v5_ + (-1)) v6_ (v7_ + 1) h457_y (by omega) (by omega)
                  · refine ok_chk (by omega) ?_
                    refine ok_b2 (ok_Ruler_measure S 184 (v3_ + 1) q1 v4_ (v5_ + (-1)) hC (show shOk 184 by decide) hq1 (by omega) (by omega) (by omega)) (fun r4x453_z S3x453_z h460_y => ?_)
                    obtain ⟨h461_y, p462_y⟩ := h460_y
                    refine ok_if (fun c463_y => ?_) (fun c463_y => ?_)
                    · unfold f_Holding_listChanges_213
                      refine ok_b1 (ok_Holding_note S3x453_z 2 v3_ v4_ h461_y (by omega) (by omega) (by omega)) (fun S1x464_z h465_y => ?_)
                      obtain ⟨h466_y, p467_y⟩ := h465_y
                      refine ok_chk (by omega) ?_
                      unfold f_Holding_listChanges_224
                      refine ok_chk (by omega) ?_
                      exact ih S1x464_z v3_ (v4_ + 1) (v5_ + (-1)) v6_ (v7_ + 1) h466_y (by omega) (by omega)
                    · refine ok_b1 (ok_Holding_note S3x453_z 1 v3_ v4_ h461_y (by omega) (by omega) (by omega)) (fun S6x453_z h469_y => ?_)
                      obtain ⟨h470_y, p471_y⟩ := h469_y
                      refine ok_chk (by omega) ?_
                      unfold f_Holding_listChanges_224
                      refine ok_chk (by omega) ?_
                      exact ih S6x453_z (v3_ + 1) v4_ (v5_ + (-1)) v6_ (v7_ + 1) h470_y (by omega) (by omega)
                · refine ok_chk (by omega) ?_
                  refine ok_chk (by omega) ?_
                  refine ok_b2 (ok_Ruler_measure S 184 (v3_ + 1) q1 (v4_ + 1) (v5_ + (-1)) hC (show shOk 184 by decide) hq1 (by omega) (by omega) (by omega)) (fun r5x451_z S4x451_z h473_y => ?_)
                  obtain ⟨h474_y, p475_y⟩ := h473_y
                  refine ok_if (fun c476_y => ?_) (fun c476_y => ?_)
                  · unfold f_Holding_listChanges_167
                    have b478_y := cx_sh h474_y (show shOk 184 by decide)
                    refine ok_if (fun c479_y => ?_) (fun c479_y => ?_)
                    · unfold f_Holding_listChanges_213
                      refine ok_b1 (ok_Holding_note S4x451_z 2 v3_ v4_ h474_y (by omega) (by omega) (by omega)) (fun S1x480_z h481_y => ?_)
                      obtain ⟨h482_y, p483_y⟩ := h481_y
                      refine ok_chk (by omega) ?_
                      unfold f_Holding_listChanges_224
                      refine ok_chk (by omega) ?_
                      exact ih S1x480_z v3_ (v4_ + 1) (v5_ + (-1)) v6_ (v7_ + 1) h482_y (by omega) (by omega)
                    · refine ok_chk (by omega) ?_
                      refine ok_b2 (ok_Ruler_measure S4x451_z 184 (v3_ + 1) q1 v4_ (v5_ + (-1)) h474_y (show shOk 184 by decide) hq1 (by omega) (by omega) (by omega)) (fun r4x477_z S3x477_z h485_y => ?_)
                      obtain ⟨h486_y, p487_y⟩ := h485_y
                      refine ok_if (fun c488_y => ?_) (fun c488_y => ?_)
                      · unfold f_Holding_listChanges_213
                        refine ok_b1 (ok_Holding_note S3x477_z 2 v3_ v4_ h486_y (by omega) (by omega) (by omega)) (fun S1x489_z h490_y => ?_)
                        obtain ⟨h491_y, p492_y⟩ := h490_y
                        refine ok_chk (by omega) ?_
                        unfold f_Holding_listChanges_224
                        refine ok_chk (by omega) ?_
                        exact ih S1x489_z v3_ (v4_ + 1) (v5_ + (-1)) v6_ (v7_ + 1) h491_y (by omega) (by omega)
                      · refine ok_b1 (ok_Holding_note S3x477_z 1 v3_ v4_ h486_y (by omega) (by omega) (by omega)) (fun S6x477_z h494_y => ?_)
                        obtain ⟨h495_y, p496_y⟩ := h494_y
                        refine ok_chk (by omega) ?_
                        unfold f_Holding_listChanges_224
                        refine ok_chk (by omega) ?_
                        exact ih S6x477_z (v3_ + 1) v4_ (v5_ + (-1)) v6_ (v7_ + 1) h495_y (by omega) (by omega)
                  · refine ok_b1 (ok_Holding_note S4x451_z 0 v3_ v4_ h474_y (by omega) (by omega) (by omega)) (fun S7x451_z h498_y => ?_)
                    obtain ⟨h499_y, p500_y⟩ := h498_y
                    refine ok_chk (by omega) ?_
                    refine ok_chk (by omega) ?_
                    unfold f_Holding_listChanges_224
                    refine ok_chk (by omega) ?_
                    exact ih S7x451_z (v3_ + 1) (v4_ + 1) (v5_ + (-1)) v6_ (v7_ + 1) h499_y (by omega) (by omega)
              · refine ok_b1 (ok_Sheet_wordAt S 184 v3_ hC (show shOk 184 by decide)) (fun w1x449_z h502_y => ?_)
                refine ok_b1 (ok_Sheet_wordAt S q1 v4_ hC hq1) (fun w3x449_z h503_y => ?_)
                refine ok_if (fun c504_y => ?_) (fun c504_y => ?_)
                · refine ok_chk (by omega) ?_
                  refine ok_chk (by omega) ?_
                  unfold f_Holding_listChanges_224
                  refine ok_chk (by omega) ?_
                  exact ih S (v3_ + 1) (v4_ + 1) v5_ v6_ (v7_ + 1) hC (by omega) (by omega)
                · unfold f_Holding_listChanges_119
                  refine ok_chk (by omega) ?_
                  refine ok_if (fun c507_y => ?_) (fun c507_y => ?_)
                  · unfold f_Holding_listChanges_167
                    refine ok_if (fun c509_y => ?_) (fun c509_y => ?_)
                    · unfold f_Holding_listChanges_213
                      refine ok_b1 (ok_Holding_note S 2 v3_ v4_ hC (by omega) (by omega) (by omega)) (fun S1x510_z h511_y => ?_)
                      obtain ⟨h512_y, p513_y⟩ := h511_y
                      refine ok_chk (by omega) ?_
                      unfold f_Holding_listChanges_224
                      refine ok_chk (by omega) ?_
                      exact ih S1x510_z v3_ (v4_ + 1) (v5_ + (-1)) v6_ (v7_ + 1) h512_y (by omega) (by omega)
                    · refine ok_chk (by omega) ?_
                      refine ok_b2 (ok_Ruler_measure S 184 (v3_ + 1) q1 v4_ (v5_ + (-1)) hC (show shOk 184 by decide) hq1 (by omega) (by omega) (by omega)) (fun r4x508_z S3x508_z h515_y => ?_)
                      obtain ⟨h516_y, p517_y⟩ := h515_y
                      refine ok_if (fun c518_y => ?_) (fun c518_y => ?_)
                      · unfold f_Holding_listChanges_213
                        refine ok_b1 (ok_Holding_note S3x508_z 2 v3_ v4_ h516_y (by omega) (by omega) (by omega)) (fun S1x519_z h520_y => ?_)
                        obtain ⟨h521_y, p522_y⟩ := h520_y
                        refine ok_chk (by omega) ?_
                        unfold f_Holding_listChanges_224
                        refine ok_chk (by omega) ?_
                        exact ih S1x519_z v3_ (v4_ + 1) (v5_ + (-1)) v6_ (v7_ + 1) h521_y (by omega) (by omega)
                      · refine ok_b1 (ok_Holding_note S3x508_z 1 v3_ v4_ h516_y (by omega) (by omega) (by omega)) (fun S6x508_z h524_y => ?_)
                        obtain ⟨h525_y, p526_y⟩ := h524_y
                        refine ok_chk (by omega) ?_
                        unfold f_Holding_listChanges_224
                        refine ok_chk (by omega) ?_
                        exact ih S6x508_z (v3_ + 1) v4_ (v5_ + (-1)) v6_ (v7_ + 1) h525_y (by omega) (by omega)
                  · refine ok_chk (by omega) ?_
                    refine ok_chk (by omega) ?_
                    refine ok_b2 (ok_Ruler_measure S 184 (v3_ + 1) q1 (v4_ + 1) (v5_ + (-1)) hC (show shOk 184 by decide) hq1 (by omega) (by omega) (by omega)) (fun r5x506_z S4x506_z h528_y => ?_)
                    obtain ⟨h529_y, p530_y⟩ := h528_y
                    refine ok_if (fun c531_y => ?_) (fun c531_y => ?_)
                    · unfold f_Holding_listChanges_167
                      have b533_y := cx_sh h529_y (show shOk 184 by decide)
                      refine ok_if (fun c534_y => ?_) (fun c534_y => ?_)
                      · unfold f_Holding_listChanges_213
                        refine ok_b1 (ok_Holding_note S4x506_z 2 v3_ v4_ h529_y (by omega) (by omega) (by omega)) (fun S1x535_z h536_y => ?_)
                        obtain ⟨h537_y, p538_y⟩ := h536_y
                        refine ok_chk (by omega) ?_
                        unfold f_Holding_listChanges_224
                        refine ok_chk (by omega) ?_
                        exact ih S1x535_z v3_ (v4_ + 1) (v5_ + (-1)) v6_ (v7_ + 1) h537_y (by omega) (by omega)
                      · refine ok_chk (by omega) ?_
                        refine ok_b2 (ok_Ruler_measure S4x506_z 184 (v3_ + 1) q1 v4_ (v5_ + (-1)) h529_y (show shOk 184 by decide) hq1 (by omega) (by omega) (by omega)) (fun r4x532_z S3x532_z h540_y => ?_)
                        obtain ⟨h541_y, p542_y⟩ := h540_y
                        refine ok_if (fun c543_y => ?_) (fun c543_y => ?_)
                        · unfold f_Holding_listChanges_213
                          refine ok_b1 (ok_Holding_note S3x532_z 2 v3_ v4_ h541_y (by omega) (by omega) (by omega)) (fun S1x544_z h545_y => ?_)
                          obtain ⟨h546_y, p547_y⟩ := h545_y
                          refine ok_chk (by omega) ?_
                          unfold f_Holding_listChanges_224
                          refine ok_chk (by omega) ?_
                          exact ih S1x544_z v3_ (v4_ + 1) (v5_ + (-1)) v6_ (v7_ + 1) h546_y (by omega) (by omega)
                        · refine ok_b1 (ok_Holding_note S3x532_z 1 v3_ v4_ h541_y (by omega) (by omega) (by omega)) (fun S6x532_z h549_y => ?_)
                          obtain ⟨h550_y, p551_y⟩ := h549_y
                          refine ok_chk (by omega) ?_
                          unfold f_Holding_listChanges_224
                          refine ok_chk (by omega) ?_
                          exact ih S6x532_z (v3_ + 1) v4_ (v5_ + (-1)) v6_ (v7_ + 1) h550_y (by omega) (by omega)
                    · refine ok_b1 (ok_Holding_note S4x506_z 0 v3_ v4_ h529_y (by omega) (by omega) (by omega)) (fun S7x506_z h553_y => ?_)
                      obtain ⟨h554_y, p555_y⟩ := h553_y
                      refine ok_chk (by omega) ?_
                      refine ok_chk (by omega) ?_
                      unfold f_Holding_listChanges_224
                      refine ok_chk (by omega) ?_
                      exact ih S7x506_z (v3_ + 1) (v4_ + 1) (v5_ + (-1)) v6_ (v7_ + 1) h554_y (by omega) (by omega)
            · unfold f_Holding_listChanges_85
              refine ok_if (fun c558_y => ?_) (fun c558_y => ?_)
              · unfold f_Holding_listChanges_119
                refine ok_chk (by omega) ?_
                refine ok_if (fun c560_y => ?_) (fun c560_y => ?_)
                · unfold f_Holding_listChanges_167
                  refine ok_if (fun c562_y => ?_) (fun c562_y => ?_)
                  · unfold f_Holding_listChanges_213
                    refine ok_b1 (ok_Holding_note S 2 v3_ v4_ hC (by omega) (by omega) (by omega)) (fun S1x563_z h564_y => ?_)
                    obtain ⟨h565_y, p566_y⟩ := h564_y
                    refine ok_chk (by omega) ?_
                    unfold f_Holding_listChanges_224
                    refine ok_chk (by omega) ?_
                    exact ih S1x563_z v3_ (v4_ + 1) (v5_ + (-1)) v6_ (v7_ + 1) h565_y (by omega) (by omega)
                  · refine ok_chk (by omega) ?_
                    refine ok_b2 (ok_Ruler_measure S 184 (v3_ + 1) q1 v4_ (v5_ + (-1)) hC (show shOk 184 by decide) hq1 (by omega) (by omega) (by omega)) (fun r4x561_z S3x561_z h568_y => ?_)
                    obtain ⟨h569_y, p570_y⟩ := h568_y
                    refine ok_if (fun c571_y => ?_) (fun c571_y => ?_)
                    · unfold f_Holding_listChanges_213
                      refine ok_b1 (ok_Holding_note S3x561_z 2 v3_ v4_ h569_y (by omega) (by omega) (by omega)) (fun S1x572_z h573_y => ?_)
                      obtain ⟨h574_y, p575_y⟩ := h573_y
                      refine ok_chk (by omega) ?_
                      unfold f_Holding_listChanges_224
                      refine ok_chk (by omega) ?_
                      exact ih S1x572_z v3_ (v4_ + 1) (v5_ + (-1)) v6_ (v7_ + 1) h574_y (by omega) (by omega)
                    · refine ok_b1 (ok_Holding_note S3x561_z 1 v3_ v4_ h569_y (by omega) (by omega) (by omega)) (fun S6x561_z h577_y => ?_)
                      obtain ⟨h578_y, p579_y⟩ := h577_y
                      refine ok_chk (by omega) ?_
                      unfold f_Holding_listChanges_224
                      refine ok_chk (by omega) ?_
                      exact ih S6x561_z (v3_ + 1) v4_ (v5_ + (-1)) v6_ (v7_ + 1) h578_y (by omega) (by omega)
                · refine ok_chk (by omega) ?_
                  refine ok_chk (by omega) ?_
                  refine ok_b2 (ok_Ruler_measure S 184 (v3_ + 1) q1 (v4_ + 1) (v5_ + (-1)) hC (show shOk 184 by decide) hq1 (by omega) (by omega) (by omega)) (fun r5x559_z S4x559_z h581_y => ?_)
                  obtain ⟨h582_y, p583_y⟩ := h581_y
                  refine ok_if (fun c584_y => ?_) (fun c584_y => ?_)
                  · unfold f_Holding_listChanges_167
                    have b586_y := cx_sh h582_y (show shOk 184 by decide)
                    refine ok_if (fun c587_y => ?_) (fun c587_y => ?_)
                    · unfold f_Holding_listChanges_213
                      refine ok_b1 (ok_Holding_note S4x559_z 2 v3_ v4_ h582_y (by omega) (by omega) (by omega)) (fun S1x588_z h589_y => ?_)
                      obtain ⟨h590_y, p591_y⟩ := h589_y
                      refine ok_chk (by omega) ?_
                      unfold f_Holding_listChanges_224
                      refine ok_chk (by omega) ?_
                      exact ih S1x588_z v3_ (v4_ + 1) (v5_ + (-1)) v6_ (v7_ + 1) h590_y (by omega) (by omega)
                    · refine ok_chk (by omega) ?_
                      refine ok_b2 (ok_Ruler_measure S4x559_z 184 (v3_ + 1) q1 v4_ (v5_ + (-1)) h582_y (show shOk 184 by decide) hq1 (by omega) (by omega) (by omega)) (fun r4x585_z S3x585_z h593_y => ?_)
                      obtain ⟨h594_y, p595_y⟩ := h593_y
                      refine ok_if (fun c596_y => ?_) (fun c596_y => ?_)
                      · unfold f_Holding_listChanges_213
                        refine ok_b1 (ok_Holding_note S3x585_z 2 v3_ v4_ h594_y (by omega) (by omega) (by omega)) (fun S1x597_z h598_y => ?_)
                        obtain ⟨h599_y, p600_y⟩ := h598_y
                        refine ok_chk (by omega) ?_
                        unfold f_Holding_listChanges_224
                        refine ok_chk (by omega) ?_
                        exact ih S1x597_z v3_ (v4_ + 1) (v5_ + (-1)) v6_ (v7_ + 1) h599_y (by omega) (by omega)
                      · refine ok_b1 (ok_Holding_note S3x585_z 1 v3_ v4_ h594_y (by omega) (by omega) (by omega)) (fun S6x585_z h602_y => ?_)
                        obtain ⟨h603_y, p604_y⟩ := h602_y
                        refine ok_chk (by omega) ?_
                        unfold f_Holding_listChanges_224
                        refine ok_chk (by omega) ?_
                        exact ih S6x585_z (v3_ + 1) v4_ (v5_ + (-1)) v6_ (v7_ + 1) h603_y (by omega) (by omega)
                  · refine ok_b1 (ok_Holding_note S4x559_z 0 v3_ v4_ h582_y (by omega) (by omega) (by omega)) (fun S7x559_z h606_y => ?_)
                    obtain ⟨h607_y, p608_y⟩ := h606_y
                    refine ok_chk (by omega) ?_
                    refine ok_chk (by omega) ?_
                    unfold f_Holding_listChanges_224
                    refine ok_chk (by omega) ?_
                    exact ih S7x559_z (v3_ + 1) (v4_ + 1) (v5_ + (-1)) v6_ (v7_ + 1) h607_y (by omega) (by omega)
              · refine ok_b1 (ok_Sheet_wordAt S 184 v3_ hC (show shOk 184 by decide)) (fun w1x557_z h610_y => ?_)
                refine ok_b1 (ok_Sheet_wordAt S q1 v4_ hC hq1) (fun w3x557_z h611_y => ?_)
                refine ok_if (fun c612_y => ?_) (fun c612_y => ?_)
                · refine ok_chk (by omega) ?_
                  refine ok_chk (by omega) ?_
                  unfold f_Holding_listChanges_224
                  refine ok_chk (by omega) ?_
                  exact ih S (v3_ + 1) (v4_ + 1) v5_ v6_ (v7_ + 1) hC (by omega) (by omega)
                · unfold f_Holding_listChanges_119
                  refine ok_chk (by omega) ?_
                  refine ok_if (fun c615_y => ?_) (fun c615_y => ?_)
                  · unfold f_Holding_listChanges_167
                    refine ok_if (fun c617_y => ?_) (fun c617_y => ?_)
                    · unfold f_Holding_listChanges_213
                      refine ok_b1 (ok_Holding_note S 2 v3_ v4_ hC (by omega) (by omega) (by omega)) (fun S1x618_z h619_y => ?_)
                      obtain ⟨h620_y, p621_y⟩ := h619_y
                      refine ok_chk (by omega) ?_
                      unfold f_Holding_listChanges_224
                      refine ok_chk (by omega) ?_
                      exact ih S1x618_z v3_ (v4_ + 1) (v5_ + (-1)) v6_ (v7_ + 1) h620_y (by omega) (by omega)
                    · refine ok_chk (by omega) ?_
                      refine ok_b2 (ok_Ruler_measure S 184 (v3_ + 1) q1 v4_ (v5_ + (-1)) hC (show shOk 184 by decide) hq1 (by omega) (by omega) (by omega)) (fun r4x616_z S3x616_z h623_y => ?_)
                      obtain ⟨h624_y, p625_y⟩ := h623_y
                      refine ok_if (fun c626_y => ?_) (fun c626_y => ?_)
                      · unfold f_Holding_listChanges_213
                        refine ok_b1 (ok_Holding_note S3x616_z 2 v3_ v4_ h624_y (by omega) (by omega) (by omega)) (fun S1x627_z h628_y => ?_)
                        obtain ⟨h629_y, p630_y⟩ := h628_y
                        refine ok_chk (by omega) ?_
                        unfold f_Holding_listChanges_224
                        refine ok_chk (by omega) ?_
                        exact ih S1x627_z v3_ (v4_ + 1) (v5_ + (-1)) v6_ (v7_ + 1) h629_y (by omega) (by omega)
                      · refine ok_b1 (ok_Holding_note S3x616_z 1 v3_ v4_ h624_y (by omega) (by omega) (by omega)) (fun S6x616_z h632_y => ?_)
                        obtain ⟨h633_y, p634_y⟩ := h632_y
                        refine ok_chk (by omega) ?_
                        unfold f_Holding_listChanges_224
                        refine ok_chk (by omega) ?_
                        exact ih S6x616_z (v3_ + 1) v4_ (v5_ + (-1)) v6_ (v7_ + 1) h633_y (by omega) (by omega)
                  · refine ok_chk (by omega) ?_
                    refine ok_chk (by omega) ?_
                    refine ok_b2 (ok_Ruler_measure S 184 (v3_ + 1) q1 (v4_ + 1) (v5_ + (-1)) hC (show shOk 184 by decide) hq1 (by omega) (by omega) (by omega)) (fun r5x614_z S4x614_z h636_y => ?_)
                    obtain ⟨h637_y, p638_y⟩ := h636_y
                    refine ok_if (fun c639_y => ?_) (fun c639_y => ?_)
                    · unfold f_Holding_listChanges_167
                      have b641_y := cx_sh h637_y (show shOk 184 by decide)
                      refine ok_if (fun c642_y => ?_) (fun c642_y => ?_)
                      · unfold f_Holding_listChanges_213
                        refine ok_b1 (ok_Holding_note S4x614_z 2 v3_ v4_ h637_y (by omega) (by omega) (by omega)) (fun S1x643_z h644_y => ?_)
                        obtain ⟨h645_y, p646_y⟩ := h644_y
                        refine ok_chk (by omega) ?_
                        unfold f_Holding_listChanges_224
                        refine ok_chk (by omega) ?_
                        exact ih S1x643_z v3_ (v4_ + 1) (v5_ + (-1)) v6_ (v7_ + 1) h645_y (by omega) (by omega)
                      · refine ok_chk (by omega) ?_
                        refine ok_b2 (ok_Ruler_measure S4x614_z 184 (v3_ + 1) q1 v4_ (v5_ + (-1)) h637_y (show shOk 184 by decide) hq1 (by omega) (by omega) (by omega)) (fun r4x640_z S3x640_z h648_y => ?_)
                        obtain ⟨h649_y, p650_y⟩ := h648_y
                        refine ok_if (fun c651_y => ?_) (fun c651_y => ?_)
                        · unfold f_Holding_listChanges_213
                          refine ok_b1 (ok_Holding_note S3x640_z 2 v3_ v4_ h649_y (by omega) (by omega) (by omega)) (fun S1x652_z h653_y => ?_)
                          obtain ⟨h654_y, p655_y⟩ := h653_y
                          refine ok_chk (by omega) ?_
                          unfold f_Holding_listChanges_224
                          refine ok_chk (by omega) ?_
                          exact ih S1x652_z v3_ (v4_ + 1) (v5_ + (-1)) v6_ (v7_ + 1) h654_y (by omega) (by omega)
                        · refine ok_b1 (ok_Holding_note S3x640_z 1 v3_ v4_ h649_y (by omega) (by omega) (by omega)) (fun S6x640_z h657_y => ?_)
                          obtain ⟨h658_y, p659_y⟩ := h657_y
                          refine ok_chk (by omega) ?_
                          unfold f_Holding_listChanges_224
                          refine ok_chk (by omega) ?_
                          exact ih S6x640_z (v3_ + 1) v4_ (v5_ + (-1)) v6_ (v7_ + 1) h658_y (by omega) (by omega)
                    · refine ok_b1 (ok_Holding_note S4x614_z 0 v3_ v4_ h637_y (by omega) (by omega) (by omega)) (fun S7x614_z h661_y => ?_)
                      obtain ⟨h662_y, p663_y⟩ := h661_y
                      refine ok_chk (by omega) ?_
                      refine ok_chk (by omega) ?_
                      unfold f_Holding_listChanges_224
                      refine ok_chk (by omega) ?_
                      exact ih S7x614_z (v3_ + 1) (v4_ + 1) (v5_ + (-1)) v6_ (v7_ + 1) h662_y (by omega) (by omega)
set_option maxHeartbeats 4000000 in
theorem ok_Holding_listChanges {b : Nat} (S : SS) (q1 : Nat) (hC : CX b S) (hq1 : shOk q1) : okk (f_Holding_listChanges S q1) (fun S1 => CX b S1 ∧ (True)) := by
  unfold f_Holding_listChanges
  refine ok_lt (fun S1x1_z eS1x1_z => ?_)
  have h2_y : CX b S1x1_z := by rw [eS1x1_z]; exact cs_183_11 hC (by omega) (by omega)
  have f3_y : gi S1x1_z 183 11 = 0 := gi_eq eS1x1_z
  have b4_y := cx_sh h2_y (show shOk 184 by decide)
  have b5_y := cx_sh h2_y hq1
  refine ok_chk (by omega) ?_
  have b6_y := cx_183_10 h2_y
  exact okl_Holding_listChanges_33 q1 hq1 FU S1x1_z 0 0 (gi S1x1_z 183 10) ((gi S1x1_z 184 1) + (gi S1x1_z q1 1)) 0 h2_y (by omega) (by unfold FU; omega)
set_option maxHeartbeats 4000000 in
theorem ok_MP_distance {b : Nat} (S : SS) (v1 : Int) (v2 : Int) (hC : CX b S) : okk (f_MP_distance S v1 v2) (fun u => CX b u.2 ∧ (True)) := by
  unfold f_MP_distance
  refine ok_lt (fun o1x1_z eo1x1_z => ?_)
  refine ok_lt (fun o3x1_z eo3x1_z => ?_)
  refine ok_on (fun h2_y => ?_) (fun q5x1_z h2_y => ?_)
  · exact ok_some ⟨hC, by trivial⟩
  · have hq5x1_z : shOk q5x1_z := so_rng (by rw [← eo1x1_z]; exact h2_y)
    refine ok_chk (by omega) ?_
    refine ok_on (fun h3_y => ?_) (fun q6x1_z h3_y => ?_)
    · exact ok_some ⟨hC, by trivial⟩
    · have hq6x1_z : shOk q6x1_z := so_rng (by rw [← eo3x1_z]; exact h3_y)
      refine ok_chk (by omega) ?_
      refine ok_b2 (ok_Ruler_measure S q5x1_z 0 q6x1_z 0 300 hC hq5x1_z hq6x1_z (by omega) (by omega) (by omega)) (fun r8x1_z S7x1_z h4_y => ?_)
      obtain ⟨h5_y, p6_y⟩ := h4_y
      exact ok_some ⟨h5_y, by trivial⟩
