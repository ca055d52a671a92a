theorem okm_charAt {b : Nat} (S : SS) (i0 : Nat) (v1 : Int) (hC : MX b S) (hi0 : i0 < 13) (hp0 : 0 ≤ v1 ∧ v1 < stl i0) : okk (f_charAt S i0 v1) (fun r => True) := by
  unfold f_charAt
  refine ok_if (fun h => absurd (show (1 : Int) = 0 from h) (by decide)) (fun _ => ?_)
  refine ok_b1 (R := fun r => 0 ≤ r ∧ r < 65536) ?_ (fun r h => ok_chk h (ok_some trivial))
  unfold f_l1charAt
  refine ok_b1 (R := fun _ => True) ?_ (fun _ _ => ok_chk hp0 (ok_chk (toc_rng _) (ok_some (toc_rng _))))
  unfold f_checkIndex f_preCheck
  exact ⟨(), by rw [if_neg (by omega), if_pos (by omega)]; rfl, trivial⟩
set_option maxHeartbeats 4000000 in
theorem okl_M_is_40 (S : SS) (i1 : Nat) (hC : MX 1 S) (hi1 : i1 < 13) : ∀ (n : Nat) (v2_ : Int) (v3_ : Int), ((v2_ = 0 ∨ (v2_ = 1 ∧ gi S 192 11 - gi S 192 10 = stl i1)) ∧ 0 ≤ v3_ ∧ v3_ ≤ 100 ∧ gi S 192 9 ≤ 2000) → 100 - v3_ < (n : Int) → okk (f_M_is_40 S i1 n v2_ v3_) (fun r => r = 0 ∨ r = 1) := by
  intro n
  induction n with
  | zero => intro v2_ v3_ hi hm; exfalso; omega
  | succ n ih =>
    intro v2_ v3_ hi hm
    have hm : 100 - v3_ < (n : Int) + 1 := by omega
    show okk (f_M_is_40_b S i1 (f_M_is_40 S i1 n) v2_ v3_) _
    unfold f_M_is_40_b
    have b1_y := And.intro ((hC).1 rfl) (mx_192_11 hC)
    have b2_y := mx_192_10 hC
    have b3_y := And.intro ((hC).1 rfl) (mx_192_9 hC)
    have b4_y := stl_rng hi1
    have b5_y := len_rng S hi1
    refine ok_if (fun c6_y => ?_) (fun c6_y => ?_)
    · refine ok_chk (by omega) ?_
      exact ok_some (by omega)
    · refine ok_if (fun c7_y => ?_) (fun c7_y => ?_)
      · refine ok_chk (by omega) ?_
        exact ok_some (by omega)
      · refine ok_chk (by omega) ?_
        refine ok_chk (by omega) ?_
        refine ok_b1 (okm_charAt S i1 v3_ hC hi1 (by omega)) (fun r7_z h8_y => ?_)
        have b9_y := mx_197 hC ((gi S 192 10) + v3_).toNat
        refine ok_if (fun c10_y => ?_) (fun c10_y => ?_)
        · unfold f_M_is_76
          refine ok_chk (by omega) ?_
          exact ih 1 (v3_ + 1) (by omega) (by omega)
        · unfold f_M_is_76
          refine ok_chk (by omega) ?_
          exact ih 0 (v3_ + 1) (by omega) (by omega)
set_option maxHeartbeats 4000000 in
theorem ok_M_is (S : SS) (i1 : Nat) (hC : MX 1 S) (hi1 : i1 < 13) : okk (f_M_is S i1) (fun r => r = 0 ∨ r = 1) := by
  have b1_y := And.intro ((hC).1 rfl) (mx_192_9 hC)
  have b2_y := mx_192_10 hC
  have b3_y := And.intro ((hC).1 rfl) (mx_192_11 hC)
  unfold f_M_is
  have b5_y := mx_192_12 hC
  refine ok_if (fun c6_y => ?_) (fun c6_y => ?_)
  · unfold f_M_is_16
    refine ok_chk (by omega) ?_
    have b8_y := len_rng S hi1
    refine ok_if (fun c9_y => ?_) (fun c9_y => ?_)
    · unfold f_M_is_37
      exact okl_M_is_40 S i1 hC hi1 FU 1 0 (by omega) (by unfold FU; omega)
    · unfold f_M_is_36
      unfold f_M_is_37
      exact okl_M_is_40 S i1 hC hi1 FU 0 0 (by omega) (by unfold FU; omega)
  · refine ok_if (fun c13_y => ?_) (fun c13_y => ?_)
    · unfold f_M_is_16
      refine ok_chk (by omega) ?_
      have b15_y := len_rng S hi1
      refine ok_if (fun c16_y => ?_) (fun c16_y => ?_)
      · unfold f_M_is_37
        exact okl_M_is_40 S i1 hC hi1 FU 1 0 (by omega) (by unfold FU; omega)
      · unfold f_M_is_36
        unfold f_M_is_37
        exact okl_M_is_40 S i1 hC hi1 FU 0 0 (by omega) (by unfold FU; omega)
    · unfold f_M_is_36
      unfold f_M_is_37
      exact okl_M_is_40 S i1 hC hi1 FU 0 0 (by omega) (by unfold FU; omega)
