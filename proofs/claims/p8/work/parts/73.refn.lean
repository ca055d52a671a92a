abbrev XFN (r k : Nat) : Prop := r = 192 ∧ 9 ≤ k ∧ k ≤ 15
theorem XFN_S : XSC XFN := fun k a c => ⟨rfl, a, c⟩
theorem gi_at (S : SS) (r k : Nat) (v : Int) : gi (si S r k v) r k = v := by rw [gi_si, if_pos ⟨rfl, rfl⟩]
theorem gi_off {S : SS} {r k r' k' : Nat} {v : Int} (h : ¬ (r' = r ∧ k' = k)) : gi (si S r k v) r' k' = gi S r' k' := by rw [gi_si, if_neg h]
theorem pf_num (S : SS) (a c : Int) : pc (f_M_number S a c) (fun u => fr XFN S u.2 ∧ ∀ r, u.1 = some r → a ≤ r ∧ r ≤ c ∧ r = gi S 192 13 ∧ gi S 192 12 = 2) := by
  unfold f_M_number
  have i01 := in01 S (gi S 192 13) a c
  refine pc_if (fun c1 => pc_if (fun c2 => ?_) (fun c2 => ?_)) (fun c1 => ?_)
  · exact pc_some ⟨fr_wrong (fr_refl _ S) (XFN_S _ (by omega) (by omega)) (XFN_S _ (by omega) (by omega)), fun r e => nomatch e⟩
  · exact pc_b1 (pf_scan XFN_S S S (fr_refl _ S)) (fun S8 h8 => pc_some ⟨h8, fun r e => by cases e; exact ⟨by omega, by omega, rfl, c1⟩⟩)
  · exact pc_some ⟨fr_wrong (fr_refl _ S) (XFN_S _ (by omega) (by omega)) (XFN_S _ (by omega) (by omega)), fun r e => nomatch e⟩
theorem XFN_L {m : Nat} {S0 S S1 : SS} (h : fr (XFL m) S0 S) (h1 : fr XFN S S1) : fr (XFL m) S0 S1 := fr_trans h (fr_mono h1 (fun r k q => .inr q))
theorem XFL_si {m : Nat} {S0 S : SS} (h : fr (XFL m) S0 S) {r : Nat} {v : Int} (h1 : 199 ≤ r) (h2 : r ≤ 208) : fr (XFL m) S0 (si S r m v) := fr_si h (.inl ⟨h1, h2, rfl⟩)
theorem pf_rm105 (S0 S : SS) (m : Nat) (h : fr (XFL m) S0 S) (hk : gi S 199 m = 4) (h1 : 0 ≤ gi S 201 m ∧ gi S 201 m ≤ gi S 202 m ∧ gi S 202 m < gi S 192 3) (hg : gi S 192 12 = 2 → gi S 192 13 < gi S 201 m ∨ gi S 202 m + 1 < gi S 192 13) : pc (f_M_readMove_105 (m : Int) S) (QFL m S0) := by
  unfold f_M_readMove_105
  refine pc_b3 (pf_num S 0 (gi S 192 3)) (fun s hs => pc_some ⟨XFN_L h hs.1, fun q => absurd rfl q⟩) (fun r s hs => pc_chk (fun _ => pc_lt (fun S6 e6 => pc_some ⟨?_, fun _ => ?_⟩)))
  · rw [e6, Int.toNat_natCast]; exact XFL_si (XFN_L h hs.1) (by omega) (by omega)
  · have hr := hs.2 r rfl
    have hg := hg hr.2.2.2
    rw [Int.toNat_natCast] at e6
    have f1 : gi s 199 m = gi S 199 m := hs.1 199 m (by omega)
    have f2 : gi s 201 m = gi S 201 m := hs.1 201 m (by omega)
    have f3 : gi s 202 m = gi S 202 m := hs.1 202 m (by omega)
    have f4 : gi s 192 3 = gi S 192 3 := hs.1 192 3 (by omega)
    right; right; right; left
    rw [e6, gi_at, gi_off (by omega), gi_off (by omega), gi_off (by omega), gi_off (by omega)]
    omega
theorem pf_rm56 (S0 S : SS) (m : Nat) (h : fr (XFL m) S0 S) (hk : gi S 199 m = 4) (h1 : 0 ≤ gi S 201 m) (a : Int) (ha : a < gi S 192 3) : pc (f_M_readMove_56 (m : Int) S a (gi S 201 m) (m : Int)) (QFL m S0) := by
  unfold f_M_readMove_56
  refine pc_b3 (pf_num S (gi S 201 m) a) (fun s hs => pc_some ⟨XFN_L h hs.1, fun q => absurd rfl q⟩) (fun r s hs => pc_chk (fun _ => pc_lt (fun S5 e5 => ?_)))
  have hr := hs.2 r rfl
  rw [Int.toNat_natCast] at e5 ⊢
  have hL : fr (XFL m) S0 S5 := by rw [e5]; exact XFL_si (XFN_L h hs.1) (by omega) (by omega)
  have f1 : gi S5 199 m = 4 := by rw [e5, gi_off (by omega), hs.1 199 m (by omega)]; exact hk
  have f2 : gi S5 201 m = gi S 201 m := by rw [e5, gi_off (by omega), hs.1 201 m (by omega)]
  have f3 : gi S5 202 m = r := by rw [e5, gi_at]
  have f4 : gi S5 192 3 = gi S 192 3 := by rw [e5, gi_off (by omega), hs.1 192 3 (by omega)]
  have i01 := in01 S5 (gi S5 192 13) (gi S5 201 m) (gi S5 202 m + 1)
  refine pc_if (fun c1 => pc_chk (fun _ => pc_chk (fun _ => pc_chk (fun _ => pc_if (fun c2 => pf_rm105 S0 S5 m hL f1 (by omega) (fun _ => by omega)) (fun c2 => ?_))))) (fun c1 => pf_rm105 S0 S5 m hL f1 (by omega) (fun q => absurd q c1))
  exact pc_some ⟨fr_wrong hL (XFL_S m _ (by omega) (by omega)) (XFL_S m _ (by omega) (by omega)), fun q => absurd rfl q⟩
theorem pf_rm23 (S0 S : SS) (m : Nat) (h : fr (XFL m) S0 S) (hk : gi S 199 m = 4) (a : Int) (ha : 0 ≤ a) : pc (f_M_readMove_23 (m : Int) S (gi S 192 3 - 1) a (m : Int)) (QFL m S0) := by
  unfold f_M_readMove_23
  refine pc_b3 (pf_num S a (gi S 192 3 - 1)) (fun s hs => pc_some ⟨XFN_L h hs.1, fun q => absurd rfl q⟩) (fun r s hs => pc_chk (fun _ => pc_lt (fun S5 e5 => pc_chk (fun _ => pc_chk (fun _ => ?_)))))
  have hr := hs.2 r rfl
  rw [Int.toNat_natCast] at e5 ⊢
  have hL : fr (XFL m) S0 S5 := by rw [e5]; exact XFL_si (XFN_L h hs.1) (by omega) (by omega)
  have f1 : gi S5 199 m = 4 := by rw [e5, gi_off (by omega), hs.1 199 m (by omega)]; exact hk
  have f2 : gi S5 201 m = r := by rw [e5, gi_at]
  have f4 : gi S5 192 3 = gi S 192 3 := by rw [e5, gi_off (by omega), hs.1 192 3 (by omega)]
  exact pc_if (fun c1 => pc_chk (fun _ => pf_rm56 S0 S5 m hL f1 (by omega) _ (by omega))) (fun c1 => pf_rm56 S0 S5 m hL f1 (by omega) _ (by omega))
theorem pf_readMove (S0 S : SS) (m : Nat) (h : fr (XFL m) S0 S) (hk : gi S 199 m = 4) : pc (f_M_readMove S (m : Int)) (QFL m S0) := by
  unfold f_M_readMove
  exact pc_chk (fun _ => pc_if (fun c1 => pf_rm23 S0 S m h hk 0 (by decide)) (fun c1 => pf_rm23 S0 S m h hk 1 (by decide)))
theorem pf_two (S0 S : SS) (m : Nat) (h : fr (XFL m) S0 S) (hk : gi S 199 m = 0 ∨ gi S 199 m = 2) (g : SS → Option (Option Unit × SS)) (hg : ∀ S', fr (XFL m) S0 S' → m_val S' m → pc (g S') (QFL m S0)) : pc (w_b3 (f_M_number S 0 (gi S 192 3 - 1)) (fun S9_z => some (none, S9_z)) (fun r7_z S8_z => w_chk (0 ≤ (m : Int) ∧ (m : Int) < 41) (w_lt (si S8_z 201 (m : Int).toNat r7_z) (fun S11_z => w_chk (0 ≤ (m : Int) ∧ (m : Int) < 41) (w_b3 (f_M_number S11_z (gi S11_z 201 (m : Int).toNat) (gi S 192 3 - 1)) (fun S15_z => some (none, S15_z)) (fun r13_z S14_z => w_chk (0 ≤ (m : Int) ∧ (m : Int) < 41) (w_lt (si S14_z 202 (m : Int).toNat r13_z) (fun S17_z => g S17_z)))))))) (QFL m S0) := by
  refine pc_b3 (pf_num S 0 (gi S 192 3 - 1)) (fun s hs => pc_some ⟨XFN_L h hs.1, fun q => absurd rfl q⟩) (fun r s hs => pc_chk (fun _ => pc_lt (fun S5 e5 => pc_chk (fun _ => ?_))))
  have hr := hs.2 r rfl
  rw [Int.toNat_natCast] at e5 ⊢
  have hL : fr (XFL m) S0 S5 := by rw [e5]; exact XFL_si (XFN_L h hs.1) (by omega) (by omega)
  have f1 : gi S5 199 m = gi S 199 m := by rw [e5, gi_off (by omega), hs.1 199 m (by omega)]
  have f2 : gi S5 201 m = r := by rw [e5, gi_at]
  have f4 : gi S5 192 3 = gi S 192 3 := by rw [e5, gi_off (by omega), hs.1 192 3 (by omega)]
  refine pc_b3 (pf_num S5 (gi S5 201 m) (gi S 192 3 - 1)) (fun s hs => pc_some ⟨XFN_L hL hs.1, fun q => absurd rfl q⟩) (fun r2 s2 hs2 => pc_chk (fun _ => pc_lt (fun S7 e7 => ?_)))
  have hr2 := hs2.2 r2 rfl
  refine hg S7 (by rw [e7]; exact XFL_si (XFN_L hL hs2.1) (by omega) (by omega)) (.inl ?_)
  have g1 : gi s2 199 m = gi S5 199 m := hs2.1 199 m (by omega)
  have g2 : gi s2 201 m = gi S5 201 m := hs2.1 201 m (by omega)
  have g4 : gi s2 192 3 = gi S5 192 3 := hs2.1 192 3 (by omega)
  rw [e7, gi_at, gi_off (by omega), gi_off (by omega), gi_off (by omega)]
  omega
theorem pf_rl250 (S0 S : SS) (m : Nat) (h : fr (XFL m) S0 S) (v : Int) (hv : -1 ≤ v ∧ v ≤ 5) : pc (f_M_readLine_250 (m : Int) S (gi S 192 3 - 1) v (m : Int)) (QFL m S0) := by
  unfold f_M_readLine_250
  refine pc_chk (fun _ => pc_lt (fun S1 e1 => pc_chk (fun _ => ?_)))
  rw [Int.toNat_natCast] at e1
  have hL : fr (XFL m) S0 S1 := by rw [e1]; exact XFL_si h (by omega) (by omega)
  have f4 : gi S 192 3 = gi S1 192 3 := by rw [e1, gi_off (by omega)]
  rw [f4]
  refine pc_if (fun c1 => pc_some ⟨fr_wrong hL (XFL_S m _ (by omega) (by omega)) (XFL_S m _ (by omega) (by omega)), fun q => absurd rfl q⟩) (fun c1 => pc_b1 (pf_scan XFN_S S1 S1 (fr_refl _ S1)) (fun S3 h3 => pc_chk (fun _ => ?_)))
  have f5 : gi S1 192 3 = gi S3 192 3 := (h3 192 3 (by omega)).symm
  have hL3 := XFN_L hL h3
  rw [f5]
  refine pc_if (fun c2 => ?_) (fun c2 => pc_if (fun c3 => ?_) (fun c3 => pc_if (fun c4 => ?_) (fun c4 => pc_if (fun c5 => pc_chk (fun _ => ?_)) (fun c5 => pc_if (fun c6 => ?_) (fun c6 => ?_)))))
  · rw [Int.toNat_natCast] at c2
    exact pf_two S0 S3 m hL3 (.inl c2) _ (fun S' a d => pf_rl480v S0 S' m a d)
  · rw [Int.toNat_natCast] at c3
    refine pc_b3 (pf_num S3 0 (gi S3 192 3)) (fun s hs => pc_some ⟨XFN_L hL3 hs.1, fun q => absurd rfl q⟩) (fun r s hs => pc_chk (fun _ => pc_lt (fun S5 e5 => ?_)))
    have hr := hs.2 r rfl
    rw [Int.toNat_natCast] at e5
    refine pf_rl480v S0 S5 m (by rw [e5]; exact XFL_si (XFN_L hL3 hs.1) (by omega) (by omega)) (.inr (.inl ?_))
    have g1 : gi s 199 m = gi S3 199 m := hs.1 199 m (by omega)
    have g4 : gi s 192 3 = gi S3 192 3 := hs.1 192 3 (by omega)
    rw [e5, gi_at, gi_off (by omega), gi_off (by omega)]
    omega
  · rw [Int.toNat_natCast] at c4
    exact pf_two S0 S3 m hL3 (.inr c4) _ (fun S' a d => pf_rl480v S0 S' m a d)
  · rw [Int.toNat_natCast] at c5
    refine pc_b3 (pf_num S3 0 (gi S3 192 3 - 1 - 1)) (fun s hs => pc_some ⟨XFN_L hL3 hs.1, fun q => absurd rfl q⟩) (fun r s hs => pc_chk (fun _ => pc_lt (fun S5 e5 => pc_chk (fun _ => pc_chk (fun _ => ?_)))))
    have hr := hs.2 r rfl
    rw [Int.toNat_natCast] at e5 ⊢
    have hL5 : fr (XFL m) S0 S5 := by rw [e5]; exact XFL_si (XFN_L hL3 hs.1) (by omega) (by omega)
    have a1 : gi S5 199 m = gi S3 199 m := by rw [e5, gi_off (by omega), hs.1 199 m (by omega)]
    have a2 : gi S5 201 m = r := by rw [e5, gi_at]
    have a4 : gi S5 192 3 = gi S3 192 3 := by rw [e5, gi_off (by omega), hs.1 192 3 (by omega)]
    refine pc_b3 (pf_num S5 (gi S5 201 m + 1) (gi S3 192 3 - 1)) (fun s hs => pc_some ⟨XFN_L hL5 hs.1, fun q => absurd rfl q⟩) (fun r2 s2 hs2 => pc_chk (fun _ => pc_lt (fun S7 e7 => pc_chk (fun _ => ?_))))
    have hr2 := hs2.2 r2 rfl
    have hL7 : fr (XFL m) S0 S7 := by rw [e7]; exact XFL_si (XFN_L hL5 hs2.1) (by omega) (by omega)
    have d1 : gi S7 199 m = gi S3 199 m := by rw [e7, gi_off (by omega), hs2.1 199 m (by omega)]; exact a1
    have d2 : gi S7 201 m = r := by rw [e7, gi_off (by omega), hs2.1 201 m (by omega)]; exact a2
    have d3 : gi S7 202 m = r2 := by rw [e7, gi_at]
    have d4 : gi S7 192 3 = gi S3 192 3 := by rw [e7, gi_off (by omega), hs2.1 192 3 (by omega)]; exact a4
    refine pc_b3 (pf_num S7 (gi S7 202 m) (gi S3 192 3 - 1)) (fun s hs => pc_some ⟨XFN_L hL7 hs.1, fun q => absurd rfl q⟩) (fun r3 s3 hs3 => pc_chk (fun _ => pc_lt (fun S9 e9 => ?_)))
    have hr3 := hs3.2 r3 rfl
    refine pf_rl480v S0 S9 m (by rw [e9]; exact XFL_si (XFN_L hL7 hs3.1) (by omega) (by omega)) (.inr (.inr (.inl ?_)))
    have b1 : gi s3 199 m = gi S7 199 m := hs3.1 199 m (by omega)
    have b2 : gi s3 201 m = gi S7 201 m := hs3.1 201 m (by omega)
    have b3 : gi s3 202 m = gi S7 202 m := hs3.1 202 m (by omega)
    have b4 : gi s3 192 3 = gi S7 192 3 := hs3.1 192 3 (by omega)
    rw [e9, gi_at, gi_off (by omega), gi_off (by omega), gi_off (by omega), gi_off (by omega)]
    omega
  · rw [Int.toNat_natCast] at c6
    exact pc_b3 (pf_readMove S0 S3 m hL3 c6) (fun s hs => pc_some ⟨hs.1, fun q => absurd rfl q⟩) (fun r s hs => pf_rl480v S0 s m hs.1 (hs.2 (fun q => nomatch q)))
  · rw [Int.toNat_natCast] at c1 c2 c3 c4 c5 c6
    have k5 : gi S3 199 m = 5 := by
      have e : gi S3 199 m = v := by rw [h3 199 m (by omega), e1, gi_at]
      have e' : gi S1 199 m = v := by rw [e1, gi_at]
      omega
    have h456 : pc (f_M_readLine_456 (m : Int) S3) (QFL m S0) := by
      unfold f_M_readLine_456
      exact pc_some ⟨fr_wrong hL3 (XFL_S m _ (by omega) (by omega)) (XFL_S m _ (by omega) (by omega)), fun q => absurd rfl q⟩
    have h466 : pc (f_M_readLine_466 (m : Int) S3) (QFL m S0) := by
      unfold f_M_readLine_466
      refine pc_chk (fun _ => pc_b3 (pf_num S3 0 ((m : Int) - 1)) (fun s hs => pc_some ⟨XFN_L hL3 hs.1, fun q => absurd rfl q⟩) (fun r s hs => pc_chk (fun _ => pc_lt (fun S5 e5 => ?_))))
      have hr := hs.2 r rfl
      rw [Int.toNat_natCast] at e5
      refine pf_rl480v S0 S5 m (by rw [e5]; exact XFL_si (XFN_L hL3 hs.1) (by omega) (by omega)) (.inr (.inr (.inr (.inr ?_))))
      have g1 : gi s 199 m = gi S3 199 m := hs.1 199 m (by omega)
      rw [e5, gi_at, gi_off (by omega)]
      omega
    exact pc_if (fun _ => pc_if (fun _ => h456) (fun _ => pc_chk (fun _ => pc_if (fun _ => h456) (fun _ => h466)))) (fun _ => h466)
theorem pf_rl150 (S0 S : SS) (m : Nat) (h : fr (XFL m) S0 S) : pc (f_M_readLine_150 (m : Int) S) (QFL m S0) := by
  have h249 : pc (f_M_readLine_249 (m : Int) S (gi S 192 3 - 1) (m : Int)) (QFL m S0) := by
    unfold f_M_readLine_249; exact pf_rl250 S0 S m h (-1) (by decide)
  unfold f_M_readLine_150
  refine pc_chk (fun _ => pf_b1 (fun _ => pc_if (fun _ => pf_b1 (fun _ => pc_if (fun _ => pf_b1 (fun _ => pc_if (fun _ => pf_b1 (fun _ => pc_if (fun _ => pf_b1 (fun _ => pc_if (fun _ => pf_b1 (fun _ => pc_if (fun _ => h249) (fun _ => pc_chk (fun _ => pc_if (fun _ => pf_rl250 S0 S m h 5 (by decide)) (fun _ => h249))))) (fun _ => pf_rl250 S0 S m h 4 (by decide)))) (fun _ => pf_rl250 S0 S m h 3 (by decide)))) (fun _ => pf_rl250 S0 S m h 2 (by decide)))) (fun _ => pf_rl250 S0 S m h 1 (by decide)))) (fun _ => pf_rl250 S0 S m h 0 (by decide))))
theorem pf_rl40 (S : SS) (m : Nat) (v : Int) : pc (f_M_readLine_40 (m : Int) S v) (QFL m S) := by
  have h0 := fr_refl (XFL m) S
  have hw : ∀ a c : Int, QFL m S (none, f_M_wrong S a c) := fun a c => ⟨fr_wrong h0 (XFL_S m _ (by omega) (by omega)) (XFL_S m _ (by omega) (by omega)), fun q => absurd rfl q⟩
  unfold f_M_readLine_40
  rw [Int.toNat_natCast]
  refine pc_if (fun _ => pc_some (hw _ _)) (fun _ => pc_if (fun _ => pc_some (hw _ _)) (fun _ => ?_))
  refine pc_chk (fun _ => pf_lt h0 (.inl ⟨by omega, by omega, rfl⟩) (fun S1 h1 => ?_))
  refine pc_chk (fun _ => pf_lt h1 (.inl ⟨by omega, by omega, rfl⟩) (fun S2 h2 => ?_))
  refine pc_chk (fun _ => pf_lt h2 (.inl ⟨by omega, by omega, rfl⟩) (fun S3 h3 => ?_))
  refine pc_chk (fun _ => pf_lt h3 (.inl ⟨by omega, by omega, rfl⟩) (fun S4 h4 => ?_))
  refine pc_chk (fun _ => pf_lt h4 (.inl ⟨by omega, by omega, rfl⟩) (fun S5 h5 => ?_))
  refine pc_chk (fun _ => pf_lt h5 (.inl ⟨by omega, by omega, rfl⟩) (fun S6 h6 => ?_))
  refine pc_chk (fun _ => pf_lt h6 (.inl ⟨by omega, by omega, rfl⟩) (fun S7 h7 => ?_))
  refine pc_b1 (pf_scan (XFL_S m) S S7 h7) (fun S8 h8 => pf_b1 (fun r => pc_chk (fun _ => pc_chk (fun _ => pf_lt h8 (.inl ⟨by omega, by omega, rfl⟩) (fun S13 h13 => pc_chk (fun _ => ?_))))))
  exact pc_if (fun _ => pf_rl150 S S13 m h13) (fun _ => pc_b1 (pf_scan (XFL_S m) S S13 h13) (fun S15 h15 => pf_rl150 S S15 m h15))
theorem pf_readLine (S : SS) (m : Nat) : pc (f_M_readLine S (m : Int)) (QFL m S) := by
  unfold f_M_readLine
  exact pf_b1 (fun _ => pc_if (fun _ => pf_b1 (fun _ => pc_if (fun _ => pf_b1 (fun _ => pc_if (fun _ => pf_rl40 S m _) (fun _ => pf_rl40 S m _))) (fun _ => pf_rl40 S m _))) (fun _ => pf_rl40 S m _))
/-- what reading marks may change: marks from n on -/
abbrev XFM (n : Nat) (r k : Nat) : Prop := (199 ≤ r ∧ r ≤ 208 ∧ n ≤ k) ∨ (r = 192 ∧ 9 ≤ k ∧ k ≤ 15)
theorem pfl_marks (S0 : SS) (n0 : Nat) (e0 : gi S0 192 27 = (n0 : Int)) : ∀ (n : Nat) (S : SS) (m : Nat), n0 ≤ m → fr (XFM n0) S0 S → NX S0 → (∀ j, n0 ≤ j → j < m → m_val S j) → pc (f_M_marks_13 n S (m : Int)) (fun u => NX u.2) := by
  intro n
  induction n with
  | zero => intro S m _ _ _ _ r e; exact absurd e (by simp [f_M_marks_13])
  | succ n ih =>
    intro S m hm h hN hv
    have old : ∀ S', fr (XFM n0) S0 S' → ∀ k : Nat, k < n0 → m_val S' k := fun S' h' k hk => m_val_fr (hN k (by omega)) (h' 199 k (by omega)) (h' 201 k (by omega)) (h' 202 k (by omega)) (h' 203 k (by omega)) (h' 192 3 (by omega))
    show pc (f_M_marks_13_b (f_M_marks_13 n) S (m : Int)) _
    unfold f_M_marks_13_b
    refine pc_if (fun _ => pc_chk (fun _ => pc_lt (fun S4 e4 => pc_some ?_))) (fun _ => pc_b3 (pf_readLine S m) (fun s hs => pc_some ?_) (fun a s hs => pc_chk (fun _ => ?_)))
    · intro k hk
      show m_val S4 k
      have hk : (k : Int) < gi S4 192 27 := hk
      rw [e4, gi_at] at hk
      have v : m_val S k := by
        by_cases c : k < n0
        · exact old S h k c
        · exact hv k (by omega) (by omega)
      rw [e4]
      exact m_val_fr v (gi_off (by omega)) (gi_off (by omega)) (gi_off (by omega)) (gi_off (by omega)) (gi_off (by omega))
    · have hS : fr (XFM n0) S0 s := fr_trans h (fr_mono hs.1 (fun r k q => by omega))
      intro k hk
      have hk : (k : Int) < gi s 192 27 := hk
      rw [hS 192 27 (by omega)] at hk
      exact old s hS k (by omega)
    · have hS : fr (XFM n0) S0 s := fr_trans h (fr_mono hs.1 (fun r k q => by omega))
      rw [show (m : Int) + 1 = ((m + 1 : Nat) : Int) by omega]
      refine ih s (m + 1) (by omega) hS hN (fun j h1 h2 => ?_)
      by_cases c : j = m
      · rw [c]; exact hs.2 (fun q => nomatch q)
      · exact m_val_fr (hv j h1 (by omega)) (hs.1 199 j (by omega)) (hs.1 201 j (by omega)) (hs.1 202 j (by omega)) (hs.1 203 j (by omega)) (hs.1 192 3 (by omega))
theorem nx_fr {X : Nat → Nat → Prop} {S S1 : SS} (hN : NX S) (h : fr X S S1) (hx : ∀ k, ¬ X 199 k ∧ ¬ X 201 k ∧ ¬ X 202 k ∧ ¬ X 203 k) (h3 : ¬ X 192 3) (h27 : ¬ X 192 27) : NX S1 := by
  intro k hk
  rw [h 192 27 h27] at hk
  exact m_val_fr (hN k hk) (h 199 k (hx k).1) (h 201 k (hx k).2.1) (h 202 k (hx k).2.2.1) (h 203 k (hx k).2.2.2) (h 192 3 h3)
abbrev XFB (r k : Nat) : Prop := r = 192 ∧ 8 ≤ k ∧ k ≤ 15
theorem nx_marks {b : Nat} (S : SS) (hC : MX b S) (hN : NX S) : pc (f_M_marks S) (fun u => NX u.2) := by
  have b27 := mx_192_27 hC
  unfold f_M_marks
  refine pc_lt (fun S1 e1 => ?_)
  have h1 : fr XFB S S1 := by rw [e1]; exact fr_begin (fun k a c => ⟨rfl, by omega, c⟩) ⟨rfl, by omega, by omega⟩ (fr_refl _ S)
  have n1 : NX S1 := nx_fr hN h1 (fun k => by omega) (by omega) (by omega)
  have e27 : gi S1 192 27 = gi S 192 27 := h1 192 27 (by omega)
  refine pc_b1 (pf_scan XFN_S S1 S1 (fr_refl _ S1)) (fun S4 h4 => ?_)
  rw [show gi S1 192 27 = (((gi S1 192 27).toNat : Nat) : Int) by omega]
  exact pfl_marks S1 (gi S1 192 27).toNat (by omega) FU S4 _ (Nat.le_refl _) (fr_mono h4 (fun r k q => .inr q)) n1 (fun j a d => by omega)
theorem nx_0 {S : SS} (h : gi S 192 27 = 0) : NX S := fun k hk => by omega
/-- what reading marks changes in the reference's ints, behind the beginning -/
abbrev XMK (r k : Nat) : Prop := (199 ≤ r ∧ r ≤ 208) ∨ (r = 192 ∧ ((9 ≤ k ∧ k ≤ 15) ∨ k = 27))
theorem pfm_marks (S0 : SS) : ∀ (n : Nat) (S : SS) (m : Nat), fr XMK S0 S → pc (f_M_marks_13 n S (m : Int)) (fun u => fr XMK S0 u.2) := by
  intro n
  induction n with
  | zero => intro S m _ r e; exact absurd e (by simp [f_M_marks_13])
  | succ n ih =>
    intro S m h
    show pc (f_M_marks_13_b (f_M_marks_13 n) S (m : Int)) _
    unfold f_M_marks_13_b
    refine pc_if (fun _ => pc_chk (fun _ => pf_lt h (by omega) (fun S4 h4 => pc_some h4))) (fun _ => pc_b3 (pf_readLine S m) (fun s hs => pc_some (fr_trans h (fr_mono hs.1 (fun r k q => by omega)))) (fun a s hs => pc_chk (fun _ => ?_)))
    rw [show (m : Int) + 1 = ((m + 1 : Nat) : Int) by omega]
    exact ih s (m + 1) (fr_trans h (fr_mono hs.1 (fun r k q => by omega)))
theorem fm_marks {b : Nat} (T : SS) (hM : MX b T) : pc (f_M_marks T) (fun u => gi u.2 192 8 = 0 ∧ ∀ r k, ¬ XMK r k → ¬ (r = 192 ∧ k = 8) → gi u.2 r k = gi T r k) := by
  have b27 := mx_192_27 hM
  unfold f_M_marks
  refine pc_lt (fun S1 e1 => ?_)
  have h1 : fr XFB T S1 := by rw [e1]; exact fr_begin (fun k a c => ⟨rfl, by omega, c⟩) ⟨rfl, by omega, by omega⟩ (fr_refl _ T)
  have z1 : gi S1 192 8 = 0 := by
    rw [e1]
    show gi (si (si (si (si (si T 192 9 (gi T 192 8)) 192 8 0) 192 11 0) 192 14 0) 192 15 (-1)) 192 8 = 0
    rw [gi_off (by omega), gi_off (by omega), gi_off (by omega), gi_at]
  have e27 : gi S1 192 27 = gi T 192 27 := h1 192 27 (by omega)
  refine pc_b1 (pf_scan XFN_S S1 S1 (fr_refl _ S1)) (fun S4 h4 => ?_)
  rw [show gi S1 192 27 = (((gi S1 192 27).toNat : Nat) : Int) by omega]
  refine pc_mono (pfm_marks S1 FU S4 _ (fr_mono h4 (fun r k q => by omega))) (fun u hu => ⟨by rw [hu 192 8 (by omega)]; exact z1, fun r k a c => ?_⟩)
  rw [hu r k a]; exact h1 r k (by omega)
