theorem tb_bv (x : BitVec 32) (s : Nat) (hs : s ≤ 24) : (x.ushiftRight s).signExtend 8 = (x.sshiftRight s).signExtend 8 := by
  apply BitVec.eq_of_getLsbD_eq
  intro i hi
  have h1 : (x.ushiftRight s).getLsbD i = x.getLsbD (s + i) := BitVec.getLsbD_ushiftRight x s i
  have h2 : (x.sshiftRight s).getLsbD i = x.getLsbD (s + i) := by
    rw [BitVec.getLsbD_sshiftRight]
    have a : ¬ (32 ≤ i) := by omega
    have c : s + i < 32 := by omega
    simp [a, c]
  rw [BitVec.getLsbD_signExtend, BitVec.getLsbD_signExtend]
  have a : i < 32 := by omega
  simp only [a, if_true, h1, h2]
theorem tb_24 (x : Int32) : ((x.toUInt32 >>> ((oi 24).toUInt32 &&& Int32.toUInt32 31)).toInt32).toInt8 = (x >>> (oi 24 &&& 31)).toInt8 := Int8.toBitVec_inj.1 (tb_bv x.toBitVec 24 (by decide))
theorem tb_16 (x : Int32) : ((x.toUInt32 >>> ((oi 16).toUInt32 &&& Int32.toUInt32 31)).toInt32).toInt8 = (x >>> (oi 16 &&& 31)).toInt8 := Int8.toBitVec_inj.1 (tb_bv x.toBitVec 16 (by decide))
theorem tb_8 (x : Int32) : ((x.toUInt32 >>> ((oi 8).toUInt32 &&& Int32.toUInt32 31)).toInt32).toInt8 = (x >>> (oi 8 &&& 31)).toInt8 := Int8.toBitVec_inj.1 (tb_bv x.toBitVec 8 (by decide))
theorem tb_0 (x : Int32) : ((x.toUInt32 >>> ((oi 0).toUInt32 &&& Int32.toUInt32 31)).toInt32).toInt8 = (x >>> (oi 0 &&& 31)).toInt8 := Int8.toBitVec_inj.1 (tb_bv x.toBitVec 0 (by decide))
theorem tb_eq (v s : Int) (hs : s = 24 ∨ s = 16 ∨ s = 8 ∨ s = 0) : tob (ushri v s) = tob (shri v s) := by
  have k : ∀ a c : Int32, a.toInt8 = c.toInt8 → tob a.toInt = tob c.toInt := by
    intro a c h
    unfold tob
    rw [oi_to rfl, oi_to rfl, h]
  rcases hs with e | e | e | e <;> subst e
  · exact k _ _ (tb_24 (oi v))
  · exact k _ _ (tb_16 (oi v))
  · exact k _ _ (tb_8 (oi v))
  · exact k _ _ (tb_0 (oi v))
/-- the tapes are alike -/
def TR (S T : SS) : Prop := gi S 1 1 = gi T 192 8 ∧ ∀ k : Nat, (k : Int) < gi S 1 1 → gi S 2 k = gi T 197 k
theorem sim4 (v : Int) : ∀ (n1 n2 : Nat) (S T : SS) (s : Int), TR S T → 0 ≤ gi S 1 1 → (s = 24 ∨ s = 16 ∨ s = 8 ∨ s = 0 ∨ s = -8) → 8 * gi S 1 1 + s + 8 ≤ 16000 → ∀ S1 T1, f_Tape_addFour_3 v n1 S s = some S1 → f_M_lay_3 v n2 T s = some T1 → TR S1 T1 ∧ 8 * gi S1 1 1 = 8 * gi S 1 1 + s + 8 := by
  intro n1
  induction n1 with
  | zero => intro n2 S T s _ _ _ _ S1 T1 h1 _; exact absurd h1 (by simp [f_Tape_addFour_3])
  | succ n1 ih =>
    intro n2 S T s hR h0 hs hb S1 T1 h1 h2
    cases n2 with
    | zero => exact absurd h2 (by simp [f_M_lay_3])
    | succ n2 =>
      have h1 : f_Tape_addFour_3_b v (f_Tape_addFour_3 v n1) S s = some S1 := h1
      have h2 : f_M_lay_3_b v (f_M_lay_3 v n2) T s = some T1 := h2
      unfold f_Tape_addFour_3_b at h1
      unfold f_M_lay_3_b at h2
      by_cases c : s < 0
      · rw [if_pos c] at h1 h2
        cases h1
        cases h2
        exact ⟨hR, by omega⟩
      · rw [if_neg c] at h2
        rw [if_neg c, if_neg (by omega), if_neg (by omega)] at h1
        obtain ⟨_, h1⟩ := w_chkE h1
        obtain ⟨_, h2⟩ := w_chkE h2
        unfold w_lt at h1 h2
        obtain ⟨_, h1⟩ := w_chkE h1
        obtain ⟨_, h2⟩ := w_chkE h2
        unfold f_Tape_addFour_49 at h1
        obtain ⟨_, h1⟩ := w_chkE h1
        obtain ⟨_, h2⟩ := w_chkE h2
        have a1 : gi (si S 2 (gi S 1 1).toNat (tob (tob (ushri v s)))) 1 1 = gi S 1 1 := gi_off (by omega)
        have a2 : gi (si T 197 (gi T 192 8).toNat (tob (tob (shri v s)))) 192 8 = gi T 192 8 := gi_off (by omega)
        rw [a1] at h1
        rw [a2] at h2
        have TR' : TR (si (si S 2 (gi S 1 1).toNat (tob (tob (ushri v s)))) 1 1 (gi S 1 1 + 1)) (si (si T 197 (gi T 192 8).toNat (tob (tob (shri v s)))) 192 8 (gi T 192 8 + 1)) := by
          refine ⟨by rw [gi_at, gi_at, hR.1], fun k hk => ?_⟩
          rw [gi_at] at hk
          have l1 : gi (si (si S 2 (gi S 1 1).toNat (tob (tob (ushri v s)))) 1 1 (gi S 1 1 + 1)) 2 k = gi (si S 2 (gi S 1 1).toNat (tob (tob (ushri v s)))) 2 k := gi_off (by omega)
          have l2 : gi (si (si T 197 (gi T 192 8).toNat (tob (tob (shri v s)))) 192 8 (gi T 192 8 + 1)) 197 k = gi (si T 197 (gi T 192 8).toNat (tob (tob (shri v s)))) 197 k := gi_off (by omega)
          rw [l1, l2, gi_si, gi_si, tb_eq v s (by omega), ← hR.1]
          by_cases e : k = (gi S 1 1).toNat
          · rw [if_pos ⟨rfl, e⟩, if_pos ⟨rfl, e⟩]
          · rw [if_neg (fun q => e q.2), if_neg (fun q => e q.2)]
            exact hR.2 k (by omega)
        have R := ih n2 _ _ (s + (-8)) TR' (by rw [gi_at]; omega) (by omega) (by rw [gi_at]; omega) S1 T1 h1 h2
        rw [gi_at] at R
        exact ⟨R.1, by omega⟩
theorem sim_feed (S T : SS) (a1 a2 a3 a4 a5 r t : Int) (S1 T1 : SS) (hR : TR S T) (h0 : 0 ≤ gi S 1 1) (h1 : f_MP_feed S a1 a2 a3 a4 a5 = some (r, S1)) (h2 : f_M_feed T a1 a2 a3 a4 a5 = some (t, T1)) : r = t ∧ TR S1 T1 := by
  unfold f_MP_feed f_Tape_addFour at h1
  unfold f_M_feed f_M_lay at h2
  obtain ⟨_, h1⟩ := w_chkE h1
  obtain ⟨_, h2⟩ := w_chkE h2
  rw [← hR.1] at h2
  by_cases c : gi S 1 1 + 20 ≤ 2000
  · rw [if_pos c] at h1 h2
    obtain ⟨Sa, ea, h1⟩ := w_b1E h1
    obtain ⟨Sb, eb, h1⟩ := w_b1E h1
    obtain ⟨Sc, ec, h1⟩ := w_b1E h1
    obtain ⟨Sd, ed, h1⟩ := w_b1E h1
    obtain ⟨Se, ee, h1⟩ := w_b1E h1
    obtain ⟨Ta, fa, h2⟩ := w_b1E h2
    obtain ⟨Tb, fb, h2⟩ := w_b1E h2
    obtain ⟨Tc, fc, h2⟩ := w_b1E h2
    obtain ⟨Td, fd, h2⟩ := w_b1E h2
    obtain ⟨Te, fe, h2⟩ := w_b1E h2
    have Ra := sim4 a1 FU FU S T 24 hR h0 (.inl rfl) (by omega) Sa Ta ea fa
    have Rb := sim4 a2 FU FU Sa Ta 24 Ra.1 (by omega) (.inl rfl) (by omega) Sb Tb eb fb
    have Rc := sim4 a3 FU FU Sb Tb 24 Rb.1 (by omega) (.inl rfl) (by omega) Sc Tc ec fc
    have Rd := sim4 a4 FU FU Sc Tc 24 Rc.1 (by omega) (.inl rfl) (by omega) Sd Td ed fd
    have Re := sim4 a5 FU FU Sd Td 24 Rd.1 (by omega) (.inl rfl) (by omega) Se Te ee fe
    cases h1
    cases h2
    exact ⟨Re.1.1, Re.1⟩
  · rw [if_neg c] at h1 h2
    cases h1
    cases h2
    exact ⟨rfl, hR⟩
theorem sim_end (S T : SS) (a1 r t : Int) (S1 T1 : SS) (hR : TR S T) (h1 : f_MP_end S a1 = some (r, S1)) (h2 : f_M_end T a1 = some (t, T1)) : r = t ∧ TR S1 T1 := by
  unfold f_MP_end at h1
  unfold f_M_end at h2
  have i := in01 T a1 0 (gi T 192 8)
  rw [← hR.1] at h2 i
  by_cases c : 0 ≤ a1 ∧ a1 ≤ gi S 1 1
  · rw [if_neg (by omega), if_pos (by omega)] at h1
    rw [if_neg (by omega)] at h2
    cases h1
    cases h2
    refine ⟨rfl, by rw [gi_at, gi_at], fun k hk => ?_⟩
    rw [gi_at] at hk
    rw [gi_off (by omega), gi_off (by omega)]
    exact hR.2 k (by omega)
  · rw [if_pos (by omega)] at h2
    cases h2
    by_cases d : a1 < 0
    · rw [if_pos d] at h1; cases h1; exact ⟨rfl, hR⟩
    · rw [if_neg d, if_neg (by omega)] at h1; cases h1; exact ⟨rfl, hR⟩
