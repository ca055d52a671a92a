/-- both sides hold: the class's bounds, the reference's bounds and numbers, and what the part adds -/
def JI (R : SS → SS → Prop) (S T : SS) : Prop := CX 0 S ∧ MX 0 T ∧ NX T ∧ R S T
theorem cs_feed {S : SS} (hC : CX 0 S) (a1 : Int) (a2 : Int) (a3 : Int) (a4 : Int) (a5 : Int) (h1 : i32 a1) (h2 : i32 a2) (h3 : i32 a3) (h4 : i32 a4) (h5 : i32 a5) : okk (f_MP_feed S a1 a2 a3 a4 a5) (fun u => CX 0 u.2) := ok_mono (ok_MP_feed S a1 a2 a3 a4 a5 hC h1 h2 h3 h4 h5) (fun _ h => h.1)
theorem ms_feed_ok {T : SS} (hM : MX 0 T) (hN : NX T) (a1 : Int) (a2 : Int) (a3 : Int) (a4 : Int) (a5 : Int) (h1 : i32 a1) (h2 : i32 a2) (h3 : i32 a3) (h4 : i32 a4) (h5 : i32 a5) : okk (f_M_feed T a1 a2 a3 a4 a5) (fun u => MX 0 u.2 ∧ NX u.2) := ok_mono (ok_and (ok_M_feed T a1 a2 a3 a4 a5 hM) (fz_feed T a1 a2 a3 a4 a5)) (fun _ h => ⟨h.1.1, nx_z hN h.2⟩)
theorem cs_end {S : SS} (hC : CX 0 S) (a1 : Int) (h1 : i32 a1) : okk (f_MP_end S a1) (fun u => CX 0 u.2) := ok_mono (ok_MP_end S a1 hC) (fun _ h => h.1)
theorem ms_end_ok {T : SS} (hM : MX 0 T) (hN : NX T) (a1 : Int) (h1 : i32 a1) : okk (f_M_end T a1) (fun u => MX 0 u.2 ∧ NX u.2) := ok_mono (ok_and (ok_M_end T a1 hM) (fz_end T a1)) (fun _ h => ⟨h.1.1, nx_z hN h.2⟩)
theorem cs_first {S : SS} (hC : CX 0 S)   : okk (f_MP_first S) (fun u => CX 0 u.2) := ok_mono (ok_MP_first S hC) (fun _ h => h.1)
theorem ms_first_ok {T : SS} (hM : MX 0 T) (hN : NX T)   : okk (f_M_first T) (fun u => MX 0 u.2 ∧ NX u.2) := ok_mono (ok_and (ok_M_first T hM) (nx_first T hN)) (fun _ h => ⟨h.1.1, h.2⟩)
theorem cs_second {S : SS} (hC : CX 0 S)   : okk (f_MP_second S) (fun u => CX 0 u.2) := ok_mono (ok_MP_second S hC) (fun _ h => h.1)
theorem ms_second_ok {T : SS} (hM : MX 0 T) (hN : NX T)   : okk (f_M_second T) (fun u => MX 0 u.2 ∧ NX u.2) := ok_mono (ok_and (ok_M_second T hM) (fz_second T)) (fun _ h => ⟨h.1.1, nx_z hN h.2⟩)
theorem cs_marks {S : SS} (hC : CX 0 S)   : okk (f_MP_marks S) (fun u => CX 0 u.2) := ok_mono (ok_MP_marks S hC) (fun _ h => h.1)
theorem ms_marks_ok {T : SS} (hM : MX 0 T) (hN : NX T)   : okk (f_M_marks T) (fun u => MX 0 u.2 ∧ NX u.2) := ok_mono (ok_and (ok_M_marks T hM) (nx_marks T hM hN)) (fun _ h => ⟨h.1.1, h.2⟩)
theorem cs_word {S : SS} (hC : CX 0 S) (a1 : Int) (a2 : Int) (h1 : i32 a1) (h2 : i32 a2) : okk (f_MP_word S a1 a2) (fun _ => True) := ok_mono (ok_MP_word S a1 a2 hC) (fun _ h => trivial)
theorem ms_word_ok {T : SS} (hM : MX 0 T) (hN : NX T) (a1 : Int) (a2 : Int) (h1 : i32 a1) (h2 : i32 a2) : okk (f_M_word T a1 a2) (fun u => MX 0 u.2 ∧ NX u.2) := ok_mono (ok_M_word hM hN a1 a2) (fun _ h => h)
theorem cs_mark {S : SS} (hC : CX 0 S) (a1 : Int) (a2 : Int) (h1 : i32 a1) (h2 : i32 a2) : okk (f_MP_mark S a1 a2) (fun _ => True) := ok_mono (ok_MP_mark S a1 a2 hC h2) (fun _ h => trivial)
theorem ms_mark_ok {T : SS} (hM : MX 0 T) (hN : NX T) (a1 : Int) (a2 : Int) (h1 : i32 a1) (h2 : i32 a2) : okk (f_M_mark T a1 a2) (fun u => MX 0 u.2 ∧ NX u.2) := ok_mono (ok_and (ok_M_mark T a1 a2 hM h2) (fz_mark T a1 a2 hM)) (fun _ h => ⟨h.1.1, nx_z hN h.2⟩)
theorem cs_answer {S : SS} (hC : CX 0 S) (a1 : Int) (a2 : Int) (h1 : i32 a1) (h2 : i32 a2) (h3 : a2 = 0 ∨ a2 = 1) : okk (f_MP_answer S a1 a2) (fun u => CX 0 u.2) := ok_mono (ok_MP_answer S a1 a2 hC) (fun _ h => h.1)
theorem ms_answer_ok {T : SS} (hM : MX 0 T) (hN : NX T) (a1 : Int) (a2 : Int) (h1 : i32 a1) (h2 : i32 a2) (h3 : a2 = 0 ∨ a2 = 1) : okk (f_M_answer T a1 a2) (fun u => MX 0 u.2 ∧ NX u.2) := ok_mono (ok_and (ok_M_answer T a1 a2 hM) (fz_answer T a1 a2 hM)) (fun _ h => ⟨h.1.1, nx_z hN h.2⟩)
theorem cs_rank {S : SS} (hC : CX 0 S) (a1 : Int) (a2 : Int) (h1 : i32 a1) (h2 : i32 a2) : okk (f_MP_rank S a1 a2) (fun u => CX 0 u.2) := ok_mono (ok_MP_rank S a1 a2 hC) (fun _ h => h.1)
theorem ms_rank_ok {T : SS} (hM : MX 0 T) (hN : NX T) (a1 : Int) (a2 : Int) (h1 : i32 a1) (h2 : i32 a2) : okk (f_M_rank T a1 a2) (fun u => MX 0 u.2 ∧ NX u.2) := ok_mono (ok_and (ok_M_rank T a1 a2 hM) (fz_rank T a1 a2)) (fun _ h => ⟨h.1.1, nx_z hN h.2⟩)
theorem cs_meet {S : SS} (hC : CX 0 S) (a1 : Int) (a2 : Int) (h1 : i32 a1) (h2 : i32 a2) : okk (f_MP_meet S a1 a2) (fun _ => True) := ok_mono (ok_MP_meet S a1 a2 hC) (fun _ h => trivial)
theorem ms_meet_ok {T : SS} (hM : MX 0 T) (hN : NX T) (a1 : Int) (a2 : Int) (h1 : i32 a1) (h2 : i32 a2) : okk (f_M_meet T a1 a2) (fun _ => True) := ok_mono (ok_M_meet T a1 a2 hM) (fun _ h => trivial)
theorem cs_within {S : SS} (hC : CX 0 S) (a1 : Int) (a2 : Int) (h1 : i32 a1) (h2 : i32 a2) : okk (f_MP_within S a1 a2) (fun _ => True) := ok_mono (ok_MP_within S a1 a2 hC) (fun _ h => trivial)
theorem ms_within_ok {T : SS} (hM : MX 0 T) (hN : NX T) (a1 : Int) (a2 : Int) (h1 : i32 a1) (h2 : i32 a2) : okk (f_M_within T a1 a2) (fun _ => True) := ok_mono (ok_M_within T a1 a2 hM) (fun _ h => trivial)
theorem cs_costs {S : SS} (hC : CX 0 S) (a1 : Int) (a2 : Int) (h1 : i32 a1) (h2 : i32 a2) : okk (f_MP_costs S a1 a2) (fun u => CX 0 u.2) := ok_mono (ok_MP_costs S a1 a2 hC) (fun _ h => h.1)
theorem ms_costs_ok {T : SS} (hM : MX 0 T) (hN : NX T) (a1 : Int) (a2 : Int) (h1 : i32 a1) (h2 : i32 a2) : okk (f_M_costs T a1 a2) (fun u => MX 0 u.2 ∧ NX u.2) := ok_mono (ok_and (ok_M_costs T a1 a2 hM) (fz_costs T a1 a2)) (fun _ h => ⟨h.1.1, nx_z hN h.2⟩)
theorem cs_hold {S : SS} (hC : CX 0 S)   : okk (f_MP_hold S) (fun u => CX 0 u.2) := ok_mono (ok_MP_hold S hC) (fun _ h => h.1)
theorem ms_hold_ok {T : SS} (hM : MX 0 T) (hN : NX T)   : okk (f_M_hold T) (fun u => MX 0 u.2 ∧ NX u.2) := ok_mono (ok_M_hold hM hN) (fun _ h => h)
theorem cs_held {S : SS} (hC : CX 0 S) (a1 : Int) (h1 : i32 a1) : okk (f_MP_held S a1) (fun _ => True) := ok_mono (ok_MP_held S a1 hC h1) (fun _ h => trivial)
theorem ms_held_ok {T : SS} (hM : MX 0 T) (hN : NX T) (a1 : Int) (h1 : i32 a1) : okk (f_M_held T a1) (fun _ => True) := ok_mono (ok_M_held T a1 hM h1) (fun _ h => trivial)
theorem cs_unasked {S : SS} (hC : CX 0 S) (a1 : Int) (a2 : Int) (h1 : i32 a1) (h2 : i32 a2) : okk (f_MP_unasked S a1 a2) (fun _ => True) := ok_mono (ok_MP_unasked S a1 a2 hC) (fun _ h => trivial)
theorem ms_unasked_ok {T : SS} (hM : MX 0 T) (hN : NX T) (a1 : Int) (a2 : Int) (h1 : i32 a1) (h2 : i32 a2) : okk (f_M_unasked T a1 a2) (fun _ => True) := ok_mono (ok_M_unasked T a1 a2 hM) (fun _ h => trivial)
theorem cs_distance {S : SS} (hC : CX 0 S) (a1 : Int) (a2 : Int) (h1 : i32 a1) (h2 : i32 a2) : okk (f_MP_distance S a1 a2) (fun u => CX 0 u.2) := ok_mono (ok_MP_distance S a1 a2 hC) (fun _ h => h.1)
theorem ms_distance_ok {T : SS} (hM : MX 0 T) (hN : NX T) (a1 : Int) (a2 : Int) (h1 : i32 a1) (h2 : i32 a2) : okk (f_M_distance T a1 a2) (fun u => MX 0 u.2 ∧ NX u.2) := ok_mono (ok_M_distance hM hN a1 a2) (fun _ h => h)
theorem cs_next {S : SS} (hC : CX 0 S)   : okk (f_MP_next S) (fun u => CX 0 u.2) := ok_mono (ok_MP_next S hC) (fun _ h => h.1)
theorem ms_next_ok {T : SS} (hM : MX 0 T) (hN : NX T)   : okk (f_M_next T) (fun u => MX 0 u.2 ∧ NX u.2) := ok_mono (ok_and (ok_M_next T hM) (nx_next T hN)) (fun _ h => ⟨h.1.1, h.2⟩)
theorem cs_error {S : SS} (hC : CX 0 S) (a1 : Int) (a2 : Int) (h1 : i32 a1) (h2 : i32 a2) (h3 : a2 = 0 ∨ a2 = 1) : okk (f_MP_error S a1 a2) (fun u => CX 0 u.2) := ok_mono (ok_MP_error S a1 a2 hC h3) (fun _ h => h.1)
theorem ms_error_ok {T : SS} (hM : MX 0 T) (hN : NX T) (a1 : Int) (a2 : Int) (h1 : i32 a1) (h2 : i32 a2) (h3 : a2 = 0 ∨ a2 = 1) : okk (f_M_error T a1 a2) (fun u => MX 0 u.2 ∧ NX u.2) := ok_mono (ok_and (ok_M_error T a1 a2 hM h3) (fz_error T a1 a2)) (fun _ h => ⟨h.1.1, nx_z hN h.2⟩)
theorem cs_price {S : SS} (hC : CX 0 S) (a1 : Int) (a2 : Int) (h1 : i32 a1) (h2 : i32 a2) : okk (f_MP_price S a1 a2) (fun u => CX 0 u.2) := ok_mono (ok_MP_price S a1 a2 hC) (fun _ h => h.1)
theorem ms_price_ok {T : SS} (hM : MX 0 T) (hN : NX T) (a1 : Int) (a2 : Int) (h1 : i32 a1) (h2 : i32 a2) : okk (f_M_price T a1 a2) (fun u => MX 0 u.2 ∧ NX u.2) := ok_mono (ok_and (ok_M_price T a1 a2 hM) (fz_price T a1 a2)) (fun _ h => ⟨h.1.1, nx_z hN h.2⟩)
theorem cs_pays {S : SS} (hC : CX 0 S) (a1 : Int) (h1 : i32 a1) : okk (f_MP_pays S a1) (fun _ => True) := ok_mono (ok_MP_pays S a1 hC) (fun _ h => trivial)
theorem ms_pays_ok {T : SS} (hM : MX 0 T) (hN : NX T) (a1 : Int) (h1 : i32 a1) : okk (f_M_pays T a1) (fun u => MX 0 u.2 ∧ NX u.2) := ok_mono (ok_M_pays hM hN a1) (fun _ h => h)
theorem cs_count {S : SS} (hC : CX 0 S) (a1 : Int) (h1 : i32 a1) : okk (f_MP_count S a1) (fun _ => True) := ok_mono (ok_MP_count S a1 hC) (fun _ h => trivial)
theorem ms_count_ok {T : SS} (hM : MX 0 T) (hN : NX T) (a1 : Int) (h1 : i32 a1) : okk (f_M_count T a1) (fun u => MX 0 u.2 ∧ NX u.2) := ok_mono (ok_M_count hM hN a1) (fun _ h => h)
theorem tb_bv (x : BitVec 32) (s : Nat) (hs : s ≤ 24) : (x.ushiftRight s).signExtend 8 = (x.sshiftRight s).signExtend 8 := by
  apply BitVec.eq_of_getLsbD_eq
  intro i hi
  have h1 : (x.ushiftRight s).getLsbD i = x.getLsbD (s + i) := BitVec.getLsbD_ushiftRight x s i
  have h2 : (x.sshiftRight s).getLsbD i = x.getLsbD (s + i) := by
    rw [BitVec.getLsbD_sshiftRight]
    have a : ¬ (32 ≤ i) := by omega
    have c : s + i < 32 := by omega
    simp [a, c]
  rw [BitVec.getLsbD_signExtend, BitVec.getLsbD_signExtend]
  have a : i < 32 := by omega
  simp only [a, if_true, h1, h2]
theorem tb_24 (x : Int32) : ((x.toUInt32 >>> ((oi 24).toUInt32 &&& Int32.toUInt32 31)).toInt32).toInt8 = (x >>> (oi 24 &&& 31)).toInt8 := Int8.toBitVec_inj.1 (tb_bv x.toBitVec 24 (by decide))
theorem tb_16 (x : Int32) : ((x.toUInt32 >>> ((oi 16).toUInt32 &&& Int32.toUInt32 31)).toInt32).toInt8 = (x >>> (oi 16 &&& 31)).toInt8 := Int8.toBitVec_inj.1 (tb_bv x.toBitVec 16 (by decide))
theorem tb_8 (x : Int32) : ((x.toUInt32 >>> ((oi 8).toUInt32 &&& Int32.toUInt32 31)).toInt32).toInt8 = (x >>> (oi 8 &&& 31)).toInt8 := Int8.toBitVec_inj.1 (tb_bv x.toBitVec 8 (by decide))
theorem tb_0 (x : Int32) : ((x.toUInt32 >>> ((oi 0).toUInt32 &&& Int32.toUInt32 31)).toInt32).toInt8 = (x >>> (oi 0 &&& 31)).toInt8 := Int8.toBitVec_inj.1 (tb_bv x.toBitVec 0 (by decide))
theorem tb_eq (v s : Int) (hs : s = 24 ∨ s = 16 ∨ s = 8 ∨ s = 0) : tob (ushri v s) = tob (shri v s) := by
  have k : ∀ a c : Int32, a.toInt8 = c.toInt8 → tob a.toInt = tob c.toInt := by
    intro a c h
    unfold tob
    rw [oi_to rfl, oi_to rfl, h]
  rcases hs with e | e | e | e <;> subst e
  · exact k _ _ (tb_24 (oi v))
  · exact k _ _ (tb_16 (oi v))
  · exact k _ _ (tb_8 (oi v))
  · exact k _ _ (tb_0 (oi v))
/-- the tapes are alike -/
def TR (S T : SS) : Prop := gi S 1 1 = gi T 192 8 ∧ ∀ k : Nat, (k : Int) < gi S 1 1 → gi S 2 k = gi T 197 k
theorem sim4 (v : Int) : ∀ (n1 n2 : Nat) (S T : SS) (s : Int), TR S T → 0 ≤ gi S 1 1 → (s = 24 ∨ s = 16 ∨ s = 8 ∨ s = 0 ∨ s = -8) → 8 * gi S 1 1 + s + 8 ≤ 16000 → ∀ S1 T1, f_Tape_addFour_3 v n1 S s = some S1 → f_M_lay_3 v n2 T s = some T1 → TR S1 T1 ∧ 8 * gi S1 1 1 = 8 * gi S 1 1 + s + 8 := by
  intro n1
  induction n1 with
  | zero => intro n2 S T s _ _ _ _ S1 T1 h1 _; exact absurd h1 (by simp [f_Tape_addFour_3])
  | succ n1 ih =>
    intro n2 S T s hR h0 hs hb S1 T1 h1 h2
    cases n2 with
    | zero => exact absurd h2 (by simp [f_M_lay_3])
    | succ n2 =>
      have h1 : f_Tape_addFour_3_b v (f_Tape_addFour_3 v n1) S s = some S1 := h1
      have h2 : f_M_lay_3_b v (f_M_lay_3 v n2) T s = some T1 := h2
      unfold f_Tape_addFour_3_b at h1
      unfold f_M_lay_3_b at h2
      by_cases c : s < 0
      · rw [if_pos c] at h1 h2
        cases h1
        cases h2
        exact ⟨hR, by omega⟩
      · rw [if_neg c] at h2
        rw [if_neg c, if_neg (by omega), if_neg (by omega)] at h1
        obtain ⟨_, h1⟩ := w_chkE h1
        obtain ⟨_, h2⟩ := w_chkE h2
        unfold w_lt at h1 h2
        obtain ⟨_, h1⟩ := w_chkE h1
        obtain ⟨_, h2⟩ := w_chkE h2
        unfold f_Tape_addFour_49 at h1
        obtain ⟨_, h1⟩ := w_chkE h1
        obtain ⟨_, h2⟩ := w_chkE h2
        have a1 : gi (si S 2 (gi S 1 1).toNat (tob (tob (ushri v s)))) 1 1 = gi S 1 1 := gi_off (by omega)
        have a2 : gi (si T 197 (gi T 192 8).toNat (tob (tob (shri v s)))) 192 8 = gi T 192 8 := gi_off (by omega)
        rw [a1] at h1
        rw [a2] at h2
        have TR' : TR (si (si S 2 (gi S 1 1).toNat (tob (tob (ushri v s)))) 1 1 (gi S 1 1 + 1)) (si (si T 197 (gi T 192 8).toNat (tob (tob (shri v s)))) 192 8 (gi T 192 8 + 1)) := by
          refine ⟨by rw [gi_at, gi_at, hR.1], fun k hk => ?_⟩
          rw [gi_at] at hk
          have l1 : gi (si (si S 2 (gi S 1 1).toNat (tob (tob (ushri v s)))) 1 1 (gi S 1 1 + 1)) 2 k = gi (si S 2 (gi S 1 1).toNat (tob (tob (ushri v s)))) 2 k := gi_off (by omega)
          have l2 : gi (si (si T 197 (gi T 192 8).toNat (tob (tob (shri v s)))) 192 8 (gi T 192 8 + 1)) 197 k = gi (si T 197 (gi T 192 8).toNat (tob (tob (shri v s)))) 197 k := gi_off (by omega)
          rw [l1, l2, gi_si, gi_si, tb_eq v s (by omega), ← hR.1]
          by_cases e : k = (gi S 1 1).toNat
          · rw [if_pos ⟨rfl, e⟩, if_pos ⟨rfl, e⟩]
          · rw [if_neg (fun q => e q.2), if_neg (fun q => e q.2)]
            exact hR.2 k (by omega)
        have R := ih n2 _ _ (s + (-8)) TR' (by rw [gi_at]; omega) (by omega) (by rw [gi_at]; omega) S1 T1 h1 h2
        rw [gi_at] at R
        exact ⟨R.1, by omega⟩
theorem sim_feed (S T : SS) (a1 a2 a3 a4 a5 r t : Int) (S1 T1 : SS) (hR : TR S T) (h0 : 0 ≤ gi S 1 1) (h1 : f_MP_feed S a1 a2 a3 a4 a5 = some (r, S1)) (h2 : f_M_feed T a1 a2 a3 a4 a5 = some (t, T1)) : r = t ∧ TR S1 T1 := by
  unfold f_MP_feed f_Tape_addFour at h1
  unfold f_M_feed f_M_lay at h2
  obtain ⟨_, h1⟩ := w_chkE h1
  obtain ⟨_, h2⟩ := w_chkE h2
  rw [← hR.1] at h2
  by_cases c : gi S 1 1 + 20 ≤ 2000
  · rw [if_pos c] at h1 h2
    obtain ⟨Sa, ea, h1⟩ := w_b1E h1
    obtain ⟨Sb, eb, h1⟩ := w_b1E h1
    obtain ⟨Sc, ec, h1⟩ := w_b1E h1
    obtain ⟨Sd, ed, h1⟩ := w_b1E h1
    obtain ⟨Se, ee, h1⟩ := w_b1E h1
    obtain ⟨Ta, fa, h2⟩ := w_b1E h2
    obtain ⟨Tb, fb, h2⟩ := w_b1E h2
    obtain ⟨Tc, fc, h2⟩ := w_b1E h2
    obtain ⟨Td, fd, h2⟩ := w_b1E h2
    obtain ⟨Te, fe, h2⟩ := w_b1E h2
    have Ra := sim4 a1 FU FU S T 24 hR h0 (.inl rfl) (by omega) Sa Ta ea fa
    have Rb := sim4 a2 FU FU Sa Ta 24 Ra.1 (by omega) (.inl rfl) (by omega) Sb Tb eb fb
    have Rc := sim4 a3 FU FU Sb Tb 24 Rb.1 (by omega) (.inl rfl) (by omega) Sc Tc ec fc
    have Rd := sim4 a4 FU FU Sc Tc 24 Rc.1 (by omega) (.inl rfl) (by omega) Sd Td ed fd
    have Re := sim4 a5 FU FU Sd Td 24 Rd.1 (by omega) (.inl rfl) (by omega) Se Te ee fe
    cases h1
    cases h2
    exact ⟨Re.1.1, Re.1⟩
  · rw [if_neg c] at h1 h2
    cases h1
    cases h2
    exact ⟨rfl, hR⟩
theorem sim_end (S T : SS) (a1 r t : Int) (S1 T1 : SS) (hR : TR S T) (h1 : f_MP_end S a1 = some (r, S1)) (h2 : f_M_end T a1 = some (t, T1)) : r = t ∧ TR S1 T1 := by
  unfold f_MP_end at h1
  unfold f_M_end at h2
  have i := in01 T a1 0 (gi T 192 8)
  rw [← hR.1] at h2 i
  by_cases c : 0 ≤ a1 ∧ a1 ≤ gi S 1 1
  · rw [if_neg (by omega), if_pos (by omega)] at h1
    rw [if_neg (by omega)] at h2
    cases h1
    cases h2
    refine ⟨rfl, by rw [gi_at, gi_at], fun k hk => ?_⟩
    rw [gi_at] at hk
    rw [gi_off (by omega), gi_off (by omega)]
    exact hR.2 k (by omega)
  · rw [if_pos (by omega)] at h2
    cases h2
    by_cases d : a1 < 0
    · rw [if_pos d] at h1; cases h1; exact ⟨rfl, hR⟩
    · rw [if_neg d, if_neg (by omega)] at h1; cases h1; exact ⟨rfl, hR⟩
theorem ow_all : ∀ n : Nat, n < 256 → f_MP_isOfWord SZ (n : Int) = some (f_M_isOfWord SZ (n : Int)) := by decide +kernel
theorem ioc_S (S : SS) (i0 : Nat) (v1 v2 v3 : Int) : ∀ (n : Nat) (a c : Int), f_indexOfChar_7 S i0 v1 v2 v3 n a c = f_indexOfChar_7 SZ i0 v1 v2 v3 n a c := by
  intro n
  induction n with
  | zero => intro a c; rfl
  | succ n ih =>
    intro a c
    show f_indexOfChar_7_b S i0 v1 v2 v3 (f_indexOfChar_7 S i0 v1 v2 v3 n) a c = f_indexOfChar_7_b SZ i0 v1 v2 v3 (f_indexOfChar_7 SZ i0 v1 v2 v3 n) a c
    unfold f_indexOfChar_7_b
    rw [ih]
theorem idx_S (S : SS) (i0 : Nat) (v : Int) : f_indexOf S i0 v = f_indexOf SZ i0 v := by
  unfold f_indexOf f_indexOf2 f_l1indexOf f_indexOfChar
  simp only [ioc_S S]
  rfl
theorem ow_eq (S T : SS) (v : Int) (h : 0 ≤ v ∧ v ≤ 255) : f_MP_isOfWord S v = some (f_M_isOfWord T v) := by
  have e := ow_all v.toNat (by omega)
  rw [show ((v.toNat : Nat) : Int) = v by omega] at e
  have e1 : f_MP_isOfWord S v = f_MP_isOfWord SZ v := by
    unfold f_MP_isOfWord f_MP_isOfWord_28
    rw [idx_S S]
    rfl
  rw [e1]
  exact e
theorem cby {S : SS} {i : Int} (h0 : 0 ≤ i) (h1 : i < gi S 1 1) (h2 : gi S 1 1 ≤ 2000) : f_Tape_byteAt S i = some (andi (gi S 2 i.toNat) 255) := by
  unfold f_Tape_byteAt
  rw [if_neg (by omega), if_neg (by omega), if_pos (by omega), w_chkP (by omega)]
theorem mby {T : SS} {i : Int} (h0 : 0 ≤ i) (h1 : i < gi T 192 9) (h2 : gi T 192 9 ≤ 2000) : f_M_byteAt T i = some (andi (gi T 197 i.toNat) 255) := by
  unfold f_M_byteAt
  rw [if_neg (by omega), w_chkP (by omega)]
theorem sh_add {S S1 : SS} {q : Nat} {w : Int64} (h : f_Sheet_add S q w = some S1) (h0 : 0 ≤ gi S q 1) (h1 : gi S q 1 < cap q) : S1 = si (sl S (q + 1) (gi S q 1).toNat w) q 1 (gi S q 1 + 1) := by
  unfold f_Sheet_add at h
  rw [if_neg (by omega), if_neg (by omega)] at h
  obtain ⟨_, h⟩ := w_chkE h
  unfold w_lt at h
  obtain ⟨_, h⟩ := w_chkE h
  cases h
  rfl
/-- the tape that is being read is alike -/
def TB (S T : SS) : Prop := gi S 1 1 = gi T 192 9 ∧ gi S 1 1 ≤ 2000 ∧ ∀ k : Nat, (k : Int) < gi S 1 1 → gi S 2 k = gi T 197 k
def FE (S T : SS) : Prop := gi S 3 0 = gi T 192 14 ∧ gi S 3 1 = gi T 192 15
/-- the sheet that is being read is alike, its last word still open when len is above 0 -/
def SR (S T : SS) (w : Int64) (len cnt most : Int) : Prop := 0 ≤ gi S 175 1 ∧ 0 ≤ len ∧ ((len = 0 ∧ w = 0 ∧ cnt = gi S 175 1) ∨ (0 < len ∧ cnt = gi S 175 1 + 1 ∧ w = gl T 198 (gi S 175 1).toNat)) ∧ cnt ≤ most ∧ ∀ k : Nat, (k : Int) < gi S 175 1 → gl S 176 k = gl T 198 k
theorem sr_add {S S1 T : SS} {w : Int64} {len cnt most : Int} (hm : most ≤ 150) (h : SR S T w len cnt most) (e : f_SheetReader_addWord S w len = some S1) : gi S1 175 1 = cnt ∧ (∀ k : Nat, (k : Int) < cnt → gl S1 176 k = gl T 198 k) ∧ (∀ r k, ¬ (r = 175 ∧ k = 1) → gi S1 r k = gi S r k) := by
  obtain ⟨s1, s2, s3, s4, s5⟩ := h
  unfold f_SheetReader_addWord at e
  rcases s3 with ⟨a, _, c⟩ | ⟨a, c, d⟩
  · rw [if_pos (by omega)] at e
    cases e
    exact ⟨c.symm, fun k hk => s5 k (by omega), fun _ _ _ => rfl⟩
  · rw [if_neg (by omega)] at e
    obtain ⟨S2, e2, e⟩ := w_b1E e
    cases e
    have cp : cap 175 = 150 := by decide
    have q := sh_add e2 s1 (by omega)
    rw [q]
    refine ⟨by rw [gi_at]; omega, fun k hk => ?_, fun r k hrk => ?_⟩
    · show gl (sl S 176 _ w) 176 k = _
      rw [gl_slN]
      by_cases e : k = (gi S 175 1).toNat
      · rw [if_pos ⟨rfl, e⟩, d, e]
      · rw [if_neg (fun q => e q.2)]
        exact s5 k (by omega)
    · rw [gi_off hrk]; rfl
theorem sim_rp (most : Int) (hm : 0 ≤ most ∧ most ≤ 150) : ∀ (n1 n2 : Nat) (S T : SS) (w : Int64) (len i cnt : Int), TB S T → FE S T → SR S T w len cnt most → 0 ≤ i → ∀ r S1 o T1, f_SheetReader_readProof_20 most n1 S w len i = some (r, S1) → f_M_readProof_7 most n2 T cnt len i = some (o, T1) → FE S1 T1 ∧ ((r = 1 ∧ o = some (gi S1 175 1) ∧ 0 ≤ gi S1 175 1 ∧ gi S1 175 1 ≤ most ∧ ∀ k : Nat, (k : Int) < gi S1 175 1 → gl S1 176 k = gl T1 198 k) ∨ (r = 0 ∧ o = none)) := by
  intro n1
  induction n1 with
  | zero => intro n2 S T w len i cnt _ _ _ _ r S1 o T1 h1 _; exact absurd h1 (by simp [f_SheetReader_readProof_20])
  | succ n1 ih =>
    intro n2 S T w len i cnt hB hF hR h0 r S1 o T1 h1 h2
    cases n2 with
    | zero => exact absurd h2 (by simp [f_M_readProof_7])
    | succ n2 =>
      have h1 : f_SheetReader_readProof_20_b most (f_SheetReader_readProof_20 most n1) S w len i = some (r, S1) := h1
      have h2 : f_M_readProof_7_b most (f_M_readProof_7 most n2) T cnt len i = some (o, T1) := h2
      unfold f_SheetReader_readProof_20_b at h1
      unfold f_M_readProof_7_b at h2
      rw [← hB.1] at h2
      by_cases c : gi S 1 1 ≤ i
      · rw [if_pos c] at h1 h2
        obtain ⟨S2, e2, h1⟩ := w_b1E h1
        have A := sr_add hm.2 hR e2
        cases h1
        cases h2
        refine ⟨⟨by rw [A.2.2 3 0 (by omega)]; exact hF.1, by rw [A.2.2 3 1 (by omega)]; exact hF.2⟩, .inl ⟨rfl, by rw [A.1], ?_, by rw [A.1]; exact hR.2.2.2.1, fun k hk => A.2.1 k (by rw [← A.1]; exact hk)⟩⟩
        rw [A.1]
        obtain ⟨s1, s2, s3, s4, s5⟩ := hR
        omega
      · rw [if_neg c] at h1 h2
        have hx := hB.2.2 i.toNat (by omega)
        rw [w_b1_is (cby h0 (by omega) hB.2.1)] at h1
        rw [w_b1_is (mby h0 (by rw [← hB.1]; omega) (by rw [← hB.1]; exact hB.2.1)), ← hx] at h2
        have b255 := andi255 (gi S 2 i.toNat)
        generalize andi (gi S 2 i.toNat) 255 = ch at h1 h2 b255
        have ebl : f_M_isBlank T ch = f_MP_isBlank S ch := rfl
        rw [ebl] at h2
        by_cases c2 : f_MP_isBlank S ch = 0
        · rw [if_pos c2] at h1 h2
          rw [w_b1_is (ow_eq S T ch b255)] at h1
          have hp : 0 ≤ i + 1 := by omega
          have bad : ∀ kd : Int, (w_b2 (f_Fault_tellOf S kd i) (fun r2_z S1_z => w_chk (r2_z = 0 ∨ r2_z = 1) (some (r2_z, S1_z)))) = some (r, S1) → w_lt (f_M_wrong T kd i) (fun S1_z => some ((none : Option Int), S1_z)) = some (o, T1) → FE S1 T1 ∧ ((r = 1 ∧ o = some (gi S1 175 1) ∧ 0 ≤ gi S1 175 1 ∧ gi S1 175 1 ≤ most ∧ ∀ k : Nat, (k : Int) < gi S1 175 1 → gl S1 176 k = gl T1 198 k) ∨ (r = 0 ∧ o = none)) := by
            intro kd g1 g2
            obtain ⟨a, t, e, g1⟩ := w_b2E g1
            unfold f_Fault_tellOf at e
            cases e
            obtain ⟨_, g1⟩ := w_chkE g1
            cases g1
            cases g2
            refine ⟨⟨?_, ?_⟩, .inr ⟨rfl, rfl⟩⟩
            · show gi (si (si S 3 0 kd) 3 1 i) 3 0 = gi (si (si T 192 14 kd) 192 15 i) 192 14
              rw [gi_off (by omega), gi_at, gi_off (by omega), gi_at]
            · show gi (si (si S 3 0 kd) 3 1 i) 3 1 = gi (si (si T 192 14 kd) 192 15 i) 192 15
              rw [gi_at, gi_at]
          by_cases c3 : f_M_isOfWord T ch = 0
          · rw [if_pos c3] at h1 h2
            unfold f_SheetReader_readProof_77 at h1
            unfold f_M_readProof_51 at h2
            exact bad 1 h1 h2
          · rw [if_neg c3] at h1 h2
            by_cases c4 : len = 8
            · rw [if_pos c4] at h1 h2
              unfold f_SheetReader_readProof_77 at h1
              unfold f_M_readProof_51 at h2
              exact bad 1 h1 h2
            · rw [if_neg c4] at h1 h2
              obtain ⟨s1, s2, s3, s4, s5⟩ := hR
              by_cases c5 : len = 0
              · rw [if_pos c5] at h1 h2
                have s3 : w = 0 ∧ cnt = gi S 175 1 := by
                  rcases s3 with s3 | s3
                  · exact s3.2
                  · omega
                by_cases c6 : gi S 175 1 < most
                · rw [if_pos c6] at h1
                  rw [if_neg (by omega)] at h2
                  unfold f_SheetReader_readProof_109 f_SheetReader_readProof_123 at h1
                  obtain ⟨_, h1⟩ := w_chkE h1
                  obtain ⟨_, h1⟩ := w_chkE h1
                  obtain ⟨_, h2⟩ := w_chkE h2
                  unfold w_lt f_M_readProof_86 at h2
                  obtain ⟨_, h2⟩ := w_chkE h2
                  obtain ⟨_, h2⟩ := w_chkE h2
                  obtain ⟨_, h2⟩ := w_chkE h2
                  obtain ⟨_, h2⟩ := w_chkE h2
                  obtain ⟨_, h2⟩ := w_chkE h2
                  unfold w_lt f_M_readProof_112 at h2
                  obtain ⟨_, h2⟩ := w_chkE h2
                  obtain ⟨_, h2⟩ := w_chkE h2
                  rw [show cnt + 1 - 1 = cnt by omega] at h2
                  refine ih n2 S (sl (sl T 198 cnt.toNat 0) 198 cnt.toNat (lsh (gl (sl T 198 cnt.toNat 0) 198 cnt.toNat) 8 ||| i2l ch)) _ (len + 1) (i + 1) (cnt + 1) hB hF ⟨s1, by omega, .inr ⟨by omega, by omega, ?_⟩, by omega, fun k hk => ?_⟩ hp r S1 o T1 h1 h2
                  · rw [gl_slN, if_pos ⟨rfl, by rw [s3.2]⟩, gl_slN, if_pos ⟨rfl, rfl⟩, s3.1]
                  · rw [gl_slN, if_neg (fun q => by omega), gl_slN, if_neg (fun q => by omega)]
                    exact s5 k hk
                · rw [if_neg c6] at h1
                  rw [if_pos (by omega)] at h2
                  exact bad 3 h1 h2
              · rw [if_neg c5] at h1 h2
                have s3 : cnt = gi S 175 1 + 1 ∧ w = gl T 198 (gi S 175 1).toNat := by
                  rcases s3 with s3 | s3
                  · omega
                  · exact s3.2
                unfold f_SheetReader_readProof_109 f_SheetReader_readProof_123 at h1
                obtain ⟨_, h1⟩ := w_chkE h1
                obtain ⟨_, h1⟩ := w_chkE h1
                unfold f_M_readProof_86 at h2
                obtain ⟨_, h2⟩ := w_chkE h2
                obtain ⟨_, h2⟩ := w_chkE h2
                obtain ⟨_, h2⟩ := w_chkE h2
                obtain ⟨_, h2⟩ := w_chkE h2
                unfold w_lt f_M_readProof_112 at h2
                obtain ⟨_, h2⟩ := w_chkE h2
                obtain ⟨_, h2⟩ := w_chkE h2
                rw [show cnt - 1 = gi S 175 1 by omega] at h2
                refine ih n2 S (sl T 198 (gi S 175 1).toNat (lsh (gl T 198 (gi S 175 1).toNat) 8 ||| i2l ch)) _ (len + 1) (i + 1) cnt hB hF ⟨s1, by omega, .inr ⟨by omega, by omega, ?_⟩, by omega, fun k hk => ?_⟩ hp r S1 o T1 h1 h2
                · rw [gl_slN, if_pos ⟨rfl, rfl⟩, s3.2]
                · rw [gl_slN, if_neg (fun q => by omega)]
                  exact s5 k hk
        · rw [if_neg c2] at h1 h2
          obtain ⟨S2, e2, h1⟩ := w_b1E h1
          have A := sr_add hm.2 hR e2
          unfold f_SheetReader_readProof_123 at h1
          unfold f_M_readProof_112 at h2
          obtain ⟨_, h1⟩ := w_chkE h1
          obtain ⟨_, h2⟩ := w_chkE h2
          obtain ⟨s1, s2, s3, s4, s5⟩ := hR
          refine ih n2 S2 T 0 0 (i + 1) cnt ⟨by rw [A.2.2 1 1 (by omega)]; exact hB.1, by rw [A.2.2 1 1 (by omega)]; exact hB.2.1, fun k hk => ?_⟩ ⟨by rw [A.2.2 3 0 (by omega)]; exact hF.1, by rw [A.2.2 3 1 (by omega)]; exact hF.2⟩ ⟨by rw [A.1]; omega, Int.le_refl _, .inl ⟨rfl, rfl, A.1.symm⟩, s4, fun k hk => A.2.1 k (by rw [← A.1]; exact hk)⟩ (by omega) r S1 o T1 h1 h2
          rw [A.2.2 1 1 (by omega)] at hk
          rw [A.2.2 2 k (by omega)]; exact hB.2.2 k hk
theorem sim_readProof (most : Int) (hm : 0 ≤ most ∧ most ≤ 150) (S T : SS) (hR : TR S T) (hb : 0 ≤ gi S 1 1 ∧ gi S 1 1 ≤ 2000) (r : Int) (S1 : SS) (o : Option Int) (T1 : SS) (h1 : f_SheetReader_readProof S most = some (r, S1)) (h2 : f_M_readProof (f_M_begin T) most = some (o, T1)) : FE S1 T1 ∧ ((r = 1 ∧ o = some (gi S1 175 1) ∧ 0 ≤ gi S1 175 1 ∧ gi S1 175 1 ≤ most ∧ ∀ k : Nat, (k : Int) < gi S1 175 1 → gl S1 176 k = gl T1 198 k) ∨ (r = 0 ∧ o = none)) := by
  unfold f_SheetReader_readProof at h1
  unfold f_M_readProof at h2
  unfold w_lt at h1
  have e175 : gi (f_Fault_clear (f_Sheet_clear S 175)) 175 1 = 0 := by
    show gi (si (si (si S 175 1 0) 3 0 0) 3 1 (-1)) 175 1 = 0
    rw [gi_off (by omega), gi_off (by omega), gi_at]
  have eo : ∀ r k, r ≠ 3 → r ≠ 175 → gi (f_Fault_clear (f_Sheet_clear S 175)) r k = gi S r k := by
    intro r k a c
    show gi (si (si (si S 175 1 0) 3 0 0) 3 1 (-1)) r k = gi S r k
    rw [gi_off (by omega), gi_off (by omega), gi_off (by omega)]
  have mo : ∀ r k, r ≠ 192 → gi (f_M_begin T) r k = gi T r k := by
    intro r k a
    show gi (si (si (si (si (si T 192 9 (gi T 192 8)) 192 8 0) 192 11 0) 192 14 0) 192 15 (-1)) r k = gi T r k
    rw [gi_off (by omega), gi_off (by omega), gi_off (by omega), gi_off (by omega), gi_off (by omega)]
  refine sim_rp most hm FU FU _ _ 0 0 0 0 ⟨?_, by rw [eo 1 1 (by decide) (by decide)]; exact hb.2, fun k hk => ?_⟩ ⟨?_, ?_⟩ ⟨by rw [e175]; exact Int.le_refl _, Int.le_refl _, .inl ⟨rfl, rfl, e175.symm⟩, hm.1, fun k hk => by rw [e175] at hk; omega⟩ (Int.le_refl _) r S1 o T1 h1 h2
  · rw [eo 1 1 (by decide) (by decide), hR.1]
    show gi T 192 8 = gi (si (si (si (si (si T 192 9 (gi T 192 8)) 192 8 0) 192 11 0) 192 14 0) 192 15 (-1)) 192 9
    rw [gi_off (by omega), gi_off (by omega), gi_off (by omega), gi_off (by omega), gi_at]
  · rw [eo 1 1 (by decide) (by decide)] at hk
    rw [eo 2 k (by decide) (by decide), mo 197 k (by decide)]
    exact hR.2 k hk
  · show gi (si (si (si S 175 1 0) 3 0 0) 3 1 (-1)) 3 0 = gi (si (si (si (si (si T 192 9 (gi T 192 8)) 192 8 0) 192 11 0) 192 14 0) 192 15 (-1)) 192 14
    rw [gi_off (by omega), gi_at, gi_off (by omega), gi_at]
  · show gi (si (si (si S 175 1 0) 3 0 0) 3 1 (-1)) 3 1 = gi (si (si (si (si (si T 192 9 (gi T 192 8)) 192 8 0) 192 11 0) 192 14 0) 192 15 (-1)) 192 15
    rw [gi_at, gi_at]
/-- all words of sheet q1 from i on put behind those of q0 -/
theorem sh_all {q0 q1 : Nat} (hne : q0 ≠ q1) (hn2 : q0 + 1 ≠ q1 + 1) : ∀ (n : Nat) (S S1 : SS) (i b0 : Int), f_Sheet_addAll_2 q0 q1 n S i = some S1 → 0 ≤ i → i ≤ gi S q1 1 → 0 ≤ b0 → gi S q0 1 = b0 + i → b0 + gi S q1 1 ≤ cap q0 → gi S q1 1 ≤ cap q1 → gi S1 q0 1 = b0 + gi S q1 1 ∧ (∀ r k, ¬ (r = q0 ∧ k = 1) → gi S1 r k = gi S r k) ∧ (∀ r k, r ≠ q0 + 1 → gl S1 r k = gl S r k) ∧ S1.2.2 = S.2.2 ∧ (∀ k : Nat, (k : Int) < b0 + i → gl S1 (q0 + 1) k = gl S (q0 + 1) k) ∧ (∀ k : Nat, i ≤ (k : Int) → (k : Int) < gi S q1 1 → gl S1 (q0 + 1) (b0.toNat + k) = gl S (q1 + 1) k) := by
  intro n
  induction n with
  | zero => intro S S1 i b0 h; exact absurd h (by simp [f_Sheet_addAll_2])
  | succ n ih =>
    intro S S1 i b0 h h0 h1 h2 h3 h4 h5
    have h : f_Sheet_addAll_2_b q0 q1 (f_Sheet_addAll_2 q0 q1 n) S i = some S1 := h
    unfold f_Sheet_addAll_2_b at h
    by_cases c : gi S q1 1 ≤ i
    · rw [if_pos c] at h
      cases h
      exact ⟨by omega, fun _ _ _ => rfl, fun _ _ _ => rfl, rfl, fun _ _ => rfl, fun k a d => by omega⟩
    · rw [if_neg c] at h
      obtain ⟨w, ew, h⟩ := w_b1E h
      obtain ⟨S4, e4, h⟩ := w_b1E h
      obtain ⟨_, h⟩ := w_chkE h
      unfold f_Sheet_wordAt at ew
      rw [if_neg (by omega), if_neg (by omega), if_pos (by omega), w_chkP (by omega)] at ew
      have ew := Option.some.inj ew
      rw [← ew] at e4
      have q := sh_add e4 (by omega) (by omega)
      have z1 : gi S4 q1 1 = gi S q1 1 := by rw [q, gi_off (fun w => hne w.1.symm)]; rfl
      have z0 : gi S4 q0 1 = b0 + (i + 1) := by rw [q, gi_at]; omega
      have I := ih S4 S1 (i + 1) b0 h (by omega) (by omega) h2 z0 (by omega) (by omega)
      have g4 : ∀ r k, gl S4 r k = if r = q0 + 1 ∧ k = (gi S q0 1).toNat then gl S (q1 + 1) i.toNat else gl S r k := by
        intro r k; rw [q]; show gl (sl S (q0 + 1) _ _) r k = _; rw [gl_slN]
      refine ⟨by rw [I.1, z1], fun r k a => ?_, fun r k a => ?_, ?_, fun k a => ?_, fun k a d => ?_⟩
      · rw [I.2.1 r k a, q, gi_off a]; rfl
      · rw [I.2.2.1 r k a, g4, if_neg (fun w => a w.1)]
      · rw [I.2.2.2.1, q]; rfl
      · rw [I.2.2.2.2.1 k (by omega), g4, if_neg (fun w => by omega)]
      · by_cases e : (k : Int) = i
        · rw [I.2.2.2.2.1 (b0.toNat + k) (by omega), g4, if_pos ⟨rfl, by omega⟩, show i.toNat = k by omega]
        · rw [I.2.2.2.2.2 k (by omega) (by omega), g4, if_neg (fun w => hn2 w.1.symm)]
theorem sh_copy {q0 q1 : Nat} (hne : q0 ≠ q1) (hn2 : q0 + 1 ≠ q1 + 1) (hn3 : q1 + 1 ≠ q0) {S S1 : SS} (h : f_Sheet_copyFrom S q0 q1 = some S1) (h0 : 0 ≤ gi S q1 1) (h1 : gi S q1 1 ≤ cap q0) (h2 : gi S q1 1 ≤ cap q1) : gi S1 q0 1 = gi S q1 1 ∧ (∀ r k, ¬ (r = q0 ∧ k = 1) → gi S1 r k = gi S r k) ∧ (∀ r k, r ≠ q0 + 1 → gl S1 r k = gl S r k) ∧ S1.2.2 = S.2.2 ∧ (∀ k : Nat, (k : Int) < gi S q1 1 → gl S1 (q0 + 1) k = gl S (q1 + 1) k) := by
  unfold f_Sheet_copyFrom f_Sheet_addAll at h
  unfold w_lt at h
  obtain ⟨S3, e3, h⟩ := w_b1E h
  cases h
  have z1 : gi (f_Sheet_clear S q0) q1 1 = gi S q1 1 := gi_off (fun w => hne w.1.symm)
  have z0 : gi (f_Sheet_clear S q0) q0 1 = 0 := gi_at S q0 1 0
  have A := sh_all hne hn2 FU (f_Sheet_clear S q0) S1 0 0 e3 (Int.le_refl _) (by omega) (Int.le_refl _) (by omega) (by omega) (by omega)
  refine ⟨by rw [A.1, z1]; omega, fun r k a => by rw [A.2.1 r k a]; exact gi_off a, fun r k a => by rw [A.2.2.1 r k a]; rfl, A.2.2.2.1, fun k hk => ?_⟩
  have := A.2.2.2.2.2 k (by omega) (by omega)
  rw [show (0 : Int).toNat + k = k by omega] at this
  rw [this]; rfl
/-- alike: tapes, sizes of both proofs, ranks, prices, costs -/
def RBX (S T : SS) : Prop := TR S T ∧ gi S 4 1 = gi T 192 3 ∧ gi S 6 1 = gi T 192 4 ∧ (∀ k, gi S 12 k = gi T 209 k ∨ 3 ≤ k) ∧ (∀ k, gi S 191 k = gi T 210 k ∨ 5 ≤ k) ∧ gi S 183 5 = gi T 211 0 ∧ gi S 183 6 = gi T 211 1
abbrev PCB (r k : Nat) : Prop := (r = 1 ∧ k = 1) ∨ r = 2 ∨ (r = 4 ∧ k = 1) ∨ (r = 6 ∧ k = 1) ∨ r = 12 ∨ r = 191 ∨ (r = 183 ∧ (k = 5 ∨ k = 6))
abbrev PRB (r k : Nat) : Prop := r = 197 ∨ r = 209 ∨ r = 210 ∨ r = 211 ∨ (r = 192 ∧ (k = 3 ∨ k = 4 ∨ k = 8))
theorem RBX_keep {S T S1 T1 : SS} (h : RBX S T) (hs : ∀ r k, PCB r k → gi S1 r k = gi S r k) (ht : ∀ r k, PRB r k → gi T1 r k = gi T r k) : RBX S1 T1 := by
  obtain ⟨⟨a1, a2⟩, b, c, d, e, f, g⟩ := h
  refine ⟨⟨by rw [hs 1 1 (by omega), ht 192 8 (by omega)]; exact a1, fun k hk => ?_⟩, by rw [hs 4 1 (by omega), ht 192 3 (by omega)]; exact b, by rw [hs 6 1 (by omega), ht 192 4 (by omega)]; exact c, fun k => by rw [hs 12 k (by omega), ht 209 k (by omega)]; exact d k, fun k => by rw [hs 191 k (by omega), ht 210 k (by omega)]; exact e k, by rw [hs 183 5 (by omega), ht 211 0 (by omega)]; exact f, by rw [hs 183 6 (by omega), ht 211 1 (by omega)]; exact g⟩
  rw [hs 1 1 (by omega)] at hk
  rw [hs 2 k (by omega), ht 197 k (by omega)]; exact a2 k hk
theorem RBX_0 : RBX SZ SZ := by
  refine ⟨⟨rfl, fun k hk => absurd hk (by show ¬ (k : Int) < 0; omega)⟩, rfl, rfl, fun k => ?_, fun k => ?_, rfl, rfl⟩
  · by_cases h : 3 ≤ k
    · exact .inr h
    · left
      have : k = 0 ∨ k = 1 ∨ k = 2 := by omega
      rcases this with e | e | e <;> subst e <;> rfl
  · by_cases h : 5 ≤ k
    · exact .inr h
    · left
      have : k = 0 ∨ k = 1 ∨ k = 2 ∨ k = 3 ∨ k = 4 := by omega
      rcases this with e | e | e | e | e <;> subst e <;> rfl
theorem keep_fr {X : Nat → Nat → Prop} {S S1 : SS} (h : fr X S S1) (P : Nat → Nat → Prop) (hd : ∀ r k, P r k → ¬ X r k) : ∀ r k, P r k → gi S1 r k = gi S r k := fun r k p => h r k (hd r k p)
theorem keep_refl {S : SS} (P : Nat → Nat → Prop) : ∀ r k, P r k → gi S r k = gi S r k := fun _ _ _ => rfl
/-- the reference: these commands keep all but what judging and making write -/
abbrev XM (r k : Nat) : Prop := XH r k ∨ r = 205 ∨ r = 208
theorem fm_word {T : SS} (hM : MX 0 T) (hN : NX T) (a1 a2 : Int) : pc (f_M_word T a1 a2) (fun u => fr XM T u.2) := by
  unfold f_M_word
  refine pc_b1 (ok_true (ok_M_isText T a1 hM)) (fun r1 h1 => pc_if (fun c => pc_some (fr_refl _ T)) (fun c => pc_b2 (ok_true (ok_M_wordsOf hM hN a1 (by omega))) (fun r5 S4 h4 => ?_)))
  have f4 : fr XM T S4 := fr_mono h4.2.1 (fun r k q => .inl q)
  exact pc_chk (fun _ => pc_if (fun _ => pc_some f4) (fun _ => pf_b1 (fun _ => pc_some f4)))
theorem fm_distance {T : SS} (hM : MX 0 T) (hN : NX T) (a1 a2 : Int) : pc (f_M_distance T a1 a2) (fun u => fr XM T u.2) := by
  unfold f_M_distance
  refine pc_b1 (ok_true (ok_M_isText T a1 hM)) (fun r1 h1 => pc_if (fun c => pc_some (fr_refl _ T)) (fun c => pc_b1 (ok_true (ok_M_isText T a2 hM)) (fun r3 h3 => pc_if (fun c2 => pc_some (fr_refl _ T)) (fun c2 => pc_b2 (ok_true (ok_M_wordsOf hM hN a1 (by omega))) (fun r6 S5 h5 => ?_)))))
  have n5 : NX S5 := nx_fr hN h5.2.1 (fun k => by omega) (by omega) (by omega)
  refine pc_b2 (ok_true (ok_M_wordsOf h5.1 n5 a2 (by omega))) (fun r9 S8 h8 => pc_b2 (ok_true (ok_M_apart S8 a1 r6 a2 r9 h8.1 h5.2.2.1 h8.2.2.1)) (fun r12 S11 h11 => pc_some ?_))
  exact fr_trans (fr_mono (fr_trans h5.2.1 h8.2.1) (fun r k q => .inl q)) (fun r k a => h11.2.1 r k (by omega))
theorem fm_mark {T : SS} (hM : MX 0 T) (a1 a2 : Int) : pc (f_M_mark T a1 a2) (fun u => fr XM T u.2) := by
  unfold f_M_mark
  have h0 := fr_refl XM T
  have hj : pc (f_M_judge T) (fr XM T) := pc_mono (pc_judge T hM) (fun S1 h r k a => h.1.2 r k (by omega) (by omega))
  repeat' first | with_reducible exact pc_some (by assumption) | with_reducible refine pc_b1 hj (fun _ _ => ?_) | with_reducible refine pc_chk (fun _ => ?_) | with_reducible refine pc_if (fun _ => ?_) (fun _ => ?_) | with_reducible refine pf_b1 (fun _ => ?_)
theorem fm_answer {T : SS} (hM : MX 0 T) (a1 a2 : Int) : pc (f_M_answer T a1 a2) (fun u => fr XM T u.2) := by
  unfold f_M_answer f_M_answer_42
  have h0 := fr_refl XM T
  have hj : pc (f_M_judge T) (fr XM T) := pc_mono (pc_judge T hM) (fun S1 h r k a => h.1.2 r k (by omega) (by omega))
  repeat' first | with_reducible exact pc_some (by assumption) | with_reducible refine pc_b1 hj (fun _ _ => ?_) | with_reducible refine pc_chk (fun _ => ?_) | with_reducible refine pc_if (fun _ => ?_) (fun _ => ?_) | with_reducible refine pf_lt (by assumption) (by omega) (fun _ _ => ?_) | with_reducible refine pf_b1 (fun _ => ?_)
theorem fm_error {T : SS} (a1 a2 : Int) : pc (f_M_error T a1 a2) (fun u => fr XM T u.2) := by
  unfold f_M_error
  have h0 := fr_refl XM T
  repeat' first | with_reducible exact pc_some (by assumption) | with_reducible refine pc_chk (fun _ => ?_) | with_reducible refine pc_if (fun _ => ?_) (fun _ => ?_) | with_reducible refine pf_lt (by assumption) (by omega) (fun _ _ => ?_) | with_reducible refine pf_b1 (fun _ => ?_)
theorem fm_hold {T : SS} (hM : MX 0 T) (hN : NX T) : pc (f_M_hold T) (fun u => fr XM T u.2) := by
  have b27 := mx_192_27 hM
  unfold f_M_hold
  exact pc_b1 (ok_true (HI_judge hM)) (fun S1 h1 => pc_mono (ok_true (okl_M_hold_8 T hN FU S1 0 h1 (by omega) (by unfold FU; omega))) (fun u hu => fr_mono hu.2 (fun r k q => .inl q)))
theorem fm_count {T : SS} (hM : MX 0 T) (hN : NX T) (a1 : Int) : pc (f_M_count T a1) (fun u => fr XM T u.2) := by
  have h0 := fr_refl XM T
  have i1 := in01 T a1 0 2
  have i3 := in01 T a1 4 8
  unfold f_M_count
  refine pc_if (fun c1 => pc_if (fun c2 => pc_if (fun _ => pc_some h0) (fun _ => pc_if (fun _ => pc_some h0) (fun _ => pc_if (fun _ => pc_some h0) (fun c3 => ?_)))) (fun c2 => pc_chk (fun _ => pc_chk (fun _ => pc_some h0)))) (fun c1 => pc_b2 (ok_true (ok_M_wordsOf hM hN a1 (by omega))) (fun r S13 h => pc_some (fr_mono h.2.1 (fun r k q => .inl q))))
  refine pc_b1 (ok_true (HI_judge hM)) (fun S7 h7 => pc_mono (ok_true (okl_M_count a1 (by omega) S7 h7.1 FU 0 0 (by omega) (by unfold FU; omega))) (fun u e => ?_))
  rw [e]; exact fr_mono h7.2.1 (fun r k q => .inl q)
theorem fm_pays {T : SS} (hM : MX 0 T) (hN : NX T) (a1 : Int) : pc (f_M_pays T a1) (fun u => fr XM T u.2) := by
  unfold f_M_pays
  refine pc_if (fun _ => pc_some (fr_refl _ T)) (fun _ => pc_b1 (ok_true (HI_judge hM)) (fun S3 h3 => pc_mono (ok_true (okl_M_pays a1 T S3 hN h3 FU 0 0 (by omega) (by omega) (by unfold FU; omega))) (fun u e => ?_)))
  rw [e]; exact fr_mono h3.2.1 (fun r k q => .inl q)
theorem XM_PRB : ∀ r k, PRB r k → ¬ XM r k := fun r k p => by omega
theorem pfx_lay {X : Nat → Nat → Prop} (h197 : ∀ k, X 197 k) (h8 : X 192 8) (S0 : SS) (v1 : Int) : ∀ (n : Nat) (S : SS) (v2 : Int), fr X S0 S → pc (f_M_lay_3 v1 n S v2) (fr X S0) := by
  intro n
  induction n with
  | zero => intro S v2 h r e; exact absurd e (by simp [f_M_lay_3])
  | succ n ih =>
    intro S v2 h
    show pc (f_M_lay_3_b v1 (f_M_lay_3 v1 n) S v2) _
    unfold f_M_lay_3_b
    exact pc_if (fun _ => pc_some h) (fun _ => pc_chk (fun _ => pf_lt h (h197 _) (fun _ h => pc_chk (fun _ => pf_lt h h8 (fun _ h => pc_chk (fun _ => ih _ _ h))))))
abbrev XTP (r k : Nat) : Prop := r = 197 ∨ (r = 192 ∧ k = 8)
theorem fm_feed (S : SS) (v1 v2 v3 v4 v5 : Int) : pc (f_M_feed S v1 v2 v3 v4 v5) (fun u => fr XTP S u.2) := by
  have L := fun v S' (h : fr XTP S S') => pfx_lay (X := XTP) (fun k => .inl rfl) (.inr ⟨rfl, rfl⟩) S v FU S' 24 h
  unfold f_M_feed f_M_lay
  exact pc_chk (fun _ => pc_if (fun _ => pc_b1 (L _ _ (fr_refl _ S)) (fun _ h => pc_b1 (L _ _ h) (fun _ h => pc_b1 (L _ _ h) (fun _ h => pc_b1 (L _ _ h) (fun _ h => pc_b1 (L _ _ h) (fun _ h => pc_some h)))))) (fun _ => pc_some (fr_refl _ S)))
theorem fm_end (S : SS) (v1 : Int) : pc (f_M_end S v1) (fun u => fr XTP S u.2) := by
  unfold f_M_end
  exact pc_if (fun _ => pc_some (fr_refl _ S)) (fun _ => pf_lt (fr_refl _ S) (.inr ⟨rfl, rfl⟩) (fun _ h => pc_some h))
theorem RBX_tape {S T S1 T1 : SS} (h : RBX S T) (hR : TR S1 T1) (hs : ∀ r k, PCB r k → r ≠ 1 → r ≠ 2 → gi S1 r k = gi S r k) (ht : ∀ r k, PRB r k → ¬ XTP r k → gi T1 r k = gi T r k) : RBX S1 T1 := by
  obtain ⟨_, b, c, d, e, f, g⟩ := h
  exact ⟨hR, by rw [hs 4 1 (by omega) (by omega) (by omega), ht 192 3 (by omega) (by omega)]; exact b, by rw [hs 6 1 (by omega) (by omega) (by omega), ht 192 4 (by omega) (by omega)]; exact c, fun k => by rw [hs 12 k (by omega) (by omega) (by omega), ht 209 k (by omega) (by omega)]; exact d k, fun k => by rw [hs 191 k (by omega) (by omega) (by omega), ht 210 k (by omega) (by omega)]; exact e k, by rw [hs 183 5 (by omega) (by omega) (by omega), ht 211 0 (by omega) (by omega)]; exact f, by rw [hs 183 6 (by omega) (by omega) (by omega), ht 211 1 (by omega) (by omega)]; exact g⟩
abbrev XCT (r k : Nat) : Prop := r = 2 ∨ (r = 1 ∧ k = 1)
theorem RBX_feed {S T S1 T1 : SS} {a1 a2 a3 a4 a5 r t : Int} (hC : CX 0 S) (h : RBX S T) (h1 : f_MP_feed S a1 a2 a3 a4 a5 = some (r, S1)) (h2 : f_M_feed T a1 a2 a3 a4 a5 = some (t, T1)) : RBX S1 T1 ∧ r = t := by
  have q := sim_feed S T a1 a2 a3 a4 a5 r t S1 T1 h.1 (cx_1_1 hC).1 h1 h2
  have f1 := fx_MP_feed (X := XCT) (S0 := S) (x_2 := fun k => .inl rfl) (x_1_1 := .inr ⟨rfl, rfl⟩) S a1 a2 a3 a4 a5 (FX_refl _ S) _ h1
  have f2 := fm_feed T a1 a2 a3 a4 a5 _ h2
  exact ⟨RBX_tape h q.2 (fun r k p a c => f1.1 r k (by omega)) (fun r k p a => f2 r k a), q.1⟩
theorem RBX_end {S T S1 T1 : SS} {a1 r t : Int} (h : RBX S T) (h1 : f_MP_end S a1 = some (r, S1)) (h2 : f_M_end T a1 = some (t, T1)) : RBX S1 T1 ∧ r = t := by
  have q := sim_end S T a1 r t S1 T1 h.1 h1 h2
  have f1 := fx_MP_end (X := XCT) (S0 := S) (x_1_1 := .inr ⟨rfl, rfl⟩) S a1 (FX_refl _ S) _ h1
  have f2 := fm_end T a1 _ h2
  exact ⟨RBX_tape h q.2 (fun r k p a c => f1.1 r k (by omega)) (fun r k p a => f2 r k a), q.1⟩
theorem pfx_readProof {X : Nat → Nat → Prop} (h14 : X 192 14) (h15 : X 192 15) (S0 : SS) (v1 : Int) : ∀ (n : Nat) (S : SS) (v2 v3 v4 : Int), fr X S0 S → pc (f_M_readProof_7 v1 n S v2 v3 v4) (fun u => fr X S0 u.2) := by
  intro n
  induction n with
  | zero => intro S v2 v3 v4 h r e; exact absurd e (by simp [f_M_readProof_7])
  | succ n ih =>
    intro S v2 v3 v4 h
    show pc (f_M_readProof_7_b v1 (f_M_readProof_7 v1 n) S v2 v3 v4) _
    unfold f_M_readProof_7_b f_M_readProof_86 f_M_readProof_112 f_M_readProof_51
    repeat' first | with_reducible exact ih _ _ _ _ (by assumption) | with_reducible exact pc_some (by assumption) | with_reducible refine pc_chk (fun _ => ?_) | with_reducible refine pc_if (fun _ => ?_) (fun _ => ?_) | with_reducible refine pf_wr (by assumption) h14 h15 (fun _ _ => ?_) | with_reducible refine pf_lts (by assumption) (fun _ _ => ?_) | with_reducible refine pf_b1 (fun _ => ?_)
/-- what reading a proof changes in the reference's ints -/
abbrev XRP (r k : Nat) : Prop := r = 192 ∧ (k = 9 ∨ k = 11 ∨ k = 14 ∨ k = 15)
theorem m_begin_is (T : SS) : gi (f_M_begin T) 192 8 = 0 ∧ ∀ r k, ¬ XRP r k → ¬ (r = 192 ∧ k = 8) → gi (f_M_begin T) r k = gi T r k := by
  refine ⟨?_, fun r k a c => ?_⟩
  · show gi (si (si (si (si (si T 192 9 (gi T 192 8)) 192 8 0) 192 11 0) 192 14 0) 192 15 (-1)) 192 8 = 0
    rw [gi_off (by omega), gi_off (by omega), gi_off (by omega), gi_at]
  · show gi (si (si (si (si (si T 192 9 (gi T 192 8)) 192 8 0) 192 11 0) 192 14 0) 192 15 (-1)) r k = gi T r k
    rw [gi_off (by omega), gi_off (by omega), gi_off (by omega), gi_off (by omega), gi_off (by omega)]
theorem m_rp_is {T T1 : SS} {most : Int} {o : Option Int} (h : f_M_readProof (f_M_begin T) most = some (o, T1)) : gi T1 192 8 = 0 ∧ ∀ r k, ¬ XRP r k → ¬ (r = 192 ∧ k = 8) → gi T1 r k = gi T r k := by
  have f := pfx_readProof (X := XRP) (by omega) (by omega) (f_M_begin T) most FU (f_M_begin T) 0 0 0 (fr_refl _ _) _ h
  have b := m_begin_is T
  exact ⟨by rw [f 192 8 (by omega)]; exact b.1, fun r k a c => by rw [f r k a]; exact b.2 r k a c⟩
theorem m_first_is : ∀ (n : Nat) (S S1 : SS) (v1 v2 t : Int), f_M_first_19 n S v1 v2 = some (t, S1) → 0 ≤ v2 → t = v1 ∧ gi S1 192 3 = v1 ∧ (∀ r k, ¬ (r = 192 ∧ (k = 3 ∨ k = 27)) → gi S1 r k = gi S r k) ∧ gi S1 192 27 = 0 ∧ (∀ r k, r ≠ 193 → gl S1 r k = gl S r k) ∧ (∀ k : Nat, (k : Int) < v2 → gl S1 193 k = gl S 193 k) ∧ (∀ k : Nat, v2 ≤ (k : Int) → (k : Int) < v1 → gl S1 193 k = gl S 198 k) := by
  intro n
  induction n with
  | zero => intro S S1 v1 v2 t h; exact absurd h (by simp [f_M_first_19])
  | succ n ih =>
    intro S S1 v1 v2 t h h0
    have h : f_M_first_19_b (f_M_first_19 n) S v1 v2 = some (t, S1) := h
    unfold f_M_first_19_b at h
    by_cases c : v1 ≤ v2
    · rw [if_pos c] at h
      unfold w_lt at h
      cases h
      exact ⟨rfl, by rw [gi_off (by omega), gi_at], fun r k a => by rw [gi_off (by omega), gi_off (by omega)], gi_at _ _ _ _, fun _ _ _ => rfl, fun _ _ => rfl, fun k a d => by omega⟩
    · rw [if_neg c] at h
      obtain ⟨_, h⟩ := w_chkE h
      obtain ⟨_, h⟩ := w_chkE h
      unfold w_lt at h
      obtain ⟨_, h⟩ := w_chkE h
      have I := ih _ S1 v1 (v2 + 1) t h (by omega)
      refine ⟨I.1, I.2.1, fun r k a => I.2.2.1 r k a, I.2.2.2.1, fun r k a => ?_, fun k a => ?_, fun k a d => ?_⟩
      · rw [I.2.2.2.2.1 r k a, gl_slN, if_neg (fun q => a q.1)]
      · rw [I.2.2.2.2.2.1 k (by omega), gl_slN, if_neg (fun q => by omega)]
      · by_cases e : (k : Int) = v2
        · rw [I.2.2.2.2.2.1 k (by omega), gl_slN, if_pos ⟨rfl, by omega⟩, show v2.toNat = k by omega]
        · rw [I.2.2.2.2.2.2 k (by omega) d, gl_slN, if_neg (fun q => absurd q.1 (by decide))]
theorem m_second_is : ∀ (n : Nat) (S S1 : SS) (v1 v2 t : Int), f_M_second_20 n S v1 v2 = some (t, S1) → 0 ≤ v2 → t = v1 ∧ gi S1 192 4 = v1 ∧ (∀ r k, ¬ (r = 192 ∧ k = 4) → gi S1 r k = gi S r k) ∧ (∀ r k, r ≠ 194 → gl S1 r k = gl S r k) ∧ (∀ k : Nat, (k : Int) < v2 → gl S1 194 k = gl S 194 k) ∧ (∀ k : Nat, v2 ≤ (k : Int) → (k : Int) < v1 → gl S1 194 k = gl S 198 k) := by
  intro n
  induction n with
  | zero => intro S S1 v1 v2 t h; exact absurd h (by simp [f_M_second_20])
  | succ n ih =>
    intro S S1 v1 v2 t h h0
    have h : f_M_second_20_b (f_M_second_20 n) S v1 v2 = some (t, S1) := h
    unfold f_M_second_20_b at h
    by_cases c : v1 ≤ v2
    · rw [if_pos c] at h
      unfold w_lt at h
      cases h
      exact ⟨rfl, gi_at _ _ _ _, fun r k a => gi_off a, fun _ _ _ => rfl, fun _ _ => rfl, fun k a d => by omega⟩
    · rw [if_neg c] at h
      obtain ⟨_, h⟩ := w_chkE h
      obtain ⟨_, h⟩ := w_chkE h
      unfold w_lt at h
      obtain ⟨_, h⟩ := w_chkE h
      have I := ih _ S1 v1 (v2 + 1) t h (by omega)
      refine ⟨I.1, I.2.1, fun r k a => I.2.2.1 r k a, fun r k a => ?_, fun k a => ?_, fun k a d => ?_⟩
      · rw [I.2.2.2.1 r k a, gl_slN, if_neg (fun q => a q.1)]
      · rw [I.2.2.2.2.1 k (by omega), gl_slN, if_neg (fun q => by omega)]
      · by_cases e : (k : Int) = v2
        · rw [I.2.2.2.2.1 k (by omega), gl_slN, if_pos ⟨rfl, by omega⟩, show v2.toNat = k by omega]
        · rw [I.2.2.2.2.2 k (by omega) d, gl_slN, if_neg (fun q => absurd q.1 (by decide))]
theorem m_next_is : ∀ (n : Nat) (S S1 : SS) (v1 t : Int), f_M_next_20 n S v1 = some (t, S1) → 0 ≤ v1 → t = gi S 192 4 ∧ gi S1 192 3 = gi S 192 4 ∧ gi S1 192 4 = 0 ∧ gi S1 192 27 = 0 ∧ (∀ r k, ¬ (r = 192 ∧ (k = 3 ∨ k = 4 ∨ k = 27)) → gi S1 r k = gi S r k) ∧ (∀ r k, r ≠ 193 → gl S1 r k = gl S r k) ∧ (∀ k : Nat, (k : Int) < v1 → gl S1 193 k = gl S 193 k) ∧ (∀ k : Nat, v1 ≤ (k : Int) → (k : Int) < gi S 192 4 → gl S1 193 k = gl S 194 k) := by
  intro n
  induction n with
  | zero => intro S S1 v1 t h; exact absurd h (by simp [f_M_next_20])
  | succ n ih =>
    intro S S1 v1 t h h0
    have h : f_M_next_20_b (f_M_next_20 n) S v1 = some (t, S1) := h
    unfold f_M_next_20_b at h
    by_cases c : gi S 192 4 ≤ v1
    · rw [if_pos c] at h
      unfold w_lt at h
      cases h
      refine ⟨by rw [gi_off (by omega), gi_off (by omega), gi_at], by rw [gi_off (by omega), gi_off (by omega), gi_at], by rw [gi_off (by omega), gi_at], gi_at _ _ _ _, fun r k a => by rw [gi_off (by omega), gi_off (by omega), gi_off (by omega)], fun _ _ _ => rfl, fun _ _ => rfl, fun k a d => by omega⟩
    · rw [if_neg c] at h
      obtain ⟨_, h⟩ := w_chkE h
      obtain ⟨_, h⟩ := w_chkE h
      unfold w_lt at h
      obtain ⟨_, h⟩ := w_chkE h
      have I := ih _ S1 (v1 + 1) t h (by omega)
      refine ⟨I.1, I.2.1, I.2.2.1, I.2.2.2.1, fun r k a => I.2.2.2.2.1 r k a, fun r k a => ?_, fun k a => ?_, fun k a d => ?_⟩
      · rw [I.2.2.2.2.2.1 r k a, gl_slN, if_neg (fun q => a q.1)]
      · rw [I.2.2.2.2.2.2.1 k (by omega), gl_slN, if_neg (fun q => by omega)]
      · by_cases e : (k : Int) = v1
        · rw [I.2.2.2.2.2.2.1 k (by omega), gl_slN, if_pos ⟨rfl, by omega⟩, show v1.toNat = k by omega]
        · rw [I.2.2.2.2.2.2.2 k (by omega) d, gl_slN, if_neg (fun q => absurd q.1 (by decide))]
/-- alike after both tapes are emptied, with new sizes -/
theorem RBX_sizes {S T S1 T1 : SS} (h : RBX S T) (z1 : gi S1 1 1 = 0) (z2 : gi T1 192 8 = 0) (e4 : gi S1 4 1 = gi T1 192 3) (e6 : gi S1 6 1 = gi T1 192 4) (hs : ∀ r k, PCB r k → r ≠ 1 → r ≠ 2 → r ≠ 4 → r ≠ 6 → gi S1 r k = gi S r k) (ht : ∀ r k, PRB r k → r ≠ 197 → r ≠ 192 → gi T1 r k = gi T r k) : RBX S1 T1 := by
  obtain ⟨_, b, c, d, e, f, g⟩ := h
  exact ⟨⟨by rw [z1, z2], fun k hk => by omega⟩, e4, e6, fun k => by rw [hs 12 k (by omega) (by omega) (by omega) (by omega) (by omega), ht 209 k (by omega) (by omega) (by omega)]; exact d k, fun k => by rw [hs 191 k (by omega) (by omega) (by omega) (by omega) (by omega), ht 210 k (by omega) (by omega) (by omega)]; exact e k, by rw [hs 183 5 (by omega) (by omega) (by omega) (by omega) (by omega), ht 211 0 (by omega) (by omega) (by omega)]; exact f, by rw [hs 183 6 (by omega) (by omega) (by omega) (by omega) (by omega), ht 211 1 (by omega) (by omega) (by omega)]; exact g⟩
abbrev XSR (r k : Nat) : Prop := r = 3 ∨ r = 175
theorem RBX_first {S T S1 T1 : SS} {r t : Int} (hC : CX 0 S) (h : RBX S T) (h1 : f_MP_first S = some (r, S1)) (h2 : f_M_first T = some (t, T1)) : RBX S1 T1 ∧ r = t := by
  unfold f_MP_first at h1
  unfold f_M_first at h2
  unfold w_lt at h1 h2
  obtain ⟨r2, S2, e2, h1⟩ := w_b2E h1
  have f2 := fx_SheetReader_readProof (X := XSR) (S0 := S) (x_3_0 := .inl rfl) (x_3_1 := .inl rfl) (x_175_1 := .inr rfl) S 60 (FX_refl _ S) _ e2
  have g11 : ∀ r k, ¬ (r = 1 ∧ k = 1) → gi (si S2 1 1 0) r k = gi S2 r k := fun r k a => gi_off a
  rcases w_b3E h2 with ⟨n, T2, e3, h2⟩ | ⟨T2, e3, h2⟩
  · have q := sim_readProof 60 (by decide) S T h.1 (cx_1_1 hC) r2 S2 (some n) T2 e2 e3
    have m2 := m_rp_is e3
    rcases q.2 with ⟨qr, qo, q0, q1, _⟩ | ⟨_, qo⟩
    · cases qo
      dsimp only at h1
      rw [if_neg (show ¬ r2 = 0 by omega)] at h1
      obtain ⟨S5, e5, h1⟩ := w_b1E h1
      obtain ⟨S9, e9, h1⟩ := w_b1E h1
      cases h1
      have k1 : gi (si S2 1 1 0) 175 1 = gi S2 175 1 := gi_off (by omega)
      have c4 : cap 4 = 60 := by decide
      have c175 : cap 175 = 150 := by decide
      have cp := sh_copy (by decide) (by decide) (by decide) e5 (by omega) (by omega) (by omega)
      have st := fs_settle (X := XT) (fun _ _ q => q) (f_Pile_clear S5) (f_Pile_clear S5) (fr_refl _ _) _ e9
      have pcl : ∀ r k, r ≠ 10 → gi (f_Pile_clear S5) r k = gi S5 r k := by
        intro r k a
        show gi (si (si (si S5 10 3 0) 10 4 0) 10 5 0) r k = _
        rw [gi_off (by omega), gi_off (by omega), gi_off (by omega)]
      have all : ∀ r k, ¬ XT r k → r ≠ 10 → ¬ (r = 4 ∧ k = 1) → ¬ (r = 1 ∧ k = 1) → ¬ XSR r k → gi S1 r k = gi S r k := by
        intro r k a1 a2 a3 a4 a5
        rw [st r k a1, pcl r k a2, cp.2.1 r k a3, g11 r k a4]; exact f2.1 r k a5
      have e4 : gi S1 4 1 = gi S2 175 1 := by
        rw [st 4 1 (by omega), pcl 4 1 (by omega), cp.1]; exact k1
      have F := m_first_is FU T2 T1 (gi S2 175 1) 0 t h2 (Int.le_refl _)
      refine ⟨RBX_sizes h ?_ ?_ (e4.trans F.2.1.symm) ?_ (fun r k p a1 a2 a3 a4 => all r k (by omega) (by omega) (by omega) (by omega) (by omega)) (fun r k p a1 a2 => ?_), e4.trans F.1.symm⟩
      · rw [st 1 1 (by omega), pcl 1 1 (by omega), cp.2.1 1 1 (by omega), gi_at]
      · rw [F.2.2.1 192 8 (by omega)]; exact m2.1
      · rw [all 6 1 (by omega) (by omega) (by omega) (by omega) (by omega), F.2.2.1 192 4 (by omega), m2.2 192 4 (by omega) (by omega)]
        exact h.2.2.1
      · rw [F.2.2.1 r k (by omega), m2.2 r k (by omega) (by omega)]
    · cases qo
  · have q := sim_readProof 60 (by decide) S T h.1 (cx_1_1 hC) r2 S2 none T2 e2 e3
    have m2 := m_rp_is e3
    rcases q.2 with ⟨_, qo, _⟩ | ⟨qr, _⟩
    · cases qo
    · dsimp only at h1
      rw [if_pos qr] at h1
      cases h1
      cases h2
      refine ⟨RBX_sizes h (gi_at _ _ _ _) m2.1 ?_ ?_ (fun r k p a1 a2 a3 a4 => by rw [g11 r k (by omega)]; exact f2.1 r k (by omega)) (fun r k p a1 a2 => m2.2 r k (by omega) (by omega)), rfl⟩
      · rw [g11 4 1 (by omega), f2.1 4 1 (by omega), m2.2 192 3 (by omega) (by omega)]; exact h.2.1
      · rw [g11 6 1 (by omega), f2.1 6 1 (by omega), m2.2 192 4 (by omega) (by omega)]; exact h.2.2.1
theorem RBX_second {S T S1 T1 : SS} {r t : Int} (hC : CX 0 S) (h : RBX S T) (h1 : f_MP_second S = some (r, S1)) (h2 : f_M_second T = some (t, T1)) : RBX S1 T1 ∧ r = t := by
  unfold f_MP_second at h1
  unfold f_M_second at h2
  unfold w_lt at h1 h2
  obtain ⟨r2, S2, e2, h1⟩ := w_b2E h1
  have f2 := fx_SheetReader_readProof (X := XSR) (S0 := S) (x_3_0 := .inl rfl) (x_3_1 := .inl rfl) (x_175_1 := .inr rfl) S 150 (FX_refl _ S) _ e2
  have g11 : ∀ r k, ¬ (r = 1 ∧ k = 1) → gi (si S2 1 1 0) r k = gi S2 r k := fun r k a => gi_off a
  rcases w_b3E h2 with ⟨n, T2, e3, h2⟩ | ⟨T2, e3, h2⟩
  · have q := sim_readProof 150 (by decide) S T h.1 (cx_1_1 hC) r2 S2 (some n) T2 e2 e3
    have m2 := m_rp_is e3
    rcases q.2 with ⟨qr, qo, q0, q1, _⟩ | ⟨_, qo⟩
    · cases qo
      dsimp only at h1
      rw [if_neg (show ¬ r2 = 0 by omega)] at h1
      obtain ⟨S5, e5, h1⟩ := w_b1E h1
      cases h1
      have k1 : gi (si S2 1 1 0) 175 1 = gi S2 175 1 := gi_off (by omega)
      have c6 : cap 6 = 150 := by decide
      have c175 : cap 175 = 150 := by decide
      have cp := sh_copy (by decide) (by decide) (by decide) e5 (by omega) (by omega) (by omega)
      have F := m_second_is FU T2 T1 (gi S2 175 1) 0 t h2 (Int.le_refl _)
      have e6 : gi S1 6 1 = gi S2 175 1 := cp.1.trans k1
      have all : ∀ r k, ¬ (r = 6 ∧ k = 1) → ¬ (r = 1 ∧ k = 1) → ¬ XSR r k → gi S1 r k = gi S r k := by
        intro r k a3 a4 a5
        rw [cp.2.1 r k a3, g11 r k a4]; exact f2.1 r k a5
      refine ⟨RBX_sizes h ?_ ?_ ?_ (e6.trans F.2.1.symm) (fun r k p a1 a2 a3 a4 => all r k (by omega) (by omega) (by omega)) (fun r k p a1 a2 => ?_), e6.trans F.1.symm⟩
      · rw [cp.2.1 1 1 (by omega), gi_at]
      · rw [F.2.2.1 192 8 (by omega)]; exact m2.1
      · rw [all 4 1 (by omega) (by omega) (by omega), F.2.2.1 192 3 (by omega), m2.2 192 3 (by omega) (by omega)]
        exact h.2.1
      · rw [F.2.2.1 r k (by omega), m2.2 r k (by omega) (by omega)]
    · cases qo
  · have q := sim_readProof 150 (by decide) S T h.1 (cx_1_1 hC) r2 S2 none T2 e2 e3
    have m2 := m_rp_is e3
    rcases q.2 with ⟨_, qo, _⟩ | ⟨qr, _⟩
    · cases qo
    · dsimp only at h1
      rw [if_pos qr] at h1
      cases h1
      cases h2
      refine ⟨RBX_sizes h (gi_at _ _ _ _) m2.1 ?_ ?_ (fun r k p a1 a2 a3 a4 => by rw [g11 r k (by omega)]; exact f2.1 r k (by omega)) (fun r k p a1 a2 => m2.2 r k (by omega) (by omega)), rfl⟩
      · rw [g11 4 1 (by omega), f2.1 4 1 (by omega), m2.2 192 3 (by omega) (by omega)]; exact h.2.1
      · rw [g11 6 1 (by omega), f2.1 6 1 (by omega), m2.2 192 4 (by omega) (by omega)]; exact h.2.2.1
theorem RBX_next {S T S1 T1 : SS} {r t : Int} (hC : CX 0 S) (h : RBX S T) (h1 : f_MP_next S = some (r, S1)) (h2 : f_M_next T = some (t, T1)) : RBX S1 T1 ∧ r = t := by
  have b6 := cx_sh hC (show shOk 6 by decide)
  have i := in01 T (gi T 192 4) 1 60
  unfold f_MP_next at h1
  unfold f_M_next at h2
  rw [← h.2.2.1] at h2 i
  by_cases c : 1 ≤ gi S 6 1 ∧ gi S 6 1 ≤ 60
  · rw [if_neg (by omega), if_pos (by omega)] at h1
    rw [if_neg (by omega)] at h2
    obtain ⟨S3, e3, h1⟩ := w_b1E h1
    unfold w_lt at h1
    obtain ⟨S9, e9, h1⟩ := w_b1E h1
    cases h1
    have c4 : cap 4 = 60 := by decide
    have c6 : cap 6 = 150 := by decide
    have cp := sh_copy (by decide) (by decide) (by decide) e3 (by omega) (by omega) (by omega)
    have st := fs_settle (X := XT) (fun _ _ q => q) _ _ (fr_refl _ _) _ e9
    have pcl : ∀ r k, r ≠ 10 → ¬ (r = 6 ∧ k = 1) → gi (f_Pile_clear (f_Sheet_clear S3 6)) r k = gi S3 r k := by
      intro r k a a2
      show gi (si (si (si (si S3 6 1 0) 10 3 0) 10 4 0) 10 5 0) r k = _
      rw [gi_off (by omega), gi_off (by omega), gi_off (by omega), gi_off (by omega)]
    have z6 : gi (f_Pile_clear (f_Sheet_clear S3 6)) 6 1 = 0 := by
      show gi (si (si (si (si S3 6 1 0) 10 3 0) 10 4 0) 10 5 0) 6 1 = _
      rw [gi_off (by omega), gi_off (by omega), gi_off (by omega), gi_at]
    have all : ∀ r k, ¬ XT r k → r ≠ 10 → ¬ (r = 4 ∧ k = 1) → ¬ (r = 6 ∧ k = 1) → gi S1 r k = gi S r k := by
      intro r k a1 a2 a3 a4
      rw [st r k a1, pcl r k a2 a4, cp.2.1 r k a3]
    have e4 : gi S1 4 1 = gi S 6 1 := by rw [st 4 1 (by omega), pcl 4 1 (by omega) (by omega), cp.1]
    have N := m_next_is FU T T1 0 t h2 (Int.le_refl _)
    obtain ⟨a, b, c', d, e, f, g⟩ := h
    have n8 : gi T1 192 8 = gi T 192 8 := N.2.2.2.2.1 192 8 (by omega)
    refine ⟨⟨⟨by rw [all 1 1 (by omega) (by omega) (by omega) (by omega), n8]; exact a.1, fun k hk => ?_⟩, by rw [e4, N.2.1]; exact c', by rw [st 6 1 (by omega), z6, N.2.2.1], fun k => by rw [all 12 k (by omega) (by omega) (by omega) (by omega), N.2.2.2.2.1 209 k (by omega)]; exact d k, fun k => by rw [all 191 k (by omega) (by omega) (by omega) (by omega), N.2.2.2.2.1 210 k (by omega)]; exact e k, by rw [all 183 5 (by omega) (by omega) (by omega) (by omega), N.2.2.2.2.1 211 0 (by omega)]; exact f, by rw [all 183 6 (by omega) (by omega) (by omega) (by omega), N.2.2.2.2.1 211 1 (by omega)]; exact g⟩, by rw [e4, N.1]; exact c'⟩
    rw [all 1 1 (by omega) (by omega) (by omega) (by omega)] at hk
    rw [all 2 k (by omega) (by omega) (by omega) (by omega), N.2.2.2.2.1 197 k (by omega)]
    exact a.2 k hk
  · rw [if_pos (by omega)] at h2
    cases h2
    by_cases d : gi S 6 1 = 0
    · rw [if_pos d] at h1; cases h1; exact ⟨h, rfl⟩
    · rw [if_neg d, if_neg (by omega)] at h1; cases h1; exact ⟨h, rfl⟩
theorem RBX_rank {S T S1 T1 : SS} {a1 a2 r t : Int} (h : RBX S T) (h1 : f_MP_rank S a1 a2 = some (r, S1)) (h2 : f_M_rank T a1 a2 = some (t, T1)) : RBX S1 T1 ∧ r = t := by
  have i1 := in01 T a1 0 2
  have i2 := in01 T a2 0 9
  unfold f_MP_rank at h1
  unfold f_M_rank at h2
  by_cases c : 0 ≤ a1 ∧ a1 ≤ 2 ∧ 0 ≤ a2 ∧ a2 ≤ 9
  · rw [if_neg (by omega), if_neg (by omega), if_neg (by omega), if_pos (by omega)] at h1
    rw [if_neg (by omega), if_neg (by omega)] at h2
    obtain ⟨_, h2⟩ := w_chkE h2
    obtain ⟨_, h2⟩ := w_chkE h2
    unfold w_lt at h1 h2
    cases h2
    obtain ⟨r1, er, h1⟩ := w_b1E h1
    obtain ⟨_, h1⟩ := w_chkE h1
    obtain ⟨S4, e4, h1⟩ := w_b1E h1
    cases h1
    unfold f_Pile_rankOf at er
    rw [if_neg (by omega), if_pos (by omega), w_chkP (by omega)] at er
    cases er
    have st := fs_settle (X := XT) (fun _ _ q => q) _ _ (fr_refl _ _) _ e4
    obtain ⟨a, b, c', d, e, f, g⟩ := h
    have ek : gi S 12 a1.toNat = gi T 209 a1.toNat := by
      rcases d a1.toNat with q | q
      · exact q
      · omega
    have all : ∀ r k, ¬ XT r k → r ≠ 12 → gi S1 r k = gi S r k := fun r k a1 a2 => by rw [st r k a1, gi_off (fun q => a2 q.1)]
    refine ⟨⟨⟨by rw [all 1 1 (by omega) (by omega), gi_off (by omega)]; exact a.1, fun k hk => ?_⟩, by rw [all 4 1 (by omega) (by omega), gi_off (by omega)]; exact b, by rw [all 6 1 (by omega) (by omega), gi_off (by omega)]; exact c', fun k => ?_, fun k => by rw [all 191 k (by omega) (by omega), gi_off (by omega)]; exact e k, by rw [all 183 5 (by omega) (by omega), gi_off (by omega)]; exact f, by rw [all 183 6 (by omega) (by omega), gi_off (by omega)]; exact g⟩, ek⟩
    · rw [all 1 1 (by omega) (by omega)] at hk
      rw [all 2 k (by omega) (by omega), gi_off (by omega)]; exact a.2 k hk
    · rw [st 12 k (by omega), gi_si, gi_si]
      by_cases e : k = a1.toNat
      · left; rw [if_pos ⟨rfl, e⟩, if_pos ⟨rfl, e⟩]
      · rw [if_neg (fun q => e q.2), if_neg (fun q => e q.2)]; exact d k
  · have q2 : t = -2 ∧ T1 = T := by
      by_cases d : 0 ≤ a1 ∧ a1 ≤ 2
      · rw [if_neg (by omega), if_pos (by omega)] at h2; cases h2; exact ⟨rfl, rfl⟩
      · rw [if_pos (by omega)] at h2; cases h2; exact ⟨rfl, rfl⟩
    have q1 : r = -2 ∧ S1 = S := by
      by_cases d1 : a1 < 0
      · rw [if_pos d1] at h1; cases h1; exact ⟨rfl, rfl⟩
      rw [if_neg d1] at h1
      by_cases d2 : 3 ≤ a1
      · rw [if_pos d2] at h1; cases h1; exact ⟨rfl, rfl⟩
      rw [if_neg d2] at h1
      by_cases d3 : a2 < 0
      · rw [if_pos d3] at h1; cases h1; exact ⟨rfl, rfl⟩
      rw [if_neg d3, if_neg (by omega)] at h1; cases h1; exact ⟨rfl, rfl⟩
    rw [q1.1, q2.1, q1.2, q2.2]
    exact ⟨h, rfl⟩
theorem RBX_price {S T S1 T1 : SS} {a1 a2 r t : Int} (h : RBX S T) (h1 : f_MP_price S a1 a2 = some (r, S1)) (h2 : f_M_price T a1 a2 = some (t, T1)) : RBX S1 T1 ∧ r = t := by
  have i1 := in01 T a1 0 4
  have i2 := in01 T a2 0 999
  unfold f_MP_price at h1
  unfold f_M_price at h2
  by_cases c : 0 ≤ a1 ∧ a1 ≤ 4 ∧ 0 ≤ a2 ∧ a2 ≤ 999
  · rw [if_neg (by omega), if_neg (by omega), if_neg (by omega), if_pos (by omega)] at h1
    rw [if_neg (by omega), if_neg (by omega)] at h2
    obtain ⟨_, h2⟩ := w_chkE h2
    obtain ⟨_, h2⟩ := w_chkE h2
    unfold w_lt at h2
    cases h2
    obtain ⟨r1, S2, er, h1⟩ := w_b2E h1
    cases h1
    unfold f_Bill_setPrice at er
    obtain ⟨p, ep, er⟩ := w_b1E er
    rw [if_neg (by omega), if_neg (by omega)] at er
    obtain ⟨_, er⟩ := w_chkE er
    unfold w_lt at er
    cases er
    unfold f_Bill_priceOf at ep
    rw [if_neg (by omega), if_pos (by omega), w_chkP (by omega)] at ep
    cases ep
    obtain ⟨a, b, c', d, e, f, g⟩ := h
    have ek : gi S 191 a1.toNat = gi T 210 a1.toNat := by
      rcases e a1.toNat with q | q
      · exact q
      · omega
    refine ⟨⟨⟨by rw [gi_off (by omega), gi_off (by omega)]; exact a.1, fun k hk => ?_⟩, by rw [gi_off (by omega), gi_off (by omega)]; exact b, by rw [gi_off (by omega), gi_off (by omega)]; exact c', fun k => by rw [gi_off (by omega), gi_off (by omega)]; exact d k, fun k => ?_, by rw [gi_off (by omega), gi_off (by omega)]; exact f, by rw [gi_off (by omega), gi_off (by omega)]; exact g⟩, ek⟩
    · rw [gi_off (by omega)] at hk
      rw [gi_off (by omega), gi_off (by omega)]; exact a.2 k hk
    · rw [gi_si, gi_si]
      by_cases e' : k = a1.toNat
      · left; rw [if_pos ⟨rfl, e'⟩, if_pos ⟨rfl, e'⟩]
      · rw [if_neg (fun q => e' q.2), if_neg (fun q => e' q.2)]; exact e k
  · have q2 : t = -2 ∧ T1 = T := by
      by_cases d : 0 ≤ a1 ∧ a1 ≤ 4
      · rw [if_neg (by omega), if_pos (by omega)] at h2; cases h2; exact ⟨rfl, rfl⟩
      · rw [if_pos (by omega)] at h2; cases h2; exact ⟨rfl, rfl⟩
    have q1 : r = -2 ∧ S1 = S := by
      by_cases d1 : a1 < 0
      · rw [if_pos d1] at h1; cases h1; exact ⟨rfl, rfl⟩
      rw [if_neg d1] at h1
      by_cases d2 : 5 ≤ a1
      · rw [if_pos d2] at h1; cases h1; exact ⟨rfl, rfl⟩
      rw [if_neg d2] at h1
      by_cases d3 : a2 < 0
      · rw [if_pos d3] at h1; cases h1; exact ⟨rfl, rfl⟩
      rw [if_neg d3, if_neg (by omega)] at h1; cases h1; exact ⟨rfl, rfl⟩
    rw [q1.1, q2.1, q1.2, q2.2]
    exact ⟨h, rfl⟩
theorem RBX_costs {S T S1 T1 : SS} {a1 a2 r t : Int} (h : RBX S T) (h1 : f_MP_costs S a1 a2 = some (r, S1)) (h2 : f_M_costs T a1 a2 = some (t, T1)) : RBX S1 T1 ∧ r = t := by
  have i1 := in01 T a1 1 9
  have i2 := in01 T a2 1 9
  unfold f_MP_costs at h1
  unfold f_M_costs at h2
  by_cases c : 1 ≤ a1 ∧ a1 ≤ 9 ∧ 1 ≤ a2 ∧ a2 ≤ 9
  · rw [if_neg (by omega), if_neg (by omega), if_neg (by omega), if_pos (by omega)] at h1
    rw [if_neg (by omega), if_neg (by omega)] at h2
    unfold w_lt at h1 h2
    obtain ⟨_, h2⟩ := w_chkE h2
    obtain ⟨_, h2⟩ := w_chkE h2
    cases h1
    cases h2
    obtain ⟨a, b, c', d, e, f, g⟩ := h
    refine ⟨⟨⟨by rw [gi_off (by omega), gi_off (by omega), gi_off (by omega), gi_off (by omega)]; exact a.1, fun k hk => ?_⟩, by rw [gi_off (by omega), gi_off (by omega), gi_off (by omega), gi_off (by omega)]; exact b, by rw [gi_off (by omega), gi_off (by omega), gi_off (by omega), gi_off (by omega)]; exact c', fun k => by rw [gi_off (by omega), gi_off (by omega), gi_off (by omega), gi_off (by omega)]; exact d k, fun k => by rw [gi_off (by omega), gi_off (by omega), gi_off (by omega), gi_off (by omega)]; exact e k, ?_, ?_⟩, rfl⟩
    · rw [gi_off (by omega), gi_off (by omega)] at hk
      rw [gi_off (by omega), gi_off (by omega), gi_off (by omega), gi_off (by omega)]; exact a.2 k hk
    · rw [gi_off (by omega), gi_at, gi_off (by decide)]; exact (gi_at T 211 0 a1).symm
    · rw [gi_at]; exact (gi_at _ 211 1 a2).symm
  · have q2 : t = -2 ∧ T1 = T := by
      by_cases d : 1 ≤ a1 ∧ a1 ≤ 9
      · rw [if_neg (by omega), if_pos (by omega)] at h2; cases h2; exact ⟨rfl, rfl⟩
      · rw [if_pos (by omega)] at h2; cases h2; exact ⟨rfl, rfl⟩
    have q1 : r = -2 ∧ S1 = S := by
      by_cases d1 : a1 < 1
      · rw [if_pos d1] at h1; cases h1; exact ⟨rfl, rfl⟩
      rw [if_neg d1] at h1
      by_cases d2 : 9 < a1
      · rw [if_pos d2] at h1; cases h1; exact ⟨rfl, rfl⟩
      rw [if_neg d2] at h1
      by_cases d3 : a2 < 1
      · rw [if_pos d3] at h1; cases h1; exact ⟨rfl, rfl⟩
      rw [if_neg d3, if_neg (by omega)] at h1; cases h1; exact ⟨rfl, rfl⟩
    rw [q1.1, q2.1, q1.2, q2.2]
    exact ⟨h, rfl⟩
theorem RBX_marks {S T S1 T1 : SS} {r t : Int} (hM : MX 0 T) (h : RBX S T) (h1 : f_MP_marks S = some (r, S1)) (h2 : f_M_marks T = some (t, T1)) : RBX S1 T1 := by
  have f1 := fs_marks S _ h1
  have f2 := fm_marks T hM _ h2
  refine RBX_sizes h f1.2 f2.1 ?_ ?_ (fun r k p a1 a2 a3 a4 => f1.1 r k (by omega)) (fun r k p a1 a2 => f2.2 r k (by omega) (by omega))
  · rw [f1.1 4 1 (by omega), f2.2 192 3 (by omega) (by omega)]; exact h.2.1
  · rw [f1.1 6 1 (by omega), f2.2 192 4 (by omega) (by omega)]; exact h.2.2.1
theorem RBX_answer {S T S1 T1 : SS} {a1 a2 r t : Int} (hM : MX 0 T) (h : RBX S T) (h1 : f_MP_answer S a1 a2 = some (r, S1)) (h2 : f_M_answer T a1 a2 = some (t, T1)) : RBX S1 T1 := by
  have f1 := fs_answer S a1 a2 _ h1
  have f2 := fm_answer hM a1 a2 _ h2
  exact RBX_keep h (fun r k p => f1 r k (by omega)) (fun r k p => f2 r k (by omega))
theorem RBX_hold {S T S1 T1 : SS} {r t : Int} (hM : MX 0 T) (hN : NX T) (h : RBX S T) (h1 : f_MP_hold S = some (r, S1)) (h2 : f_M_hold T = some (t, T1)) : RBX S1 T1 := by
  have f1 := fs_hold S _ h1
  have f2 := fm_hold hM hN _ h2
  exact RBX_keep h (fun r k p => f1 r k (by omega)) (fun r k p => f2 r k (by omega))
theorem RBX_distance {S T S1 T1 : SS} {a1 a2 r t : Int} (hM : MX 0 T) (hN : NX T) (h : RBX S T) (h1 : f_MP_distance S a1 a2 = some (r, S1)) (h2 : f_M_distance T a1 a2 = some (t, T1)) : RBX S1 T1 := by
  have f1 := fx_MP_distance (X := fun r _ => r = 182) (S0 := S) (x_182 := fun k => rfl) S a1 a2 (FX_refl _ S) _ h1
  have f2 := fm_distance hM hN a1 a2 _ h2
  exact RBX_keep h (fun r k p => f1.1 r k (by omega)) (fun r k p => f2 r k (by omega))
theorem RBX_error {S T S1 T1 : SS} {a1 a2 r t : Int} (h : RBX S T) (h1 : f_MP_error S a1 a2 = some (r, S1)) (h2 : f_M_error T a1 a2 = some (t, T1)) : RBX S1 T1 := by
  have f1 := fx_MP_error (X := fun r _ => 14 ≤ r ∧ r < 174) (S0 := S) (x_m_9 := fun j hj => by omega) S a1 a2 (FX_refl _ S) _ h1
  have f2 := fm_error (T := T) a1 a2 _ h2
  exact RBX_keep h (fun r k p => f1.1 r k (by omega)) (fun r k p => f2 r k (by omega))
theorem RBX_ref {S T T1 : SS} (h : RBX S T) (f2 : fr XM T T1) : RBX S T1 := RBX_keep h (keep_refl PCB) (fun r k p => f2 r k (by omega))
/-- sort of a byte: 1 small letter, 2 digit, 0 other -/
def t_cls (c : Int) : Int := if 97 ≤ c ∧ c ≤ 122 then 1 else if 48 ≤ c ∧ c ≤ 57 then 2 else 0
def t_bl (c : Int) : Prop := c = 32 ∨ c = 10
/-- the token from p on begins at s and ends ahead of e -/
def t_is (b : Int → Int) (N p s e : Int) : Prop := p ≤ s ∧ s ≤ N ∧ (∀ i, p ≤ i → i < s → t_bl (b i)) ∧ ((s = N ∧ e = N) ∨ (s < N ∧ ¬ t_bl (b s) ∧ s < e ∧ e ≤ N ∧ ((t_cls (b s) = 0 ∧ e = s + 1) ∨ (t_cls (b s) ≠ 0 ∧ (∀ i, s ≤ i → i < e → t_cls (b i) = t_cls (b s)) ∧ (e = N ∨ t_cls (b e) ≠ t_cls (b s))))))
theorem t_one {b : Int → Int} {N p s e s' e' : Int} (h : t_is b N p s e) (h' : t_is b N p s' e') : s = s' ∧ e = e' := by
  obtain ⟨a1, a2, a3, a4⟩ := h
  obtain ⟨b1, b2, b3, b4⟩ := h'
  have es : s = s' := by
    by_cases c : s < s'
    · have q := b3 s a1 c
      rcases a4 with a4 | a4
      · omega
      · exact absurd q a4.2.1
    · by_cases c2 : s' < s
      · have q := a3 s' b1 c2
        rcases b4 with b4 | b4
        · omega
        · exact absurd q b4.2.1
      · omega
  subst es
  refine ⟨rfl, ?_⟩
  rcases a4 with a4 | a4
  · rcases b4 with b4 | b4
    · omega
    · omega
  · rcases b4 with b4 | b4
    · omega
    · obtain ⟨_, _, p1, p2, p3⟩ := a4
      obtain ⟨_, _, q1, q2, q3⟩ := b4
      rcases p3 with p3 | p3
      · rcases q3 with q3 | q3
        · omega
        · exact absurd p3.1 q3.1
      · rcases q3 with q3 | q3
        · exact absurd q3.1 p3.1
        · by_cases c : e < e'
          · have q := q3.2.1 e (by omega) c
            rcases p3.2.2 with w | w
            · omega
            · exact absurd q w
          · by_cases c2 : e' < e
            · have q := p3.2.1 e' (by omega) c2
              rcases q3.2.2 with w | w
              · omega
              · exact absurd q w
            · omega
/-- digits from s on, n of them -/
def t_val (b : Int → Int) (s : Int) : Nat → Int
  | 0 => 0
  | n + 1 => 10 * t_val b s n + b (s + (n : Int)) - 48
def cby_ (S : SS) (i : Int) : Int := andi (gi S 2 i.toNat) 255
def mby_ (T : SS) (i : Int) : Int := andi (gi T 197 i.toNat) 255
theorem cls_c (S : SS) (c : Int) : f_MarkReader_sortOf S c = t_cls c := by
  unfold f_MarkReader_sortOf f_MP_isSmall f_MP_isDigit t_cls
  repeat' split
  all_goals first | rfl | omega
theorem bl_c (S : SS) (c : Int) : (f_MP_isBlank S c = 0 ∧ ¬ t_bl c) ∨ (f_MP_isBlank S c = 1 ∧ t_bl c) := by
  unfold f_MP_isBlank t_bl
  by_cases h : c = 32
  · rw [if_pos h]; exact .inr ⟨rfl, .inl h⟩
  · rw [if_neg h]
    by_cases h2 : c = 10
    · rw [if_pos h2]; exact .inr ⟨rfl, .inr h2⟩
    · rw [if_neg h2]; exact .inl ⟨rfl, fun q => q.elim h h2⟩
theorem sm_m (T : SS) (c : Int) : (f_M_isSmall T c = 0 ∧ t_cls c ≠ 1) ∨ (f_M_isSmall T c = 1 ∧ t_cls c = 1) := by
  unfold f_M_isSmall t_cls
  repeat' split
  all_goals first | (left; refine ⟨rfl, ?_⟩; omega) | (right; refine ⟨rfl, ?_⟩; omega)
theorem dg_m (T : SS) (c : Int) : (f_M_isDigit T c = 0 ∧ t_cls c ≠ 2) ∨ (f_M_isDigit T c = 1 ∧ t_cls c = 2) := by
  unfold f_M_isDigit t_cls
  repeat' split
  all_goals first | (left; refine ⟨rfl, ?_⟩; omega) | (right; refine ⟨rfl, ?_⟩; omega)
/-- class: blanks are passed -/
theorem tk_skip (S0 : SS) (p : Int) (h2 : gi S0 1 1 ≤ 2000) : ∀ (n : Nat) (S : SS) (i : Int), 0 ≤ p → p ≤ i → i ≤ gi S0 1 1 → gi S 177 4 = i → FX (fun r k => r = 177 ∧ k = 4) S0 S → (∀ j, p ≤ j → j < i → t_bl (cby_ S0 j)) → pc (f_MarkReader_skipBlanks_5 n S i) (fun S1 => FX (fun r k => r = 177 ∧ k = 4) S0 S1 ∧ p ≤ gi S1 177 4 ∧ gi S1 177 4 ≤ gi S0 1 1 ∧ (∀ j, p ≤ j → j < gi S1 177 4 → t_bl (cby_ S0 j)) ∧ (gi S1 177 4 = gi S0 1 1 ∨ ¬ t_bl (cby_ S0 (gi S1 177 4)))) := by
  intro n
  induction n with
  | zero => intro S i _ _ _ _ _ _ r e; exact absurd e (by simp [f_MarkReader_skipBlanks_5])
  | succ n ih =>
    intro S i hp h1 hi h4 hf hb
    have e11 : gi S 1 1 = gi S0 1 1 := hf.1 1 1 (by omega)
    have e2 : gi S 2 i.toNat = gi S0 2 i.toNat := hf.1 2 _ (by omega)
    show pc (f_MarkReader_skipBlanks_5_b (f_MarkReader_skipBlanks_5 n) S i) _
    unfold f_MarkReader_skipBlanks_5_b
    refine pc_chk (fun _ => pc_if (fun c => pc_some ⟨hf, by omega, by omega, fun j a d => hb j a (by omega), .inl (by omega)⟩) (fun c => pc_chk (fun _ => ?_)))
    rw [w_b1_is (cby (S := S) (i := i) (by omega) (by omega) (by omega)), e2]
    have eb : andi (gi S0 2 i.toNat) 255 = cby_ S0 i := rfl
    rw [eb]
    rcases bl_c S (cby_ S0 i) with q | q
    · refine pc_if (fun _ => pc_some ⟨hf, by omega, by omega, fun j a d => hb j a (by omega), .inr (by rw [h4]; exact q.2)⟩) (fun c2 => absurd q.1 c2)
    · refine pc_if (fun c2 => absurd (q.1.symm.trans c2) (by decide)) (fun _ => pc_chk (fun _ => pc_lt (fun S6 e6 => pc_chk (fun _ => ?_))))
      refine ih S6 (i + 1) hp (by omega) (by omega) (by rw [e6, gi_at]) (by rw [e6]; exact FX_si hf ⟨rfl, rfl⟩) (fun j a d => ?_)
      by_cases e : j = i
      · rw [e]; exact q.2
      · exact hb j a (by omega)
/-- class: bytes of one sort are passed -/
theorem tk_run (S0 : SS) (s cl : Int) (h2 : gi S0 1 1 ≤ 2000) : ∀ (n : Nat) (S : SS) (i : Int), 0 ≤ s → s ≤ i → i ≤ gi S0 1 1 → gi S 177 4 = i → gi S 177 6 = cl → FX (fun r k => r = 177 ∧ k = 4) S0 S → (∀ j, s ≤ j → j < i → t_cls (cby_ S0 j) = cl) → pc (f_MarkReader_readToken_67 n S i) (fun S1 => FX (fun r k => r = 177 ∧ k = 4) S0 S1 ∧ i ≤ gi S1 177 4 ∧ gi S1 177 4 ≤ gi S0 1 1 ∧ (∀ j, s ≤ j → j < gi S1 177 4 → t_cls (cby_ S0 j) = cl) ∧ (gi S1 177 4 = gi S0 1 1 ∨ t_cls (cby_ S0 (gi S1 177 4)) ≠ cl)) := by
  intro n
  induction n with
  | zero => intro S i _ _ _ _ _ _ _ r e; exact absurd e (by simp [f_MarkReader_readToken_67])
  | succ n ih =>
    intro S i hp h1 hi h4 h6 hf hb
    have e11 : gi S 1 1 = gi S0 1 1 := hf.1 1 1 (by omega)
    have e2 : gi S 2 i.toNat = gi S0 2 i.toNat := hf.1 2 _ (by omega)
    show pc (f_MarkReader_readToken_67_b (f_MarkReader_readToken_67 n) S i) _
    unfold f_MarkReader_readToken_67_b
    refine pc_chk (fun _ => pc_if (fun c => pc_some ⟨hf, by omega, by omega, fun j a d => hb j a (by omega), .inl (by omega)⟩) (fun c => pc_chk (fun _ => ?_)))
    rw [w_b1_is (cby (S := S) (i := i) (by omega) (by omega) (by omega)), e2, cls_c, h6]
    have eb : andi (gi S0 2 i.toNat) 255 = cby_ S0 i := rfl
    rw [eb]
    refine pc_if (fun c2 => pc_chk (fun _ => pc_lt (fun S6 e6 => pc_chk (fun _ => ?_)))) (fun c2 => pc_some ⟨hf, by omega, by omega, fun j a d => hb j a (by omega), .inr (by rw [h4]; exact c2)⟩)
    refine pc_mono (ih S6 (i + 1) hp (by omega) (by omega) (by rw [e6, gi_at]) (by rw [e6, gi_off (by omega)]; exact h6) (by rw [e6]; exact FX_si hf ⟨rfl, rfl⟩) (fun j a d => ?_)) (fun S1 h => ⟨h.1, by omega, h.2.2⟩)
    by_cases e : j = i
    · rw [e]; exact c2
    · exact hb j a (by omega)
/-- class: a token is read -/
theorem tk_read (S : SS) (h0 : 0 ≤ gi S 177 4 ∧ gi S 177 4 ≤ gi S 1 1) (h2 : gi S 1 1 ≤ 2000) : pc (f_MarkReader_readToken S) (fun S1 => FX (fun r k => r = 177 ∧ 4 ≤ k) S S1 ∧ t_is (cby_ S) (gi S 1 1) (gi S 177 4) (gi S1 177 5) (gi S1 177 4) ∧ gi S1 177 6 = (if gi S1 177 5 = gi S 1 1 then 0 else t_cls (cby_ S (gi S1 177 5)))) := by
  unfold f_MarkReader_readToken f_MarkReader_skipBlanks
  refine pc_b1 (tk_skip S (gi S 177 4) h2 FU S (gi S 177 4) h0.1 (Int.le_refl _) h0.2 rfl (FX_refl _ S) (fun j a d => by omega)) (fun S1 h1 => pc_lt (fun S4 e4 => pc_chk (fun _ => ?_)))
  obtain ⟨f1, p1, p2, p3, p4⟩ := h1
  have f1' : FX (fun r k => r = 177 ∧ 4 ≤ k) S S1 := ⟨fun r k a => f1.1 r k (by omega), f1.2⟩
  have f4 : FX (fun r k => r = 177 ∧ 4 ≤ k) S S4 := by rw [e4]; exact FX_si f1' ⟨rfl, by omega⟩
  have a4 : gi S4 177 4 = gi S1 177 4 := by rw [e4, gi_off (by omega)]
  have a5 : gi S4 177 5 = gi S1 177 4 := by rw [e4, gi_at]
  have e11 : gi S4 1 1 = gi S 1 1 := f4.1 1 1 (by omega)
  have e2 : ∀ k, gi S4 2 k = gi S 2 k := fun k => f4.1 2 k (by omega)
  by_cases c : gi S1 177 4 = gi S 1 1
  · -- at the end
    have eb : f_Tape_byteAt S4 (gi S4 177 4) = some (-1) := by
      unfold f_Tape_byteAt
      rw [if_neg (by omega), if_pos (by omega)]
    rw [w_b1_is eb, cls_c]
    refine pc_lt (fun S9 e9 => pc_chk (fun _ => ?_))
    have z : t_cls (-1) = 0 := by decide
    have b4 : gi S9 177 4 = gi S1 177 4 := by rw [e9, gi_off (by omega)]; exact a4
    have b5 : gi S9 177 5 = gi S1 177 4 := by rw [e9, gi_off (by omega)]; exact a5
    have b6 : gi S9 177 6 = 0 := by rw [e9, gi_at]; exact z
    have b11 : gi S9 1 1 = gi S 1 1 := by rw [e9, gi_off (by omega)]; exact e11
    unfold f_MarkReader_readToken_54
    refine pc_if (fun _ => pc_if (fun _ => pc_some ⟨?_, ?_, ?_⟩) (fun c2 => absurd b6 c2)) (fun c2 => absurd c2 (by omega))
    · rw [e9]; exact FX_si f4 ⟨rfl, by omega⟩
    · rw [b5, b4]; exact ⟨p1, p2, p3, .inl ⟨c, c⟩⟩
    · rw [b6, b5, if_pos c]
  · have hb : ¬ t_bl (cby_ S (gi S1 177 4)) := by
      rcases p4 with q | q
      · exact absurd q c
      · exact q
    rw [w_b1_is (cby (S := S4) (i := gi S4 177 4) (by omega) (by omega) (by omega)), a4, e2, cls_c]
    have eb : andi (gi S 2 (gi S1 177 4).toNat) 255 = cby_ S (gi S1 177 4) := rfl
    rw [eb]
    refine pc_lt (fun S9 e9 => pc_chk (fun _ => ?_))
    have b4 : gi S9 177 4 = gi S1 177 4 := by rw [e9, gi_off (by omega)]; exact a4
    have b5 : gi S9 177 5 = gi S1 177 4 := by rw [e9, gi_off (by omega)]; exact a5
    have b6 : gi S9 177 6 = t_cls (cby_ S (gi S1 177 4)) := by rw [e9, gi_at]
    have f9 : FX (fun r k => r = 177 ∧ 4 ≤ k) S S9 := by rw [e9]; exact FX_si f4 ⟨rfl, by omega⟩
    have b11 : gi S9 1 1 = gi S 1 1 := f9.1 1 1 (by omega)
    refine pc_if (fun c2 => absurd c2 (by omega)) (fun c2 => pc_chk (fun _ => pc_lt (fun S14 e14 => ?_)))
    have f14 : FX (fun r k => r = 177 ∧ 4 ≤ k) S S14 := by rw [e14]; exact FX_si f9 ⟨rfl, by omega⟩
    have d4 : gi S14 177 4 = gi S1 177 4 + 1 := by rw [e14, gi_at, b4]
    have d5 : gi S14 177 5 = gi S1 177 4 := by rw [e14, gi_off (by omega)]; exact b5
    have d6 : gi S14 177 6 = t_cls (cby_ S (gi S1 177 4)) := by rw [e14, gi_off (by omega)]; exact b6
    unfold f_MarkReader_readToken_54
    refine pc_if (fun c3 => pc_some ⟨f14, ?_, ?_⟩) (fun c3 => ?_)
    · rw [d5, d4]; exact ⟨p1, p2, p3, .inr ⟨by omega, hb, by omega, by omega, .inl ⟨by rw [← d6]; exact c3, rfl⟩⟩⟩
    · rw [d6, d5, if_neg c]
    · have e14' : gi S14 1 1 = gi S 1 1 := f14.1 1 1 (by omega)
      have ec : ∀ j, cby_ S14 j = cby_ S j := fun j => by unfold cby_; rw [f14.1 2 _ (by omega)]
      refine pc_mono (tk_run S14 (gi S1 177 4) (t_cls (cby_ S (gi S1 177 4))) (by omega) FU S14 (gi S14 177 4) (by omega) (by omega) (by omega) rfl d6 (FX_refl _ S14) (fun j a d => ?_)) (fun S2 h2 => ?_)
      · rw [ec, show j = gi S1 177 4 by omega]
      · obtain ⟨g1, g2, g3, g4, g5⟩ := h2
        have x5 : gi S2 177 5 = gi S1 177 4 := by rw [g1.1 177 5 (by omega)]; exact d5
        have x6 : gi S2 177 6 = t_cls (cby_ S (gi S1 177 4)) := by rw [g1.1 177 6 (by omega)]; exact d6
        refine ⟨⟨fun r k a => by rw [g1.1 r k (by omega)]; exact f14.1 r k a, g1.2.trans f14.2⟩, ?_, by rw [x6, x5, if_neg c]⟩
        rw [x5]
        refine ⟨p1, p2, p3, .inr ⟨by omega, hb, by omega, by omega, .inr ⟨by rw [← d6]; exact c3, fun j a d => ?_, ?_⟩⟩⟩
        · rw [← ec]; exact g4 j a d
        · rcases g5 with q | q
          · left; omega
          · right; rw [← ec]; exact q
abbrev XSN (r k : Nat) : Prop := r = 192 ∧ 10 ≤ k ∧ k ≤ 13
theorem mby2 {S : SS} {k : Int} (h0 : 0 ≤ k) (h2 : gi S 192 9 ≤ 2000) : f_M_byteAt S k = some (if gi S 192 9 ≤ k then 0 else andi (gi S 197 k.toNat) 255) := by
  by_cases c : gi S 192 9 ≤ k
  · unfold f_M_byteAt; rw [if_pos c, if_pos c]
  · rw [if_neg c]; exact mby h0 (by omega) h2
theorem mk_81 (S0 : SS) (s : Int) (h2 : gi S0 192 9 ≤ 2000) : ∀ (n : Nat) (S : SS), fr XSN S0 S → gi S 192 10 = s → 0 ≤ s → s ≤ gi S 192 11 → gi S 192 11 ≤ gi S0 192 9 → (∀ j, s ≤ j → j < gi S 192 11 → t_cls (mby_ S0 j) = 1) → pc (f_M_scan_81 n S) (fun S1 => fr XSN S0 S1 ∧ gi S1 192 10 = s ∧ gi S1 192 12 = 1 ∧ s ≤ gi S1 192 11 ∧ gi S1 192 11 ≤ gi S0 192 9 ∧ (∀ j, s ≤ j → j < gi S1 192 11 → t_cls (mby_ S0 j) = 1) ∧ (gi S1 192 11 = gi S0 192 9 ∨ t_cls (mby_ S0 (gi S1 192 11)) ≠ 1)) := by
  intro n
  induction n with
  | zero => intro S _ _ _ _ _ _ r e; exact absurd e (by simp [f_M_scan_81])
  | succ n ih =>
    intro S hf hs h0 h1 hN hb
    have e9 : gi S 192 9 = gi S0 192 9 := hf 192 9 (by omega)
    have e197 : gi S 197 (gi S 192 11).toNat = gi S0 197 (gi S 192 11).toNat := hf 197 _ (by omega)
    show pc (f_M_scan_81_b (f_M_scan_81 n) S) _
    unfold f_M_scan_81_b
    rw [w_b1_is (mby2 (S := S) (k := gi S 192 11) (by omega) (by omega)), e9, e197]
    have eb : andi (gi S0 197 (gi S 192 11).toNat) 255 = mby_ S0 (gi S 192 11) := rfl
    rw [eb]
    have sm := sm_m S (if gi S0 192 9 ≤ gi S 192 11 then 0 else mby_ S0 (gi S 192 11))
    refine pc_if (fun c => pc_lt (fun S5 e5 => pc_some ?_)) (fun c => pc_chk (fun _ => pc_lt (fun S8 e8 => ?_)))
    · have d10 : gi S5 192 10 = s := by rw [e5, gi_off (by omega)]; exact hs
      have d11 : gi S5 192 11 = gi S 192 11 := by rw [e5, gi_off (by omega)]
      refine ⟨by rw [e5]; exact fr_si hf ⟨rfl, by omega, by omega⟩, d10, by rw [e5, gi_at], by omega, by omega, fun j a d => hb j a (by omega), ?_⟩
      rw [d11]
      by_cases c9 : gi S0 192 9 ≤ gi S 192 11
      · left; omega
      · right
        rw [if_neg c9] at sm c
        rcases sm with q | q
        · exact q.2
        · exact absurd (q.1.symm.trans c) (by decide)
    · have c9 : ¬ gi S0 192 9 ≤ gi S 192 11 := by
        intro c9
        rw [if_pos c9] at sm c
        have z : t_cls 0 = 0 := by decide
        rcases sm with q | q
        · exact c q.1
        · rw [z] at q; exact absurd q.2 (by decide)
      rw [if_neg c9] at sm c
      have cl : t_cls (mby_ S0 (gi S 192 11)) = 1 := by
        rcases sm with q | q
        · exact absurd q.1 c
        · exact q.2
      have d10 : gi S8 192 10 = s := by rw [e8, gi_off (by omega)]; exact hs
      have d11 : gi S8 192 11 = gi S 192 11 + 1 := by rw [e8, gi_at]
      refine ih S8 (by rw [e8]; exact fr_si hf ⟨rfl, by omega, by omega⟩) d10 h0 (by omega) (by omega) (fun j a d => ?_)
      by_cases e : j = gi S 192 11
      · rw [e]; exact cl
      · exact hb j a (by omega)
theorem mk_128 (S0 : SS) (s : Int) (h2 : gi S0 192 9 ≤ 2000) : ∀ (n : Nat) (S : SS), fr XSN S0 S → gi S 192 10 = s → 0 ≤ s → s ≤ gi S 192 11 → gi S 192 11 ≤ gi S0 192 9 → (∀ j, s ≤ j → j < gi S 192 11 → t_cls (mby_ S0 j) = 2) → gi S 192 13 = t_val (mby_ S0) s (min (gi S 192 11 - s).toNat 3) → pc (f_M_scan_128 n S) (fun S1 => fr XSN S0 S1 ∧ gi S1 192 10 = s ∧ ((gi S1 192 11 - s ≤ 3 ∧ gi S1 192 12 = 2) ∨ (3 < gi S1 192 11 - s ∧ gi S1 192 12 = 4)) ∧ s ≤ gi S1 192 11 ∧ gi S1 192 11 ≤ gi S0 192 9 ∧ (∀ j, s ≤ j → j < gi S1 192 11 → t_cls (mby_ S0 j) = 2) ∧ (gi S1 192 11 = gi S0 192 9 ∨ t_cls (mby_ S0 (gi S1 192 11)) ≠ 2) ∧ gi S1 192 13 = t_val (mby_ S0) s (min (gi S1 192 11 - s).toNat 3)) := by
  intro n
  induction n with
  | zero => intro S _ _ _ _ _ _ _ r e; exact absurd e (by simp [f_M_scan_128])
  | succ n ih =>
    intro S hf hs h0 h1 hN hb hv
    have e9 : gi S 192 9 = gi S0 192 9 := hf 192 9 (by omega)
    have e197 : gi S 197 (gi S 192 11).toNat = gi S0 197 (gi S 192 11).toNat := hf 197 _ (by omega)
    show pc (f_M_scan_128_b (f_M_scan_128 n) S) _
    unfold f_M_scan_128_b
    rw [w_b1_is (mby2 (S := S) (k := gi S 192 11) (by omega) (by omega)), e9, e197]
    have eb : andi (gi S0 197 (gi S 192 11).toNat) 255 = mby_ S0 (gi S 192 11) := rfl
    rw [eb]
    have dg := dg_m S (if gi S0 192 9 ≤ gi S 192 11 then 0 else mby_ S0 (gi S 192 11))
    refine pc_if (fun c => pc_chk (fun _ => ?_)) (fun c => pc_chk (fun _ => ?_))
    · have stop : gi S 192 11 = gi S0 192 9 ∨ t_cls (mby_ S0 (gi S 192 11)) ≠ 2 := by
        by_cases c9 : gi S0 192 9 ≤ gi S 192 11
        · left; omega
        · right
          rw [if_neg c9] at dg c
          rcases dg with q | q
          · exact q.2
          · exact absurd (q.1.symm.trans c) (by decide)
      have fin : ∀ v, ((gi S 192 11 - s ≤ 3 ∧ v = 2) ∨ (3 < gi S 192 11 - s ∧ v = 4)) → pc (f_M_scan_210 S v) (fun S1 => fr XSN S0 S1 ∧ gi S1 192 10 = s ∧ ((gi S1 192 11 - s ≤ 3 ∧ gi S1 192 12 = 2) ∨ (3 < gi S1 192 11 - s ∧ gi S1 192 12 = 4)) ∧ s ≤ gi S1 192 11 ∧ gi S1 192 11 ≤ gi S0 192 9 ∧ (∀ j, s ≤ j → j < gi S1 192 11 → t_cls (mby_ S0 j) = 2) ∧ (gi S1 192 11 = gi S0 192 9 ∨ t_cls (mby_ S0 (gi S1 192 11)) ≠ 2) ∧ gi S1 192 13 = t_val (mby_ S0) s (min (gi S1 192 11 - s).toNat 3)) := by
        intro v hv'
        unfold f_M_scan_210
        refine pc_lt (fun S5 e5 => pc_some ?_)
        have d10 : gi S5 192 10 = s := by rw [e5, gi_off (by omega)]; exact hs
        have d11 : gi S5 192 11 = gi S 192 11 := by rw [e5, gi_off (by omega)]
        have d12 : gi S5 192 12 = v := by rw [e5, gi_at]
        have d13 : gi S5 192 13 = gi S 192 13 := by rw [e5, gi_off (by omega)]
        rw [d10, d11, d12, d13]
        exact ⟨by rw [e5]; exact fr_si hf ⟨rfl, by omega, by omega⟩, rfl, hv', h1, hN, hb, stop, hv⟩
      exact pc_if (fun c2 => fin 2 (.inl ⟨by omega, rfl⟩)) (fun c2 => fin 4 (.inr ⟨by omega, rfl⟩))
    · have c9 : ¬ gi S0 192 9 ≤ gi S 192 11 := by
        intro c9
        rw [if_pos c9] at dg c
        have z : t_cls 0 = 0 := by decide
        rcases dg with q | q
        · exact c q.1
        · rw [z] at q; exact absurd q.2 (by decide)
      rw [if_neg c9] at dg c
      have cl : t_cls (mby_ S0 (gi S 192 11)) = 2 := by
        rcases dg with q | q
        · exact absurd q.1 c
        · exact q.2
      have go : ∀ S', fr XSN S0 S' → gi S' 192 10 = s → gi S' 192 11 = gi S 192 11 → gi S' 192 13 = t_val (mby_ S0) s (min (gi S 192 11 + 1 - s).toNat 3) → pc (f_M_scan_178 (f_M_scan_128 n) S') (fun S1 => fr XSN S0 S1 ∧ gi S1 192 10 = s ∧ ((gi S1 192 11 - s ≤ 3 ∧ gi S1 192 12 = 2) ∨ (3 < gi S1 192 11 - s ∧ gi S1 192 12 = 4)) ∧ s ≤ gi S1 192 11 ∧ gi S1 192 11 ≤ gi S0 192 9 ∧ (∀ j, s ≤ j → j < gi S1 192 11 → t_cls (mby_ S0 j) = 2) ∧ (gi S1 192 11 = gi S0 192 9 ∨ t_cls (mby_ S0 (gi S1 192 11)) ≠ 2) ∧ gi S1 192 13 = t_val (mby_ S0) s (min (gi S1 192 11 - s).toNat 3)) := by
        intro S' f' a10 a11 a13
        unfold f_M_scan_178
        refine pc_chk (fun _ => pc_lt (fun S3 e3 => ?_))
        have d10 : gi S3 192 10 = s := by rw [e3, gi_off (by omega)]; exact a10
        have d11 : gi S3 192 11 = gi S 192 11 + 1 := by rw [e3, gi_at, a11]
        have d13 : gi S3 192 13 = gi S' 192 13 := by rw [e3, gi_off (by omega)]
        refine ih S3 (by rw [e3]; exact fr_si f' ⟨rfl, by omega, by omega⟩) d10 h0 (by omega) (by omega) (fun j a d => ?_) (by rw [d13, d11]; exact a13)
        by_cases e : j = gi S 192 11
        · rw [e]; exact cl
        · exact hb j a (by omega)
      refine pc_if (fun c2 => go S hf hs rfl ?_) (fun c2 => pc_chk (fun _ => ?_))
      · rw [hv, show min (gi S 192 11 - s).toNat 3 = 3 by omega, show min (gi S 192 11 + 1 - s).toNat 3 = 3 by omega]
      · rw [w_b1_is (mby2 (S := S) (k := gi S 192 11) (by omega) (by omega)), e9, if_neg c9, e197, eb]
        refine pc_chk (fun _ => pc_chk (fun _ => pc_lt (fun S18 e18 => go S18 (by rw [e18]; exact fr_si hf ⟨rfl, by omega, by omega⟩) (by rw [e18, gi_off (by omega)]; exact hs) (by rw [e18, gi_off (by omega)]) ?_)))
        rw [e18, gi_at, hv]
        obtain ⟨m, hm⟩ : ∃ m : Nat, (gi S 192 11 - s).toNat = m := ⟨_, rfl⟩
        rw [show min (gi S 192 11 - s).toNat 3 = m by omega, show min (gi S 192 11 + 1 - s).toNat 3 = m + 1 by omega, t_val, show s + (m : Int) = gi S 192 11 by omega]
/-- what the reference's hand says of the token s .. e -/
def t_hand (b : Int → Int) (N s e hand value : Int) : Prop := (s = N → hand = 0) ∧ (s < N → (t_cls (b s) = 1 → hand = 1) ∧ (t_cls (b s) = 2 → ((e - s ≤ 3 ∧ hand = 2) ∨ (3 < e - s ∧ hand = 4)) ∧ value = t_val b s (min (e - s).toNat 3)) ∧ (t_cls (b s) = 0 → (hand = 3 ∧ (b s = 63 ∨ b s = 61 ∨ b s = 59)) ∨ (hand = 4 ∧ ¬ (b s = 63 ∨ b s = 61 ∨ b s = 59))))
theorem mk_38 (S0 S : SS) (p : Int) (h2 : gi S0 192 9 ≤ 2000) (hf : fr XSN S0 S) (h0 : 0 ≤ p) (h1 : p ≤ gi S 192 11) (hN : gi S 192 11 ≤ gi S0 192 9) (hb : ∀ j, p ≤ j → j < gi S 192 11 → t_bl (mby_ S0 j)) (hs : gi S 192 11 = gi S0 192 9 ∨ ¬ t_bl (mby_ S0 (gi S 192 11))) : pc (f_M_scan_38 S) (fun S1 => fr XSN S0 S1 ∧ t_is (mby_ S0) (gi S0 192 9) p (gi S1 192 10) (gi S1 192 11) ∧ t_hand (mby_ S0) (gi S0 192 9) (gi S1 192 10) (gi S1 192 11) (gi S1 192 12) (gi S1 192 13)) := by
  unfold f_M_scan_38
  refine pc_lt (fun S2 e2 => ?_)
  have f2 : fr XSN S0 S2 := by rw [e2]; exact fr_si hf ⟨rfl, by omega, by omega⟩
  have d10 : gi S2 192 10 = gi S 192 11 := by rw [e2, gi_at]
  have d11 : gi S2 192 11 = gi S 192 11 := by rw [e2, gi_off (by omega)]
  have e9 : gi S2 192 9 = gi S0 192 9 := f2 192 9 (by omega)
  have e197 : gi S2 197 (gi S 192 11).toNat = gi S0 197 (gi S 192 11).toNat := f2 197 _ (by omega)
  rw [d10, w_b1_is (mby2 (S := S2) (k := gi S 192 11) (by omega) (by omega)), e9, e197]
  have eb : andi (gi S0 197 (gi S 192 11).toNat) 255 = mby_ S0 (gi S 192 11) := rfl
  rw [eb]
  refine pc_if (fun c => pc_lt (fun S11 e11 => pc_some ?_)) (fun c => ?_)
  · have x10 : gi S11 192 10 = gi S 192 11 := by rw [e11, gi_off (by omega)]; exact d10
    have x11 : gi S11 192 11 = gi S 192 11 := by rw [e11, gi_off (by omega)]; exact d11
    refine ⟨by rw [e11]; exact fr_si f2 ⟨rfl, by omega, by omega⟩, ?_, ?_⟩
    · rw [x10, x11]; exact ⟨h1, hN, hb, .inl ⟨c, c⟩⟩
    · rw [x10, x11]; exact ⟨fun _ => by rw [e11, gi_at], fun q => by omega⟩
  · have nb : ¬ t_bl (mby_ S0 (gi S 192 11)) := by
      rcases hs with q | q
      · exact absurd q c
      · exact q
    rw [if_neg (show ¬ gi S0 192 9 ≤ gi S 192 11 by omega)]
    have sm := sm_m S2 (mby_ S0 (gi S 192 11))
    have dg := dg_m S2 (mby_ S0 (gi S 192 11))
    refine pc_if (fun c2 => pc_if (fun c3 => ?_) (fun c3 => pc_lt (fun S10 e10 => ?_))) (fun c2 => ?_)
    · have cl : t_cls (mby_ S0 (gi S 192 11)) = 0 := by
        have a1 : t_cls (mby_ S0 (gi S 192 11)) ≠ 1 := by
          rcases sm with q | q
          · exact q.2
          · exact absurd (q.1.symm.trans c2) (by decide)
        have a2 : t_cls (mby_ S0 (gi S 192 11)) ≠ 2 := by
          rcases dg with q | q
          · exact q.2
          · exact absurd (q.1.symm.trans c3) (by decide)
        unfold t_cls at a1 a2 ⊢
        split at a1
        · exact absurd rfl a1
        · rename_i x
          rw [if_neg x] at a2 ⊢
          split at a2
          · exact absurd rfl a2
          · rename_i y; rw [if_neg y]
      have fin : ∀ v, ((v = 3 ∧ (mby_ S0 (gi S 192 11) = 63 ∨ mby_ S0 (gi S 192 11) = 61 ∨ mby_ S0 (gi S 192 11) = 59)) ∨ (v = 4 ∧ ¬ (mby_ S0 (gi S 192 11) = 63 ∨ mby_ S0 (gi S 192 11) = 61 ∨ mby_ S0 (gi S 192 11) = 59))) → pc (f_M_scan_240 S2 v) (fun S1 => fr XSN S0 S1 ∧ t_is (mby_ S0) (gi S0 192 9) p (gi S1 192 10) (gi S1 192 11) ∧ t_hand (mby_ S0) (gi S0 192 9) (gi S1 192 10) (gi S1 192 11) (gi S1 192 12) (gi S1 192 13)) := by
        intro v hv
        unfold f_M_scan_240
        refine pc_lt (fun S3 e3 => pc_chk (fun _ => pc_lt (fun S4 e4 => pc_some ?_)))
        have x10 : gi S4 192 10 = gi S 192 11 := by rw [e4, gi_off (by omega), e3, gi_off (by omega)]; exact d10
        have x11 : gi S4 192 11 = gi S 192 11 + 1 := by rw [e4, gi_at, e3, gi_off (by omega), d11]
        have x12 : gi S4 192 12 = v := by rw [e4, gi_off (by omega), e3, gi_at]
        refine ⟨by rw [e4, e3]; exact fr_si (fr_si f2 ⟨rfl, by omega, by omega⟩) ⟨rfl, by omega, by omega⟩, ?_, ?_⟩
        · rw [x10, x11]; exact ⟨h1, hN, hb, .inr ⟨by omega, nb, by omega, by omega, .inl ⟨cl, rfl⟩⟩⟩
        · rw [x10, x11, x12]
          exact ⟨fun q => absurd q c, fun _ => ⟨fun q => absurd (cl.symm.trans q) (by decide), fun q => absurd (cl.symm.trans q) (by decide), fun _ => hv⟩⟩
      unfold f_M_scan_235
      exact pc_if (fun q => fin 3 (.inl ⟨rfl, .inl q⟩)) (fun q1 => pc_if (fun q => fin 3 (.inl ⟨rfl, .inr (.inl q)⟩)) (fun q2 => pc_if (fun q => fin 3 (.inl ⟨rfl, .inr (.inr q)⟩)) (fun q3 => fin 4 (.inr ⟨rfl, fun q => q.elim q1 (fun q => q.elim q2 q3)⟩))))
    · have cl : t_cls (mby_ S0 (gi S 192 11)) = 2 := by
        rcases dg with q | q
        · exact absurd q.1 c3
        · exact q.2
      have f10 : fr XSN S0 S10 := by rw [e10]; exact fr_si f2 ⟨rfl, by omega, by omega⟩
      have x10 : gi S10 192 10 = gi S 192 11 := by rw [e10, gi_off (by omega)]; exact d10
      have x11 : gi S10 192 11 = gi S 192 11 := by rw [e10, gi_off (by omega)]; exact d11
      refine pc_mono (mk_128 S0 (gi S 192 11) h2 FU S10 f10 x10 (by omega) (by omega) (by omega) (fun j a d => by omega) ?_) (fun S1 h => ?_)
      · rw [e10, gi_at]
        have : gi (si S2 192 13 0) 192 11 = gi S 192 11 := by rw [gi_off (by omega)]; exact d11
        rw [this, show min (gi S 192 11 - gi S 192 11).toNat 3 = 0 by omega]
        rfl
      · obtain ⟨g1, g2, g3, g4, g5, g6, g7, g8⟩ := h
        have ne : gi S1 192 11 ≠ gi S 192 11 := by
          intro e
          rcases g7 with q | q
          · omega
          · rw [e] at q; exact q cl
        refine ⟨g1, ?_, ?_⟩
        · rw [g2]
          refine ⟨h1, hN, hb, .inr ⟨by omega, nb, by omega, g5, .inr ⟨by rw [cl]; decide, fun j a d => by rw [cl]; exact g6 j a d, ?_⟩⟩⟩
          rw [cl]; exact g7
        · rw [g2]
          exact ⟨fun q => absurd q c, fun _ => ⟨fun q => absurd (cl.symm.trans q) (by decide), fun _ => ⟨g3, g8⟩, fun q => absurd (cl.symm.trans q) (by decide)⟩⟩
    · have cl : t_cls (mby_ S0 (gi S 192 11)) = 1 := by
        rcases sm with q | q
        · exact absurd q.1 c2
        · exact q.2
      refine pc_mono (mk_81 S0 (gi S 192 11) h2 FU S2 f2 d10 (by omega) (by omega) (by omega) (fun j a d => by omega)) (fun S1 h => ?_)
      obtain ⟨g1, g2, g3, g4, g5, g6, g7⟩ := h
      have ne : gi S1 192 11 ≠ gi S 192 11 := by
        intro e
        rcases g7 with q | q
        · omega
        · rw [e] at q; exact q cl
      refine ⟨g1, ?_, ?_⟩
      · rw [g2]
        refine ⟨h1, hN, hb, .inr ⟨by omega, nb, by omega, g5, .inr ⟨by rw [cl]; decide, fun j a d => by rw [cl]; exact g6 j a d, ?_⟩⟩⟩
        rw [cl]; exact g7
      · rw [g2, g3]
        exact ⟨fun q => absurd q c, fun _ => ⟨fun _ => rfl, fun q => absurd (cl.symm.trans q) (by decide), fun q => absurd (cl.symm.trans q) (by decide)⟩⟩
theorem mk_scan0 (S0 : SS) (p : Int) (h2 : gi S0 192 9 ≤ 2000) : ∀ (n : Nat) (S : SS), fr XSN S0 S → 0 ≤ p → p ≤ gi S 192 11 → gi S 192 11 ≤ gi S0 192 9 → (∀ j, p ≤ j → j < gi S 192 11 → t_bl (mby_ S0 j)) → pc (f_M_scan_0 n S) (fun S1 => fr XSN S0 S1 ∧ t_is (mby_ S0) (gi S0 192 9) p (gi S1 192 10) (gi S1 192 11) ∧ t_hand (mby_ S0) (gi S0 192 9) (gi S1 192 10) (gi S1 192 11) (gi S1 192 12) (gi S1 192 13)) := by
  intro n
  induction n with
  | zero => intro S _ _ _ _ _ r e; exact absurd e (by simp [f_M_scan_0])
  | succ n ih =>
    intro S hf h0 h1 hN hb
    have e9 : gi S 192 9 = gi S0 192 9 := hf 192 9 (by omega)
    have e197 : gi S 197 (gi S 192 11).toNat = gi S0 197 (gi S 192 11).toNat := hf 197 _ (by omega)
    show pc (f_M_scan_0_b (f_M_scan_0 n) S) _
    unfold f_M_scan_0_b
    rw [e9]
    refine pc_if (fun c => mk_38 S0 S p h2 hf h0 h1 hN hb (.inl (by omega))) (fun c => ?_)
    rw [w_b1_is (mby2 (S := S) (k := gi S 192 11) (by omega) (by omega)), e9, if_neg c, e197]
    have eb : andi (gi S0 197 (gi S 192 11).toNat) 255 = mby_ S0 (gi S 192 11) := rfl
    rw [eb]
    have bl : (f_M_isBlank S (mby_ S0 (gi S 192 11)) = 0 ∧ ¬ t_bl (mby_ S0 (gi S 192 11))) ∨ (f_M_isBlank S (mby_ S0 (gi S 192 11)) = 1 ∧ t_bl (mby_ S0 (gi S 192 11))) := bl_c S (mby_ S0 (gi S 192 11))
    refine pc_if (fun c2 => mk_38 S0 S p h2 hf h0 h1 hN hb (.inr ?_)) (fun c2 => pc_chk (fun _ => pc_lt (fun S9 e9' => ?_)))
    · rcases bl with q | q
      · exact q.2
      · exact absurd (q.1.symm.trans c2) (by decide)
    · have d11 : gi S9 192 11 = gi S 192 11 + 1 := by rw [e9', gi_at]
      refine ih S9 (by rw [e9']; exact fr_si hf ⟨rfl, by omega, by omega⟩) h0 (by omega) (by omega) (fun j a d => ?_)
      by_cases e : j = gi S 192 11
      · rw [e]
        rcases bl with q | q
        · exact absurd q.1 c2
        · exact q.2
      · exact hb j a (by omega)
theorem mk_scan (T : SS) (h0 : 0 ≤ gi T 192 11 ∧ gi T 192 11 ≤ gi T 192 9) (h2 : gi T 192 9 ≤ 2000) : pc (f_M_scan T) (fun T1 => fr XSN T T1 ∧ t_is (mby_ T) (gi T 192 9) (gi T 192 11) (gi T1 192 10) (gi T1 192 11) ∧ t_hand (mby_ T) (gi T 192 9) (gi T1 192 10) (gi T1 192 11) (gi T1 192 12) (gi T1 192 13)) :=
  mk_scan0 T (gi T 192 11) h2 FU T (fr_refl _ T) h0.1 (Int.le_refl _) h0.2 (fun j a d => by omega)
theorem t_congr {b b' : Int → Int} {N p s e : Int} (hp : 0 ≤ p) (hb : ∀ j, 0 ≤ j → j < N → b j = b' j) (h : t_is b N p s e) : t_is b' N p s e := by
  obtain ⟨a1, a2, a3, a4⟩ := h
  refine ⟨a1, a2, fun i h1 h2 => by rw [← hb i (by omega) (by omega)]; exact a3 i h1 h2, ?_⟩
  rcases a4 with a4 | ⟨c1, c2, c3, c4, c5⟩
  · exact .inl a4
  · right
    have es := hb s (by omega) c1
    rw [← es]
    refine ⟨c1, c2, c3, c4, ?_⟩
    rcases c5 with c5 | ⟨d1, d2, d3⟩
    · exact .inl c5
    · refine .inr ⟨d1, fun i h1 h2 => by rw [← hb i (by omega) (by omega)]; exact d2 i h1 h2, ?_⟩
      by_cases c : e = N
      · exact .inl c
      · right
        rw [← hb e (by omega) (by omega)]
        rcases d3 with d3 | d3
        · exact absurd d3 c
        · exact d3
/-- the tape being read is alike, its bytes are bytes -/
def BF (S T : SS) : Prop := gi S 1 1 = gi T 192 9 ∧ 0 ≤ gi S 1 1 ∧ gi S 1 1 ≤ 2000 ∧ ∀ k : Nat, (k : Int) < gi S 1 1 → gi S 2 k = gi T 197 k ∧ -128 ≤ gi T 197 k ∧ gi T 197 k ≤ 127
theorem BF_by {S T : SS} (h : BF S T) (j : Int) (h0 : 0 ≤ j) (h1 : j < gi T 192 9) : cby_ S j = mby_ T j := by
  unfold cby_ mby_
  rw [(h.2.2.2 j.toNat (by rw [h.1]; omega)).1]
/-- the reference has read the token that the class reads next -/
def AH (S T : SS) : Prop := 0 ≤ gi S 177 4 ∧ gi S 177 4 ≤ gi T 192 9 ∧ t_is (mby_ T) (gi T 192 9) (gi S 177 4) (gi T 192 10) (gi T 192 11) ∧ t_hand (mby_ T) (gi T 192 9) (gi T 192 10) (gi T 192 11) (gi T 192 12) (gi T 192 13)
/-- both stand at the same token -/
def TKR (S T : SS) : Prop := gi S 177 5 = gi T 192 10 ∧ gi S 177 4 = gi T 192 11 ∧ 0 ≤ gi T 192 10 ∧ gi T 192 10 ≤ gi T 192 11 ∧ gi T 192 11 ≤ gi T 192 9 ∧ (gi T 192 10 < gi T 192 9 → gi T 192 10 < gi T 192 11) ∧ gi S 177 6 = (if gi T 192 10 = gi T 192 9 then 0 else t_cls (mby_ T (gi T 192 10))) ∧ t_hand (mby_ T) (gi T 192 9) (gi T 192 10) (gi T 192 11) (gi T 192 12) (gi T 192 13)
theorem AH_read {S T S1 : SS} (hB : BF S T) (h : AH S T) (e : f_MarkReader_readToken S = some S1) : TKR S1 T ∧ FX (fun r k => r = 177 ∧ 4 ≤ k) S S1 := by
  obtain ⟨a0, a1, a2, a3⟩ := h
  obtain ⟨f, q, q6⟩ := tk_read S ⟨a0, by rw [hB.1]; exact a1⟩ hB.2.2.1 S1 e
  have q' := t_congr (b' := mby_ T) a0 (fun j h0 h1 => BF_by hB j h0 (by rw [← hB.1]; exact h1)) q
  rw [hB.1] at q'
  have u := t_one q' a2
  refine ⟨⟨u.1, u.2, ?_, ?_, ?_, ?_, ?_, a3⟩, f⟩
  · have := a2.1; omega
  · rcases a2.2.2.2 with w | w <;> omega
  · rcases a2.2.2.2 with w | w <;> omega
  · intro w0
    rcases a2.2.2.2 with w | w <;> omega
  · rw [q6, u.1, hB.1]
    by_cases c : gi T 192 10 = gi T 192 9
    · rw [if_pos c, if_pos c]
    · rw [if_neg c, if_neg c, BF_by hB _ (by have := a2.1; omega) (by have := a2.2.1; omega)]
theorem TKR_scan {S T T1 : SS} (hN : gi T 192 9 ≤ 2000) (h : TKR S T) (e : f_M_scan T = some T1) : AH S T1 ∧ fr XSN T T1 := by
  obtain ⟨k1, k2, k3, k4, k5, k6, k7, k8⟩ := h
  obtain ⟨f, q, w⟩ := mk_scan T ⟨by omega, k5⟩ hN T1 e
  have e9 : gi T1 192 9 = gi T 192 9 := f 192 9 (by omega)
  have eb : mby_ T1 = mby_ T := by
    funext j; unfold mby_; rw [f 197 _ (by omega)]
  refine ⟨⟨by omega, by omega, ?_, ?_⟩, f⟩
  · rw [e9, eb, k2]; exact q
  · rw [e9, eb]; exact w
def tc_ch (i k : Nat) : Int := toc (andi (stc i k) 255)
theorem chA {S : SS} {i : Nat} {v r : Int} (h : f_charAt S i v = some r) : r = tc_ch i v.toNat := by
  unfold f_charAt f_isLatin1 at h
  rw [if_neg (by decide)] at h
  obtain ⟨a, ea, h⟩ := w_b1E h
  obtain ⟨_, h⟩ := w_chkE h
  cases h
  unfold f_l1charAt at ea
  obtain ⟨_, _, ea⟩ := w_b1E ea
  obtain ⟨_, ea⟩ := w_chkE ea
  obtain ⟨_, ea⟩ := w_chkE ea
  cases ea
  rfl
def tc_ln (i : Nat) : Int := shri (stl i) 0
/-- the token s .. e is the string i -/
def tc_is (b : Int → Int) (s e : Int) (i : Nat) : Prop := e - s = tc_ln i ∧ ∀ k : Nat, (k : Int) < tc_ln i → b (s + (k : Int)) = tc_ch i k
theorem isT_loop (S : SS) (i : Nat) (N : Int) (hN : gi S 1 1 = N) (h2 : N ≤ 2000) (h0 : 0 ≤ gi S 177 5) (h1 : gi S 177 4 ≤ N) (hl : gi S 177 4 - gi S 177 5 = tc_ln i) : ∀ (n : Nat) (k : Nat), (∀ j : Nat, j < k → (j : Int) < tc_ln i → cby_ S (gi S 177 5 + (j : Int)) = tc_ch i j) → pc (f_MarkReader_isToken_20 S i n (k : Int)) (fun r => (r = 0 ∧ ¬ tc_is (cby_ S) (gi S 177 5) (gi S 177 4) i) ∨ (r = 1 ∧ tc_is (cby_ S) (gi S 177 5) (gi S 177 4) i)) := by
  intro n
  induction n with
  | zero => intro k _ r e; exact absurd e (by simp [f_MarkReader_isToken_20])
  | succ n ih =>
    intro k hk
    show pc (f_MarkReader_isToken_20_b S i (f_MarkReader_isToken_20 S i n) (k : Int)) _
    unfold f_MarkReader_isToken_20_b
    have el : f_length S i = tc_ln i := rfl
    rw [el]
    refine pc_if (fun c => pc_some (.inr ⟨rfl, hl, fun j hj => hk j (by omega) hj⟩)) (fun c => pc_chk (fun _ => pc_chk (fun _ => ?_)))
    rw [w_b1_is (cby (S := S) (i := gi S 177 5 + (k : Int)) (by omega) (by omega) (by omega))]
    have eb : andi (gi S 2 (gi S 177 5 + (k : Int)).toNat) 255 = cby_ S (gi S 177 5 + (k : Int)) := rfl
    rw [eb]
    refine pc_b1 (R := fun r => r = tc_ch i k) (fun r e => by have := chA e; rw [Int.toNat_natCast] at this; exact this) (fun r6 h6 => pc_if (fun c2 => pc_chk (fun _ => ?_)) (fun c2 => pc_some (.inl ⟨rfl, fun q => c2 (by rw [h6]; exact q.2 k (by omega))⟩)))
    rw [show (k : Int) + 1 = ((k + 1 : Nat) : Int) by omega]
    refine ih (k + 1) (fun j hj hl' => ?_)
    by_cases e : j = k
    · rw [e, ← h6]; exact c2
    · exact hk j (by omega) hl'
theorem isT (S : SS) (i : Nat) (N : Int) (hN : gi S 1 1 = N) (h2 : N ≤ 2000) (h0 : 0 ≤ gi S 177 5) (h1 : gi S 177 4 ≤ N) : pc (f_MarkReader_isToken S i) (fun r => (r = 0 ∧ ¬ tc_is (cby_ S) (gi S 177 5) (gi S 177 4) i) ∨ (r = 1 ∧ tc_is (cby_ S) (gi S 177 5) (gi S 177 4) i)) := by
  unfold f_MarkReader_isToken
  have el : f_length S i = tc_ln i := rfl
  rw [el]
  refine pc_chk (fun _ => pc_if (fun c => ?_) (fun c => pc_some (.inl ⟨rfl, fun q => c q.1⟩)))
  exact isT_loop S i N hN h2 h0 h1 c FU 0 (fun j hj => absurd hj (Nat.not_lt_zero j))
theorem isM_loop (T : SS) (i : Nat) (A : Prop) : ∀ (n : Nat) (v2 : Int) (k : Nat), ((v2 = 1 ∧ A ∧ ∀ j : Nat, j < k → (j : Int) < tc_ln i → gi T 197 (gi T 192 10 + (j : Int)).toNat = tc_ch i j) ∨ (v2 = 0 ∧ ¬ (A ∧ ∀ j : Nat, (j : Int) < tc_ln i → gi T 197 (gi T 192 10 + (j : Int)).toNat = tc_ch i j))) → pc (f_M_is_40 T i n v2 (k : Int)) (fun r => (r = 0 ∧ ¬ (A ∧ ∀ j : Nat, (j : Int) < tc_ln i → gi T 197 (gi T 192 10 + (j : Int)).toNat = tc_ch i j)) ∨ (r = 1 ∧ (A ∧ ∀ j : Nat, (j : Int) < tc_ln i → gi T 197 (gi T 192 10 + (j : Int)).toNat = tc_ch i j))) := by
  intro n
  induction n with
  | zero => intro v2 k _ r e; exact absurd e (by simp [f_M_is_40])
  | succ n ih =>
    intro v2 k hk
    show pc (f_M_is_40_b T i (f_M_is_40 T i n) v2 (k : Int)) _
    unfold f_M_is_40_b
    have el : f_length T i = tc_ln i := rfl
    rw [el]
    refine pc_if (fun c => pc_chk (fun _ => pc_some ?_)) (fun c => pc_if (fun c2 => pc_chk (fun _ => pc_some ?_)) (fun c2 => pc_chk (fun _ => pc_chk (fun _ => ?_))))
    · rcases hk with q | q
      · exact .inr ⟨q.1, q.2.1, fun j hj => q.2.2 j (by omega) hj⟩
      · exact .inl q
    · rcases hk with q | q
      · exact absurd (q.1.symm.trans c2) (by decide)
      · exact .inl q
    · have hk1 : A ∧ ∀ j : Nat, j < k → (j : Int) < tc_ln i → gi T 197 (gi T 192 10 + (j : Int)).toNat = tc_ch i j := by
        rcases hk with q | q
        · exact q.2
        · exact absurd q.1 c2
      refine pc_b1 (R := fun r => r = tc_ch i k) (fun r e => by have := chA e; rw [Int.toNat_natCast] at this; exact this) (fun r7 h7 => ?_)
      unfold f_M_is_76
      rw [show (k : Int) + 1 = ((k + 1 : Nat) : Int) by omega]
      refine pc_if (fun c3 => pc_chk (fun _ => ih 1 (k + 1) (.inl ⟨rfl, hk1.1, fun j hj hl => ?_⟩))) (fun c3 => pc_chk (fun _ => ih 0 (k + 1) (.inr ⟨rfl, fun q => c3 (by rw [h7]; exact q.2 k (by omega))⟩)))
      by_cases e : j = k
      · rw [e, ← h7]; exact c3
      · exact hk1.2 j (by omega) hl
theorem isM (T : SS) (i : Nat) : pc (f_M_is T i) (fun r => (r = 0 ∧ ¬ (((gi T 192 12 = 1 ∨ gi T 192 12 = 3) ∧ gi T 192 11 - gi T 192 10 = tc_ln i) ∧ ∀ j : Nat, (j : Int) < tc_ln i → gi T 197 (gi T 192 10 + (j : Int)).toNat = tc_ch i j)) ∨ (r = 1 ∧ (((gi T 192 12 = 1 ∨ gi T 192 12 = 3) ∧ gi T 192 11 - gi T 192 10 = tc_ln i) ∧ ∀ j : Nat, (j : Int) < tc_ln i → gi T 197 (gi T 192 10 + (j : Int)).toNat = tc_ch i j))) := by
  have L := isM_loop T i ((gi T 192 12 = 1 ∨ gi T 192 12 = 3) ∧ gi T 192 11 - gi T 192 10 = tc_ln i) FU
  have no : ¬ ((gi T 192 12 = 1 ∨ gi T 192 12 = 3) ∧ gi T 192 11 - gi T 192 10 = tc_ln i) → pc (f_M_is_36 T i) _ := fun h => by
    unfold f_M_is_36 f_M_is_37
    exact L 0 0 (.inr ⟨rfl, fun q => h q.1⟩)
  have y16 : (gi T 192 12 = 1 ∨ gi T 192 12 = 3) → pc (f_M_is_16 T i) _ := fun h => by
    unfold f_M_is_16
    have el : f_length T i = tc_ln i := rfl
    rw [el]
    refine pc_chk (fun _ => pc_if (fun c => ?_) (fun c => no (fun q => c q.2)))
    unfold f_M_is_37
    exact L 1 0 (.inl ⟨rfl, ⟨h, c⟩, fun j hj => absurd hj (Nat.not_lt_zero j)⟩)
  unfold f_M_is
  exact pc_if (fun c => y16 (.inl c)) (fun c => pc_if (fun c2 => y16 (.inr c2)) (fun c2 => no (fun q => q.1.elim c c2)))
theorem ch_all : ∀ i : Nat, i < 13 → 1 ≤ i → (1 ≤ tc_ln i ∧ tc_ln i ≤ 7 ∧ ((t_cls (tc_ch i 0) = 1) ∨ (t_cls (tc_ch i 0) = 0 ∧ (tc_ch i 0 = 63 ∨ tc_ch i 0 = 61 ∨ tc_ch i 0 = 59)))) ∧ ∀ k : Nat, k < 7 → 0 ≤ tc_ch i k ∧ tc_ch i k ≤ 127 := by
  unfold t_cls
  decide +kernel
theorem and_all : ∀ n : Nat, n < 256 → andi ((n : Int) - 128) 255 = if 128 ≤ n then (n : Int) - 128 else (n : Int) + 128 := by decide +kernel
theorem and_raw (x c : Int) (h : -128 ≤ x ∧ x ≤ 127) (hc : 0 ≤ c ∧ c ≤ 127) : andi x 255 = c ↔ x = c := by
  have e := and_all (x + 128).toNat (by omega)
  rw [show (((x + 128).toNat : Nat) : Int) - 128 = x by omega] at e
  rw [e]
  split <;> omega
theorem is_eq {S T : SS} {i : Nat} (hi : i < 13 ∧ 1 ≤ i) (hB : BF S T) (h : TKR S T) {r t : Int} (e1 : f_MarkReader_isToken S i = some r) (e2 : f_M_is T i = some t) : r = t ∧ (r = 0 ∨ r = 1) := by
  obtain ⟨k1, k2, k3, k4, k5, k6, k7, k8⟩ := h
  have A := isT S i (gi S 1 1) rfl hB.2.2.1 (by omega) (by rw [hB.1]; omega) r e1
  have M := isM T i t e2
  have C := ch_all i hi.1 hi.2
  have eqv : tc_is (cby_ S) (gi S 177 5) (gi S 177 4) i ↔ (((gi T 192 12 = 1 ∨ gi T 192 12 = 3) ∧ gi T 192 11 - gi T 192 10 = tc_ln i) ∧ ∀ j : Nat, (j : Int) < tc_ln i → gi T 197 (gi T 192 10 + (j : Int)).toNat = tc_ch i j) := by
    unfold tc_is
    rw [k1, k2]
    have pt : gi T 192 11 - gi T 192 10 = tc_ln i → ∀ j : Nat, (j : Int) < tc_ln i → (cby_ S (gi T 192 10 + (j : Int)) = tc_ch i j ↔ gi T 197 (gi T 192 10 + (j : Int)).toNat = tc_ch i j) := by
      intro hl j hj
      have q := hB.2.2.2 (gi T 192 10 + (j : Int)).toNat (by rw [hB.1]; omega)
      have w := C.2 j (by omega)
      unfold cby_
      rw [q.1]
      exact and_raw _ _ q.2 w
    constructor
    · rintro ⟨hl, hb⟩
      have b0 := hb 0 (by have := C.1.1; omega)
      have lt : gi T 192 10 < gi T 192 9 := by have := C.1.1; omega
      have m0 : mby_ T (gi T 192 10) = tc_ch i 0 := by
        rw [← BF_by hB _ k3 lt]
        have : gi T 192 10 + ((0 : Nat) : Int) = gi T 192 10 := by omega
        rw [this] at b0
        exact b0
      have hh := k8.2 lt
      refine ⟨⟨?_, hl⟩, fun j hj => (pt hl j hj).1 (hb j hj)⟩
      rcases C.1.2.2 with w | w
      · left; exact hh.1 (by rw [m0]; exact w)
      · right
        rcases hh.2.2 (by rw [m0]; exact w.1) with z | z
        · exact z.1
        · exact absurd (by rw [m0]; exact w.2) z.2
    · rintro ⟨⟨_, hl⟩, hb⟩
      exact ⟨hl, fun j hj => (pt hl j hj).2 (hb j hj)⟩
  rcases A with a | a
  · rcases M with m | m
    · exact ⟨a.1.trans m.1.symm, .inl a.1⟩
    · exact absurd (eqv.2 m.2) a.2
  · rcases M with m | m
    · exact absurd (eqv.1 a.2) m.2
    · exact ⟨a.1.trans m.1.symm, .inr a.1⟩
set_option maxHeartbeats 4000000 in
theorem fjl_Mark_clear_2 {X : Nat → Nat → Prop} {S0 : SS} {jp : Nat} (z_m_2 : X (14 + 4 * jp) 2) (z_m_3 : X (14 + 4 * jp) 3) (z_m_7 : X (14 + 4 * jp) 7) (z_m_8 : X (14 + 4 * jp) 8) (z_m_9 : X (14 + 4 * jp) 9) (z_m_10 : X (14 + 4 * jp) 10) (z_m_11 : X (14 + 4 * jp) 11) (z_m_12 : X (14 + 4 * jp) 12) (z_mn : ∀ k, X (14 + 4 * jp + 1) k) (z_ms : X (14 + 4 * jp + 2) 1)  : ∀ (n : Nat) (S : SS) (v1_ : Int), FX X S0 S → pc (f_Mark_clear_2 jp n S v1_) (FX X S0) := by
  intro n
  induction n with
  | zero => intro S v1_ h r e; exact absurd e (by simp [f_Mark_clear_2])
  | succ n ih =>
    intro S v1_ h
    show pc (f_Mark_clear_2_b jp (f_Mark_clear_2 jp n) S v1_) _
    unfold f_Mark_clear_2_b
    repeat' first | with_reducible exact ih _ _ (by assumption) | with_reducible exact pc_some (by assumption) | with_reducible exact pc_none | with_reducible refine pc_chk (fun _ => ?_) | with_reducible refine pc_if (fun _ => ?_) (fun _ => ?_) | with_reducible refine pc_on ?_ (fun _ _ => ?_) | with_reducible refine xf_let (fx_Sheet_clear (x_q0 := z_ms) _ (by assumption)) (fun _ _ => ?_) | with_reducible refine xf_lt (by assumption) (by first | exact z_m_2 | exact z_m_3 | exact z_m_7 | exact z_m_8 | exact z_m_9 | exact z_m_10 | exact z_m_11 | exact z_m_12 | exact z_mn _ | exact z_ms) (fun _ _ => ?_) | with_reducible refine xf_lts (by assumption) (fun _ _ => ?_) | with_reducible refine pf_b1 (fun _ => ?_) | with_reducible refine xf_ltv (fun _ => ?_)
set_option maxHeartbeats 4000000 in
theorem fj_Mark_clear {X : Nat → Nat → Prop} {S0 : SS} {jp : Nat} (z_m_2 : X (14 + 4 * jp) 2) (z_m_3 : X (14 + 4 * jp) 3) (z_m_7 : X (14 + 4 * jp) 7) (z_m_8 : X (14 + 4 * jp) 8) (z_m_9 : X (14 + 4 * jp) 9) (z_m_10 : X (14 + 4 * jp) 10) (z_m_11 : X (14 + 4 * jp) 11) (z_m_12 : X (14 + 4 * jp) 12) (z_mn : ∀ k, X (14 + 4 * jp + 1) k) (z_ms : X (14 + 4 * jp + 2) 1) : ∀ (S : SS) , FX X S0 S → pc (f_Mark_clear S jp) (FX X S0) := by
  intro S h
  unfold f_Mark_clear
  repeat' first | with_reducible exact fjl_Mark_clear_2 (z_m_2 := z_m_2) (z_m_3 := z_m_3) (z_m_7 := z_m_7) (z_m_8 := z_m_8) (z_m_9 := z_m_9) (z_m_10 := z_m_10) (z_m_11 := z_m_11) (z_m_12 := z_m_12) (z_mn := z_mn) (z_ms := z_ms) FU _ _ (by assumption) | with_reducible exact pc_some (by assumption) | with_reducible exact pc_none | with_reducible refine pc_chk (fun _ => ?_) | with_reducible refine pc_if (fun _ => ?_) (fun _ => ?_) | with_reducible refine pc_on ?_ (fun _ _ => ?_) | with_reducible refine xf_let (fx_Sheet_clear (x_q0 := z_ms) _ (by assumption)) (fun _ _ => ?_) | with_reducible refine xf_lt (by assumption) (by first | exact z_m_2 | exact z_m_3 | exact z_m_7 | exact z_m_8 | exact z_m_9 | exact z_m_10 | exact z_m_11 | exact z_m_12 | exact z_mn _ | exact z_ms) (fun _ _ => ?_) | with_reducible refine xf_lts (by assumption) (fun _ _ => ?_) | with_reducible refine pf_b1 (fun _ => ?_) | with_reducible refine xf_ltv (fun _ => ?_)
set_option maxHeartbeats 4000000 in
theorem fj_Mark_setNumber {X : Nat → Nat → Prop} {S0 : SS} {jp : Nat} (z_mn : ∀ k, X (14 + 4 * jp + 1) k) : ∀ (S : SS) (v1 : Int) (v2 : Int), FX X S0 S → pc (f_Mark_setNumber S jp v1 v2) (FX X S0) := by
  intro S v1 v2 h
  unfold f_Mark_setNumber
  repeat' first | with_reducible exact pc_some (by assumption) | with_reducible exact pc_none | with_reducible refine pc_chk (fun _ => ?_) | with_reducible refine pc_if (fun _ => ?_) (fun _ => ?_) | with_reducible refine pc_on ?_ (fun _ _ => ?_) | with_reducible refine xf_lt (by assumption) (by first | exact z_mn _) (fun _ _ => ?_) | with_reducible refine xf_lts (by assumption) (fun _ _ => ?_) | with_reducible refine pf_b1 (fun _ => ?_) | with_reducible refine xf_ltv (fun _ => ?_)
set_option maxHeartbeats 4000000 in
theorem fj_Mark_place {X : Nat → Nat → Prop} {S0 : SS} {jp : Nat} (z_m_6 : X (14 + 4 * jp) 6) (z_m_5 : X (14 + 4 * jp) 5) (z_m_4 : X (14 + 4 * jp) 4) : ∀ (S : SS) , FX X S0 S → pc (f_Mark_place S jp) (FX X S0) := by
  intro S h
  unfold f_Mark_place
  repeat' first | unfold f_Mark_place_104 | unfold f_Mark_place_89 | unfold f_Mark_place_65 | unfold f_Mark_place_58 | unfold f_Mark_place_36 | unfold f_Mark_place_21 | unfold f_Mark_place_20 | with_reducible exact pc_some (by assumption) | with_reducible exact pc_none | with_reducible refine pc_chk (fun _ => ?_) | with_reducible refine pc_if (fun _ => ?_) (fun _ => ?_) | with_reducible refine pc_on ?_ (fun _ _ => ?_) | with_reducible refine xf_lt (by assumption) (by first | exact z_m_6 | exact z_m_5 | exact z_m_4) (fun _ _ => ?_) | with_reducible refine xf_lts (by assumption) (fun _ _ => ?_) | with_reducible refine pf_b1 (fun _ => ?_) | with_reducible refine xf_ltv (fun _ => ?_)
set_option maxHeartbeats 4000000 in
theorem fjl_MarkReader_readNumbers_33 {X : Nat → Nat → Prop} {S0 : SS} {jp : Nat} (x_3_0 : X 3 0) (x_3_1 : X 3 1) (x_177_4 : X 177 4) (x_177_5 : X 177 5) (x_177_6 : X 177 6) (z_mn : ∀ k, X (14 + 4 * jp + 1) k)  : ∀ (n : Nat) (S : SS) (v2_ : Int) (v3_ : Int), FX X S0 S → pc (f_MarkReader_readNumbers_33 jp n S v2_ v3_) (fun u => FX X S0 u.2) := by
  intro n
  induction n with
  | zero => intro S v2_ v3_ h r e; exact absurd e (by simp [f_MarkReader_readNumbers_33])
  | succ n ih =>
    intro S v2_ v3_ h
    show pc (f_MarkReader_readNumbers_33_b jp (f_MarkReader_readNumbers_33 jp n) S v2_ v3_) _
    unfold f_MarkReader_readNumbers_33_b
    repeat' first | with_reducible exact ih _ _ _ (by assumption) | unfold f_MarkReader_readNumbers_63 | unfold f_MarkReader_readNumbers_30 | unfold f_MarkReader_readNumbers_18 | with_reducible exact pc_some (by assumption) | with_reducible exact pc_none | with_reducible refine pc_chk (fun _ => ?_) | with_reducible refine pc_if (fun _ => ?_) (fun _ => ?_) | with_reducible refine pc_on ?_ (fun _ _ => ?_) | with_reducible refine pc_b2 (fx_MarkReader_refuse (x_3_0 := x_3_0) (x_3_1 := x_3_1) _ _ (by assumption)) (fun _ _ _ => ?_) | with_reducible refine pc_b1 (fx_MarkReader_readToken (x_177_4 := x_177_4) (x_177_5 := x_177_5) (x_177_6 := x_177_6) _ (by assumption)) (fun _ _ => ?_) | with_reducible refine pc_b1 (fj_Mark_setNumber (z_mn := z_mn) _ _ _ (by assumption)) (fun _ _ => ?_) | with_reducible refine xf_lt (by assumption) (by first | exact x_3_0 | exact x_3_1 | exact x_177_4 | exact x_177_5 | exact x_177_6 | exact z_mn _) (fun _ _ => ?_) | with_reducible refine xf_lts (by assumption) (fun _ _ => ?_) | with_reducible refine pf_b1 (fun _ => ?_) | with_reducible refine xf_ltv (fun _ => ?_)
set_option maxHeartbeats 4000000 in
theorem fj_MarkReader_readNumbers {X : Nat → Nat → Prop} {S0 : SS} {jp : Nat} (x_3_0 : X 3 0) (x_3_1 : X 3 1) (x_177_4 : X 177 4) (x_177_5 : X 177 5) (x_177_6 : X 177 6) (z_mn : ∀ k, X (14 + 4 * jp + 1) k) : ∀ (S : SS) , FX X S0 S → pc (f_MarkReader_readNumbers S jp) (fun u => FX X S0 u.2) := by
  intro S h
  unfold f_MarkReader_readNumbers
  repeat' first | with_reducible exact fjl_MarkReader_readNumbers_33 (x_3_0 := x_3_0) (x_3_1 := x_3_1) (x_177_4 := x_177_4) (x_177_5 := x_177_5) (x_177_6 := x_177_6) (z_mn := z_mn) FU _ _ _ (by assumption) | unfold f_MarkReader_readNumbers_63 | unfold f_MarkReader_readNumbers_30 | unfold f_MarkReader_readNumbers_18 | with_reducible exact pc_some (by assumption) | with_reducible exact pc_none | with_reducible refine pc_chk (fun _ => ?_) | with_reducible refine pc_if (fun _ => ?_) (fun _ => ?_) | with_reducible refine pc_on ?_ (fun _ _ => ?_) | with_reducible refine pc_b2 (fx_MarkReader_refuse (x_3_0 := x_3_0) (x_3_1 := x_3_1) _ _ (by assumption)) (fun _ _ _ => ?_) | with_reducible refine pc_b1 (fx_MarkReader_readToken (x_177_4 := x_177_4) (x_177_5 := x_177_5) (x_177_6 := x_177_6) _ (by assumption)) (fun _ _ => ?_) | with_reducible refine pc_b1 (fj_Mark_setNumber (z_mn := z_mn) _ _ _ (by assumption)) (fun _ _ => ?_) | with_reducible refine xf_lt (by assumption) (by first | exact x_3_0 | exact x_3_1 | exact x_177_4 | exact x_177_5 | exact x_177_6 | exact z_mn _) (fun _ _ => ?_) | with_reducible refine xf_lts (by assumption) (fun _ _ => ?_) | with_reducible refine pf_b1 (fun _ => ?_) | with_reducible refine xf_ltv (fun _ => ?_)
set_option maxHeartbeats 4000000 in
theorem fjl_MarkReader_readWord_11 {X : Nat → Nat → Prop} {S0 : SS} {jp : Nat} (x_177_4 : X 177 4) (x_3_0 : X 3 0) (x_3_1 : X 3 1) (z_ms : X (14 + 4 * jp + 2) 1)  : ∀ (n : Nat) (S : SS) (w2_ : Int64) (v4_ : Int) (v5_ : Int), FX X S0 S → pc (f_MarkReader_readWord_11 jp n S w2_ v4_ v5_) (fun u => FX X S0 u.2) := by
  intro n
  induction n with
  | zero => intro S w2_ v4_ v5_ h r e; exact absurd e (by simp [f_MarkReader_readWord_11])
  | succ n ih =>
    intro S w2_ v4_ v5_ h
    show pc (f_MarkReader_readWord_11_b jp (f_MarkReader_readWord_11 jp n) S w2_ v4_ v5_) _
    unfold f_MarkReader_readWord_11_b
    repeat' first | with_reducible exact ih _ _ _ _ (by assumption) | unfold f_MarkReader_readWord_70 | unfold f_MarkReader_readWord_69 | unfold f_MarkReader_readWord_114 | unfold f_MarkReader_readWord_95 | with_reducible exact pc_some (by assumption) | with_reducible exact pc_none | with_reducible refine pc_chk (fun _ => ?_) | with_reducible refine pc_if (fun _ => ?_) (fun _ => ?_) | with_reducible refine pc_on ?_ (fun _ _ => ?_) | with_reducible refine pc_b2 (fx_MarkReader_refuse (x_3_0 := x_3_0) (x_3_1 := x_3_1) _ _ (by assumption)) (fun _ _ _ => ?_) | with_reducible refine pc_b1 (fx_Sheet_add (x_q0 := z_ms) _ _ (by assumption)) (fun _ _ => ?_) | with_reducible refine xf_lt (by assumption) (by first | exact x_177_4 | exact x_3_0 | exact x_3_1 | exact z_ms) (fun _ _ => ?_) | with_reducible refine xf_lts (by assumption) (fun _ _ => ?_) | with_reducible refine pf_b1 (fun _ => ?_) | with_reducible refine xf_ltv (fun _ => ?_)
set_option maxHeartbeats 4000000 in
theorem fj_MarkReader_readWord {X : Nat → Nat → Prop} {S0 : SS} {jp : Nat} (x_177_4 : X 177 4) (x_3_0 : X 3 0) (x_3_1 : X 3 1) (z_ms : X (14 + 4 * jp + 2) 1) : ∀ (S : SS) , FX X S0 S → pc (f_MarkReader_readWord S jp) (fun u => FX X S0 u.2) := by
  intro S h
  unfold f_MarkReader_readWord
  repeat' first | with_reducible exact fjl_MarkReader_readWord_11 (x_177_4 := x_177_4) (x_3_0 := x_3_0) (x_3_1 := x_3_1) (z_ms := z_ms) FU _ _ _ _ (by assumption) | unfold f_MarkReader_readWord_70 | unfold f_MarkReader_readWord_69 | unfold f_MarkReader_readWord_114 | unfold f_MarkReader_readWord_95 | with_reducible exact pc_some (by assumption) | with_reducible exact pc_none | with_reducible refine pc_chk (fun _ => ?_) | with_reducible refine pc_if (fun _ => ?_) (fun _ => ?_) | with_reducible refine pc_on ?_ (fun _ _ => ?_) | with_reducible refine pc_b2 (fx_MarkReader_refuse (x_3_0 := x_3_0) (x_3_1 := x_3_1) _ _ (by assumption)) (fun _ _ _ => ?_) | with_reducible refine pc_b1 (fx_Sheet_add (x_q0 := z_ms) _ _ (by assumption)) (fun _ _ => ?_) | with_reducible refine xf_lt (by assumption) (by first | exact x_177_4 | exact x_3_0 | exact x_3_1 | exact z_ms) (fun _ _ => ?_) | with_reducible refine xf_lts (by assumption) (fun _ _ => ?_) | with_reducible refine pf_b1 (fun _ => ?_) | with_reducible refine xf_ltv (fun _ => ?_)
set_option maxHeartbeats 4000000 in
theorem fjl_MarkReader_readWords_2 {X : Nat → Nat → Prop} {S0 : SS} {jp : Nat} (x_177_4 : X 177 4) (x_177_5 : X 177 5) (x_3_0 : X 3 0) (x_3_1 : X 3 1) (z_ms : X (14 + 4 * jp + 2) 1)  : ∀ (n : Nat) (S : SS) (v2_ : Int), FX X S0 S → pc (f_MarkReader_readWords_2 jp n S v2_) (fun u => FX X S0 u.2) := by
  intro n
  induction n with
  | zero => intro S v2_ h r e; exact absurd e (by simp [f_MarkReader_readWords_2])
  | succ n ih =>
    intro S v2_ h
    show pc (f_MarkReader_readWords_2_b jp (f_MarkReader_readWords_2 jp n) S v2_) _
    unfold f_MarkReader_readWords_2_b
    repeat' first | with_reducible exact ih _ _ (by assumption) | unfold f_MarkReader_readWords_47 | unfold f_MarkReader_readWords_53 | with_reducible exact pc_some (by assumption) | with_reducible exact pc_none | with_reducible refine pc_chk (fun _ => ?_) | with_reducible refine pc_if (fun _ => ?_) (fun _ => ?_) | with_reducible refine pc_on ?_ (fun _ _ => ?_) | with_reducible refine pc_b2 (fx_MarkReader_refuse (x_3_0 := x_3_0) (x_3_1 := x_3_1) _ _ (by assumption)) (fun _ _ _ => ?_) | with_reducible refine pc_b2 (fj_MarkReader_readWord (x_177_4 := x_177_4) (x_3_0 := x_3_0) (x_3_1 := x_3_1) (z_ms := z_ms) _ (by assumption)) (fun _ _ _ => ?_) | with_reducible refine pc_b1 (fx_MarkReader_skipBlanks (x_177_4 := x_177_4) _ (by assumption)) (fun _ _ => ?_) | with_reducible refine xf_lt (by assumption) (by first | exact x_177_4 | exact x_177_5 | exact x_3_0 | exact x_3_1 | exact z_ms) (fun _ _ => ?_) | with_reducible refine xf_lts (by assumption) (fun _ _ => ?_) | with_reducible refine pf_b1 (fun _ => ?_) | with_reducible refine xf_ltv (fun _ => ?_)
set_option maxHeartbeats 4000000 in
theorem fj_MarkReader_readWords {X : Nat → Nat → Prop} {S0 : SS} {jp : Nat} (x_177_4 : X 177 4) (x_177_5 : X 177 5) (x_3_0 : X 3 0) (x_3_1 : X 3 1) (z_ms : X (14 + 4 * jp + 2) 1) : ∀ (S : SS) , FX X S0 S → pc (f_MarkReader_readWords S jp) (fun u => FX X S0 u.2) := by
  intro S h
  unfold f_MarkReader_readWords
  repeat' first | with_reducible exact fjl_MarkReader_readWords_2 (x_177_4 := x_177_4) (x_177_5 := x_177_5) (x_3_0 := x_3_0) (x_3_1 := x_3_1) (z_ms := z_ms) FU _ _ (by assumption) | unfold f_MarkReader_readWords_47 | unfold f_MarkReader_readWords_53 | with_reducible exact pc_some (by assumption) | with_reducible exact pc_none | with_reducible refine pc_chk (fun _ => ?_) | with_reducible refine pc_if (fun _ => ?_) (fun _ => ?_) | with_reducible refine pc_on ?_ (fun _ _ => ?_) | with_reducible refine pc_b2 (fx_MarkReader_refuse (x_3_0 := x_3_0) (x_3_1 := x_3_1) _ _ (by assumption)) (fun _ _ _ => ?_) | with_reducible refine pc_b2 (fj_MarkReader_readWord (x_177_4 := x_177_4) (x_3_0 := x_3_0) (x_3_1 := x_3_1) (z_ms := z_ms) _ (by assumption)) (fun _ _ _ => ?_) | with_reducible refine pc_b1 (fx_MarkReader_skipBlanks (x_177_4 := x_177_4) _ (by assumption)) (fun _ _ => ?_) | with_reducible refine xf_lt (by assumption) (by first | exact x_177_4 | exact x_177_5 | exact x_3_0 | exact x_3_1 | exact z_ms) (fun _ _ => ?_) | with_reducible refine xf_lts (by assumption) (fun _ _ => ?_) | with_reducible refine pf_b1 (fun _ => ?_) | with_reducible refine xf_ltv (fun _ => ?_)
/-- the marks of the class as the pure part sees them -/
def c_md (S : SS) : q_MK := fun j k =>
  if j = 0 then gi S (14 + 4 * k) 2 else if j = 1 then gi S (14 + 4 * k) 4 else if j = 2 then gi S (14 + 4 * k) 5 else if j = 3 then gi S (14 + 4 * k + 1) 1 else if j = 4 then gi S (14 + 4 * k) 6 else 0
/-- row and gap of a mark are told as its kind asks -/
def c_sh (S : SS) (k : Nat) : Prop := (gi S (14 + 4 * k) 2 = 1 ∧ gi S (14 + 4 * k) 4 = 0 ∧ gi S (14 + 4 * k) 5 = -1 ∧ 0 ≤ gi S (14 + 4 * k) 6) ∨ (gi S (14 + 4 * k) 2 ≠ 1 ∧ 0 ≤ gi S (14 + 4 * k) 4 ∧ gi S (14 + 4 * k) 4 ≤ gi S (14 + 4 * k) 5 ∧ -1 ≤ gi S (14 + 4 * k) 6)
theorem cm_kd (S : SS) (k : Nat) : q_kd (c_md S) k = gi S (14 + 4 * k) 2 := rfl
theorem cm_lo (S : SS) (k : Nat) : q_lo (c_md S) k = gi S (14 + 4 * k) 4 := rfl
theorem cm_hi (S : SS) (k : Nat) : q_hi (c_md S) k = gi S (14 + 4 * k) 5 := rfl
theorem cm_mi (S : SS) (k : Nat) : q_mi (c_md S) k = gi S (14 + 4 * k + 1) 1 := rfl
theorem cm_gp (S : SS) (k : Nat) : q_gp (c_md S) k = gi S (14 + 4 * k) 6 := rfl
theorem c_fits (S : SS) (k : Nat) (a b : Int) (h : c_sh S k) : (f_Mark_fitsInside S k a b = 0 ∧ ¬ q_ins (c_md S) k a b) ∨ (f_Mark_fitsInside S k a b = 1 ∧ q_ins (c_md S) k a b) := by
  unfold f_Mark_fitsInside f_Mark_fitsInside_26 q_ins
  rw [cm_kd, cm_lo, cm_hi, cm_gp]
  unfold c_sh at h
  generalize gi S (14 + 4 * k) 2 = kd at h ⊢
  generalize gi S (14 + 4 * k) 4 = l at h ⊢
  generalize gi S (14 + 4 * k) 5 = r at h ⊢
  generalize gi S (14 + 4 * k) 6 = g at h ⊢
  repeat' split
  all_goals omega
theorem c_within (S : SS) (k o : Nat) (h : c_sh S k) : pc (f_Mark_isWithin S k o) (fun r => (r = 0 ∧ ¬ q_wi (c_md S) k o) ∨ (r = 1 ∧ q_wi (c_md S) k o)) := by
  unfold f_Mark_isWithin
  refine pc_if (fun c => pc_chk (fun _ => pc_some ?_)) (fun c => pc_if (fun c2 => ?_) (fun c2 => pc_some ?_))
  · have n3 : ¬ q_kd (c_md S) o = 3 := by rw [cm_kd]; omega
    rcases c_fits S k (gi S (14 + 4 * o) 4) (gi S (14 + 4 * o) 5) h with q | q
    · exact .inl ⟨q.1, fun w => w.elim (fun w => q.2 w.2) (fun w => n3 w.1)⟩
    · exact .inr ⟨q.1, .inl ⟨c, q.2⟩⟩
  · refine pc_b1 (R := fun r => r = gi S (14 + 4 * o + 1) 1) (fun r e => ?_) (fun r3 h3 => pc_chk (fun _ => ?_))
    · unfold f_Mark_number at e
      rw [if_neg (by omega), if_pos (by omega), w_chkP (by omega)] at e
      cases e; rfl
    · rw [h3]
      have f1 := c_fits S k (gi S (14 + 4 * o) 4) (gi S (14 + 4 * o + 1) 1 - 1) h
      have f2 := c_fits S k (gi S (14 + 4 * o + 1) 1) (gi S (14 + 4 * o) 5) h
      refine pc_if (fun d => pc_if (fun d2 => pc_some (.inl ⟨rfl, fun w => w.elim (fun w => c w.1) (fun w => w.2.elim (z01_a f1 d) (z01_a f2 d2))⟩)) (fun d2 => pc_some (.inr ⟨rfl, .inr ⟨c2, .inr (z01_b f2 d2)⟩⟩))) (fun d => pc_some (.inr ⟨rfl, .inr ⟨c2, .inl (z01_b f1 d)⟩⟩))
  · exact .inl ⟨rfl, fun w => w.elim (fun w => c w.1) (fun w => c2 w.1)⟩
theorem c_cut {S : SS} {a b : Nat} (ha : c_sh S a) (hb : c_sh S b) : q_cut (c_md S) a b ↔ gi S (14 + 4 * b) 4 < gi S (14 + 4 * a) 6 ∧ gi S (14 + 4 * a) 6 ≤ gi S (14 + 4 * b) 5 := by
  unfold q_cut
  rw [cm_gp, cm_kd, cm_lo, cm_hi]
  unfold c_sh at ha hb
  generalize gi S (14 + 4 * b) 4 = l at hb ⊢
  generalize gi S (14 + 4 * b) 5 = r at hb ⊢
  generalize gi S (14 + 4 * b) 2 = kb at hb ⊢
  generalize gi S (14 + 4 * a) 6 = g at ha ⊢
  clear ha
  constructor
  · rintro ⟨_, _, c, d⟩; exact ⟨c, d⟩
  · rintro ⟨c, d⟩
    refine ⟨?_, ?_, c, d⟩
    · omega
    · omega
theorem c_ov {S : SS} {k o : Nat} (h : c_sh S k) (h' : c_sh S o) : q_ov (c_md S) k o ↔ gi S (14 + 4 * k) 4 ≤ gi S (14 + 4 * o) 5 ∧ gi S (14 + 4 * o) 4 ≤ gi S (14 + 4 * k) 5 := by
  unfold q_ov
  rw [cm_kd, cm_kd, cm_lo, cm_hi, cm_lo, cm_hi]
  unfold c_sh at h h'
  constructor
  · rintro ⟨_, _, c, d⟩; exact ⟨c, d⟩
  · rintro ⟨c, d⟩
    refine ⟨?_, ?_, c, d⟩
    · intro e
      rcases h with q | q
      · rcases h' with w | w <;> omega
      · exact q.1 e
    · intro e
      rcases h' with q | q
      · rcases h with w | w <;> omega
      · exact q.1 e
/-- the class's own words for meeting, within left out -/
abbrev c_mt (S : SS) (k o : Nat) : Prop := (gi S (14 + 4 * k) 4 ≤ gi S (14 + 4 * o) 5 ∧ gi S (14 + 4 * o) 4 ≤ gi S (14 + 4 * k) 5) ∨ (gi S (14 + 4 * o) 4 < gi S (14 + 4 * k) 6 ∧ gi S (14 + 4 * k) 6 ≤ gi S (14 + 4 * o) 5) ∨ (gi S (14 + 4 * k) 4 < gi S (14 + 4 * o) 6 ∧ gi S (14 + 4 * o) 6 ≤ gi S (14 + 4 * k) 5)
theorem c_mt_nm {S : SS} {k o : Nat} (h : c_sh S k) (h' : c_sh S o) (w1 : ¬ q_wi (c_md S) k o) (w2 : ¬ q_wi (c_md S) o k) : (¬ c_mt S k o → q_nm (c_md S) k o) ∧ (c_mt S k o → ¬ q_nm (c_md S) k o) := by
  refine ⟨fun a => .inr (.inr ⟨fun q => a (.inl ((c_ov h h').1 q)), fun q => a (.inr (.inl ((c_cut h h').1 q))), fun q => a (.inr (.inr ((c_cut h' h).1 q)))⟩), fun a q => ?_⟩
  rcases q with q | q | q
  · exact w1 q
  · exact w2 q
  · rcases a with a | a | a
    · exact q.1 ((c_ov h h').2 a)
    · exact q.2.1 ((c_cut h h').2 a)
    · exact q.2.2 ((c_cut h' h).2 a)
theorem c_mt_is (S : SS) (k o : Nat) : pc (if gi S (14 + 4 * o) 5 < gi S (14 + 4 * k) 4 then f_Mark_meets_40 S k o else (if gi S (14 + 4 * o) 4 ≤ gi S (14 + 4 * k) 5 then some 1 else f_Mark_meets_40 S k o)) (fun r => (r = 0 ∧ ¬ c_mt S k o) ∨ (r = 1 ∧ c_mt S k o)) := by
  unfold f_Mark_meets_40 f_Mark_meets_62 c_mt
  generalize gi S (14 + 4 * k) 4 = a
  generalize gi S (14 + 4 * k) 5 = b
  generalize gi S (14 + 4 * k) 6 = c
  generalize gi S (14 + 4 * o) 4 = d
  generalize gi S (14 + 4 * o) 5 = e
  generalize gi S (14 + 4 * o) 6 = f
  repeat' first | with_reducible refine pc_if (fun _ => ?_) (fun _ => ?_) | with_reducible refine pc_some ?_
  all_goals omega
theorem c_meets (S : SS) (k o : Nat) (h : c_sh S k) (h' : c_sh S o) : pc (f_Mark_meets S k o) (fun r => (r = 0 ∧ q_nm (c_md S) k o) ∨ (r = 1 ∧ ¬ q_nm (c_md S) k o)) := by
  unfold f_Mark_meets
  refine pc_b1 (c_within S k o h) (fun r1 h1 => pc_if (fun c1 => ?_) (fun c1 => pc_some (.inl ⟨rfl, .inl (z01_b h1 c1)⟩)))
  have w1 := z01_a h1 c1
  clear h1
  refine pc_b1 (c_within S o k h') (fun r2 h2 => pc_if (fun c2 => ?_) (fun c2 => pc_some (.inl ⟨rfl, .inr (.inl (z01_b h2 c2))⟩)))
  have w2 := z01_a h2 c2
  clear h2
  have N := c_mt_nm h h' w1 w2
  refine pc_mono (c_mt_is S k o) (fun r q => ?_)
  rcases q with q | q
  · exact .inl ⟨q.1, N.1 q.2⟩
  · exact .inr ⟨q.1, N.2 q.2⟩
theorem c_find {S : SS} (hq : ∀ k, k < 40 → gq S 11 k = some k) {k : Nat} (h : (k : Int) < gi S 10 3) (h40 : gi S 10 3 ≤ 40) : f_Pile_find S (k : Int) = some (some k) := by
  unfold f_Pile_find f_Pile_markAt
  rw [if_pos h, if_neg (by omega), if_pos (by omega), w_chkP (by omega)]
  show w_b1 (some (gq S 11 (k : Int).toNat)) _ = _
  rw [Int.toNat_natCast, hq k (by omega)]
  rfl
/-- what the class's marks are before they are decided -/
def c_s0 (S : SS) (k : Nat) : Int := if gi S (14 + 4 * k) 2 = 5 then 4 else if gi S (14 + 4 * k) 8 = 0 then (if gi S (14 + 4 * k) 7 = 0 then 1 else 3) else 2
abbrev c_rk (S : SS) (k : Nat) : Int := gi S 12 (gi S (14 + 4 * k) 3).toNat
noncomputable def c_st (S : SS) : Nat → Int := j_r (q_nm (c_md S)) (gi S 10 3).toNat (c_rk S) 10 0 (c_s0 S)
abbrev XDC (r k : Nat) : Prop := 14 ≤ r ∧ r < 174 ∧ r % 4 = 2 ∧ (k = 11 ∨ k = 12)
theorem cm_fr {S S1 : SS} (h : fr XDC S S1) : c_md S1 = c_md S := by
  funext j k
  unfold c_md
  rw [h (14 + 4 * k) 2 (by omega), h (14 + 4 * k) 4 (by omega), h (14 + 4 * k) 5 (by omega), h (14 + 4 * k + 1) 1 (by omega), h (14 + 4 * k) 6 (by omega)]
theorem csh_fr {S S1 : SS} (h : fr XDC S S1) {k : Nat} (q : c_sh S k) : c_sh S1 k := by
  unfold c_sh
  rw [h (14 + 4 * k) 2 (by omega), h (14 + 4 * k) 4 (by omega), h (14 + 4 * k) 5 (by omega), h (14 + 4 * k) 6 (by omega)]
  exact q
def c_fst (S : SS) (k : Nat) (r : Int) : Prop := (r = -1 ∧ ∀ j : Nat, (j : Int) < gi S 10 3 → gi S (14 + 4 * j) 11 = 0 → q_nm (c_md S) k j) ∨ (r ≠ -1 ∧ ∃ j : Nat, (j : Int) < gi S 10 3 ∧ gi S (14 + 4 * j) 11 = 0 ∧ ¬ q_nm (c_md S) k j)
/-- the first done one that k meets -/
theorem c_first (S : SS) (hq : ∀ k, k < 40 → gq S 11 k = some k) (h40 : gi S 10 3 ≤ 40) (k : Nat) (hk : c_sh S k) (hs : ∀ o : Nat, (o : Int) < gi S 10 3 → gi S (14 + 4 * o) 11 = 0 → c_sh S o) (hk0 : gi S (14 + 4 * k) 11 ≠ 0) : ∀ (n : Nat) (o : Nat), (∀ j : Nat, j < o → (j : Int) < gi S 10 3 → gi S (14 + 4 * j) 11 = 0 → q_nm (c_md S) k j) → pc (f_Pile_firstDoneThatMeets_2 S k n (o : Int)) (c_fst S k) := by
  intro n
  induction n with
  | zero => intro o _ r e; exact absurd e (by simp [f_Pile_firstDoneThatMeets_2])
  | succ n ih =>
    intro o ho
    have next : (o : Int) < gi S 10 3 → (gi S (14 + 4 * o) 11 = 0 → q_nm (c_md S) k o) → pc (f_Pile_firstDoneThatMeets_42 S k (f_Pile_firstDoneThatMeets_2 S k n) (o : Int)) (c_fst S k) := fun hlt q => by
      unfold f_Pile_firstDoneThatMeets_42
      refine pc_chk (fun _ => ?_)
      rw [show (o : Int) + 1 = ((o + 1 : Nat) : Int) by omega]
      refine ih (o + 1) (fun j hj hl h0 => ?_)
      by_cases e : j = o
      · rw [e] at h0 ⊢; exact q h0
      · exact ho j (by omega) hl h0
    show pc (f_Pile_firstDoneThatMeets_2_b S k (f_Pile_firstDoneThatMeets_2 S k n) (o : Int)) (c_fst S k)
    unfold f_Pile_firstDoneThatMeets_2_b
    refine pc_if (fun c => pc_some (.inl ⟨rfl, fun j hj => ho j (by omega) hj⟩)) (fun c => ?_)
    rw [w_b1_is (c_find hq (by omega) h40)]
    show pc (w_chk (o < 40) _) (c_fst S k)
    refine pc_chk (fun _ => pc_if (fun c2 => next (by omega) (fun q => absurd (by rw [← c2]; exact q) hk0)) (fun c2 => pc_if (fun c3 => ?_) (fun c3 => next (by omega) (fun q => absurd q c3))))
    refine pc_b1 (c_meets S k o hk (hs o (by omega) c3)) (fun r6 h6 => pc_if (fun c6 => next (by omega) (fun _ => z01_a h6 c6)) (fun c6 => pc_some (.inr ⟨by omega, o, by omega, c3, z01_b h6 c6⟩)))
def c_ok (S : SS) : Prop := (∀ k, k < 40 → gq S 11 k = some k) ∧ 0 ≤ gi S 10 3 ∧ gi S 10 3 ≤ 40 ∧ (∀ k : Nat, (k : Int) < gi S 10 3 → 0 ≤ gi S (14 + 4 * k) 3 ∧ gi S (14 + 4 * k) 3 ≤ 2) ∧ (∀ k : Nat, (k : Int) < gi S 10 3 → gi S (14 + 4 * k) 2 ≠ 5 → c_sh S k)
def c_js (S0 S : SS) (st : Nat → Int) (r : Int) (k : Nat) : Prop := fr XDC S0 S ∧ S.2 = S0.2 ∧ (∀ j : Nat, (j : Int) < gi S0 10 3 → gi S (14 + 4 * j) 11 = st j) ∧ j_ok (q_nm (c_md S0)) (gi S0 10 3).toNat (fun k => gi S0 (14 + 4 * k) 2 = 5) st ∧ (∀ j : Nat, (j : Int) < gi S0 10 3 → (r < c_rk S0 j ∨ (r = c_rk S0 j ∧ k ≤ j)) → st j = c_s0 S0 j)
theorem c_asks (S : SS) (k : Nat) : (f_Mark_asks S k = 0 ∧ c_s0 S k ≠ 1) ∨ (f_Mark_asks S k = 1 ∧ c_s0 S k = 1) := by
  unfold f_Mark_asks c_s0
  repeat' split
  all_goals first | (left; refine ⟨rfl, ?_⟩; decide) | (right; exact ⟨rfl, rfl⟩)
theorem cs0_fr {S S1 : SS} (h : fr XDC S S1) (k : Nat) : c_s0 S1 k = c_s0 S k := by
  unfold c_s0
  rw [h (14 + 4 * k) 2 (by omega), h (14 + 4 * k) 7 (by omega), h (14 + 4 * k) 8 (by omega)]
theorem gi_mk_off {S : SS} {i j : Nat} {s s' : Nat} {v : Int} (h : ¬ (i = j ∧ s = s')) : gi (si S (14 + 4 * j) s' v) (14 + 4 * i) s = gi S (14 + 4 * i) s := gi_off (fun q => h ⟨by omega, q.2⟩)
theorem cl_49 (S0 : SS) (hO : c_ok S0) (r : Int) (kf : SS → Int → Option SS) (P : SS → Prop) : ∀ (n c : Nat) (S : SS) (k : Nat) (st : Nat → Int), k + c = (gi S0 10 3).toNat → c_js S0 S st r k → (∀ S', c_js S0 S' (j_k (q_nm (c_md S0)) (gi S0 10 3).toNat (c_rk S0) r c k st) r (gi S0 10 3).toNat → pc (kf S' (r + 1)) P) → pc (f_Pile_decide_49 kf n S r (k : Int)) P := by
  intro n
  induction n with
  | zero => intro c S k st _ _ _ r e; exact absurd e (by simp [f_Pile_decide_49])
  | succ n ih =>
    intro c S k st hc hj hk
    obtain ⟨o1, o2, o3, o4, o5⟩ := hO
    obtain ⟨j1, j2, j3, j4, j5⟩ := hj
    have e3 : gi S 10 3 = gi S0 10 3 := j1 10 3 (by omega)
    have hq : ∀ k, k < 40 → gq S 11 k = some k := fun k hk => by unfold gq; rw [j2]; exact o1 k hk
    show pc (f_Pile_decide_49_b kf (f_Pile_decide_49 kf n) S r (k : Int)) P
    unfold f_Pile_decide_49_b
    rw [e3]
    refine pc_if (fun c1 => pc_chk (fun _ => ?_)) (fun c1 => ?_)
    · have : c = 0 := by omega
      subst this
      rw [show (gi S0 10 3).toNat = k by omega] at hk
      exact hk S ⟨j1, j2, j3, j4, j5⟩
    · obtain ⟨c, rfl⟩ : ∃ c', c = c' + 1 := ⟨c - 1, by omega⟩
      rw [w_b1_is (c_find hq (by omega) (by omega))]
      show pc (w_chk (k < 40) _) _
      refine pc_chk (fun hk40 => ?_)
      have go : ∀ S' st', c_js S0 S' st' r (k + 1) → st' = cif (st k = 1 ∧ c_rk S0 k = r) (j_one (q_nm (c_md S0)) (gi S0 10 3).toNat k st) st → pc (f_Pile_decide_112 kf (f_Pile_decide_49 kf n) S' r (k : Int)) P := by
        intro S' st' hj' e
        unfold f_Pile_decide_112
        refine pc_chk (fun _ => ?_)
        rw [show (k : Int) + 1 = ((k + 1 : Nat) : Int) by omega]
        refine ih c S' (k + 1) st' (by omega) hj' (fun S'' d => hk S'' ?_)
        rw [j_k, ← e]; exact d
      have skip : ¬ (st k = 1 ∧ c_rk S0 k = r) → pc (f_Pile_decide_112 kf (f_Pile_decide_49 kf n) S r (k : Int)) P := by
        intro hn
        exact go S st ⟨j1, j2, j3, j4, fun j a d => j5 j a (by omega)⟩ (by rw [cif_neg hn])
      have as := c_asks S k
      rw [cs0_fr j1] at as
      have eh : gi S (14 + 4 * k) 3 = gi S0 (14 + 4 * k) 3 := j1 _ 3 (by omega)
      have hh := o4 k (by omega)
      refine pc_if (fun c2 => skip (fun q => ?_)) (fun c2 => ?_)
      · have s0 := z01_a as c2
        rw [← j5 k (by omega) (.inr ⟨q.2.symm, Nat.le_refl _⟩)] at s0
        exact s0 q.1
      · have s1 := z01_b as c2
        have er : f_Pile_rankOf S (gi S (14 + 4 * k) 3) = some (c_rk S0 k) := by
          unfold f_Pile_rankOf
          rw [eh, if_neg (by omega), if_pos (by omega), w_chkP (by omega), j1 12 _ (by omega)]
        rw [w_b1_is er]
        refine pc_if (fun c3 => ?_) (fun c3 => skip (fun q => c3 q.2))
        have st1 : st k = 1 := (j5 k (by omega) (.inr ⟨c3.symm, Nat.le_refl _⟩)).trans s1
        have k5 : gi S0 (14 + 4 * k) 2 ≠ 5 := by
          intro e; unfold c_s0 at s1; rw [if_pos e] at s1; exact absurd s1 (by decide)
        have shp : ∀ o : Nat, (o : Int) < gi S 10 3 → gi S (14 + 4 * o) 11 = 0 → c_sh S o := by
          intro o ho h0
          have := j4 o (by omega) (.inl (by rw [← j3 o (by omega)]; exact h0))
          exact csh_fr j1 (o5 o (by omega) this.1)
        refine pc_b1 (c_first S hq (by omega) k (csh_fr j1 (o5 k (by omega) k5)) shp (by rw [j3 k (by omega), st1]; decide) FU 0 (fun j hj => absurd hj (Nat.not_lt_zero j))) (fun r10 h10 => pc_lt (fun S12 e12 => ?_))
        unfold c_fst at h10
        rw [cm_fr j1] at h10
        have f12 : fr XDC S0 S12 := by rw [e12]; exact fr_si j1 (by omega)
        have g12 : gi S12 (14 + 4 * k) 12 = r10 := by rw [e12, gi_at]
        rw [g12]
        have fin : ∀ v : Int, (∀ j : Nat, (j : Int) < gi S0 10 3 → (if j = k then v else st j) = j_one (q_nm (c_md S0)) (gi S0 10 3).toNat k st j) → pc (f_Pile_decide_109 kf (f_Pile_decide_49 kf n) S12 r (k : Int) v k) P := by
          intro v hv
          unfold f_Pile_decide_109
          refine pc_lt (fun S1 e1 => go S1 _ ⟨by rw [e1]; exact fr_si f12 (by omega), by rw [e1, e12]; exact j2, fun j hj => ?_, j_one_ok (fun _ _ h => q_nm_symm h) j4 st1, fun j hj d => ?_⟩ (by rw [cif_pos ⟨st1, c3⟩]))
          · rw [← hv j hj]
            by_cases e : j = k
            · rw [if_pos e, e, e1, gi_at]
            · rw [if_neg e, e1, gi_mk_off (fun q => e q.1), e12, gi_mk_off (fun q => e q.1)]
              exact j3 j hj
          · have ne : j ≠ k := by intro e; rw [e] at d; omega
            unfold j_one
            rw [cif_neg (fun q => ne q.1)]
            exact j5 j hj (by omega)
        refine pc_if (fun c4 => fin 0 (fun j hj => ?_)) (fun c4 => fin 1 (fun j hj => ?_))
        · have all : ∀ o, o < (gi S0 10 3).toNat → st o = 0 → q_nm (c_md S0) k o := by
            intro o ho h0
            rcases h10 with q | q
            · exact q.2 o (by omega) (by rw [j3 o (by omega)]; exact h0)
            · exact absurd c4 q.1
          unfold j_one
          by_cases e : j = k
          · rw [if_pos e, cif_pos ⟨e, all⟩]
          · rw [if_neg e, cif_neg (fun q => e q.1)]
        · have nall : ¬ ∀ o, o < (gi S0 10 3).toNat → st o = 0 → q_nm (c_md S0) k o := by
            intro all
            rcases h10 with q | q
            · exact c4 q.1
            · obtain ⟨_, o, a, d, e⟩ := q
              have a' : o < (gi S0 10 3).toNat := by clear e all; omega
              have a2 : (o : Int) < gi S0 10 3 := by clear e all; omega
              exact e (all o a' (by rw [← j3 o a2]; exact d))
          unfold j_one
          rw [cif_neg (fun q => nall q.2)]
          by_cases e : j = k
          · rw [if_pos e, e, st1]
          · rw [if_neg e]
/-- all stays but the list of the done ones -/
abbrev XLD (r k : Nat) : Prop := r = 13 ∨ (r = 10 ∧ k = 5)
theorem cl_list (S0 : SS) (hq : ∀ k, k < 40 → gq S0 11 k = some k) (h40 : gi S0 10 3 ≤ 40) (st : Nat → Int) (hst : ∀ j : Nat, (j : Int) < gi S0 10 3 → gi S0 (14 + 4 * j) 11 = st j) : ∀ (n : Nat) (S : SS) (k : Nat), fr XLD S0 S → S.2 = S0.2 → (k : Int) ≤ gi S0 10 3 → gi S 10 5 = (m_dn st k : Int) → (∀ j : Nat, j < k → st j = 0 → gi S 13 (m_dn st j) = (j : Int)) → pc (f_Pile_listDone_7 n S (k : Int)) (fun S1 => fr XLD S0 S1 ∧ S1.2 = S0.2 ∧ gi S1 10 5 = (m_dn st (gi S0 10 3).toNat : Int) ∧ ∀ j : Nat, (j : Int) < gi S0 10 3 → st j = 0 → gi S1 13 (m_dn st j) = (j : Int)) := by
  intro n
  induction n with
  | zero => intro S k _ _ _ _ _ r e; exact absurd e (by simp [f_Pile_listDone_7])
  | succ n ih =>
    intro S k hf h2 hk h5 hd
    have e3 : gi S 10 3 = gi S0 10 3 := hf 10 3 (by omega)
    have es : gi S (14 + 4 * k) 11 = gi S0 (14 + 4 * k) 11 := hf _ 11 (by omega)
    have hq' : ∀ k, k < 40 → gq S 11 k = some k := fun k hk => by unfold gq; rw [h2]; exact hq k hk
    have dle : ∀ j, m_dn st j ≤ j := by
      intro j
      induction j with
      | zero => exact Nat.le_refl _
      | succ j ih => rw [m_dn]; split <;> omega
    have dk := dle k
    show pc (f_Pile_listDone_7_b (f_Pile_listDone_7 n) S (k : Int)) _
    unfold f_Pile_listDone_7_b
    rw [e3]
    refine pc_if (fun c => pc_some ⟨hf, h2, by rw [h5, show (gi S0 10 3).toNat = k by omega], fun j hj => hd j (by omega)⟩) (fun c => ?_)
    rw [w_b1_is (c_find hq' (by omega) (by omega))]
    show pc (w_chk (k < 40) _) _
    refine pc_chk (fun _ => ?_)
    rw [es, hst k (by omega)]
    refine pc_if (fun c2 => pc_if (fun c3 => absurd c3 (by omega)) (fun c3 => pc_chk (fun _ => pc_lt (fun S8 e8 => pc_chk (fun _ => pc_lt (fun S11 e11 => ?_)))))) (fun c2 => ?_)
    · unfold f_Pile_listDone_64
      refine pc_chk (fun _ => ?_)
      rw [show (k : Int) + 1 = ((k + 1 : Nat) : Int) by omega]
      have a5 : gi S8 10 5 = gi S 10 5 := by rw [e8, gi_off (by omega)]
      have dn : m_dn st (k + 1) = m_dn st k + 1 := by rw [m_dn, if_pos c2]
      refine ih S11 (k + 1) (by rw [e11, e8]; exact fr_si (fr_si hf (.inl rfl)) (.inr ⟨rfl, rfl⟩)) (by rw [e11, e8]; exact h2) (by omega) (by rw [e11, gi_at, a5, h5, dn]; omega) (fun j hj h0 => ?_)
      rw [e11, gi_off (by omega), e8, h5, gi_si]
      by_cases e : j = k
      · rw [e, if_pos ⟨rfl, by omega⟩]
      · have := m_dn_lt st j h0 k (by omega)
        rw [if_neg (fun q => by omega)]
        exact hd j (by omega) h0
    · unfold f_Pile_listDone_64
      refine pc_chk (fun _ => ?_)
      rw [show (k : Int) + 1 = ((k + 1 : Nat) : Int) by omega]
      have dn : m_dn st (k + 1) = m_dn st k := by rw [m_dn, if_neg c2]; rfl
      refine ih S (k + 1) hf h2 (by omega) (by rw [h5, dn]) (fun j hj h0 => ?_)
      by_cases e : j = k
      · rw [e] at h0; exact absurd h0 c2
      · exact hd j (by omega) h0
abbrev XDD (r k : Nat) : Prop := XDC r k ∨ XLD r k
def c_dec (S0 S1 : SS) (st : Nat → Int) : Prop := fr XDD S0 S1 ∧ S1.2 = S0.2 ∧ (∀ j : Nat, (j : Int) < gi S0 10 3 → gi S1 (14 + 4 * j) 11 = st j) ∧ gi S1 10 5 = (m_dn st (gi S0 10 3).toNat : Int) ∧ ∀ j : Nat, (j : Int) < gi S0 10 3 → st j = 0 → gi S1 13 (m_dn st j) = (j : Int)
theorem cl_41 (S0 : SS) (hO : c_ok S0) : ∀ (n c : Nat) (S : SS) (r : Int) (st : Nat → Int), r + (c : Int) = 10 → c_js S0 S st r 0 → pc (f_Pile_decide_41 n S r) (fun S1 => c_dec S0 S1 (j_r (q_nm (c_md S0)) (gi S0 10 3).toNat (c_rk S0) c r st)) := by
  intro n
  induction n with
  | zero => intro c S r st _ _ q e; exact absurd e (by simp [f_Pile_decide_41])
  | succ n ih =>
    intro c S r st hc hj
    show pc (f_Pile_decide_41_b (f_Pile_decide_41 n) S r) _
    unfold f_Pile_decide_41_b
    refine pc_if (fun c1 => ?_) (fun c1 => ?_)
    · have : c = 0 := by omega
      subst this
      obtain ⟨j1, j2, j3, j4, j5⟩ := hj
      have e3 : gi S 10 3 = gi S0 10 3 := j1 10 3 (by omega)
      unfold f_Pile_listDone
      refine pc_b1 (R := fun S1 => fr XLD S S1 ∧ S1.2 = S.2 ∧ gi S1 10 5 = (m_dn st (gi S 10 3).toNat : Int) ∧ ∀ j : Nat, (j : Int) < gi S 10 3 → st j = 0 → gi S1 13 (m_dn st j) = (j : Int)) ?_ (fun S1 h1 => pc_some ?_)
      · refine pc_lt (fun S1 e1 => ?_)
        exact cl_list S (fun k hk => by unfold gq; rw [j2]; exact hO.1 k hk) (by rw [e3]; exact hO.2.2.1) st (fun j hj => j3 j (by omega)) FU S1 0 (by rw [e1]; exact fr_si (fr_refl _ S) (.inr ⟨rfl, rfl⟩)) (by rw [e1]; rfl) (by have := hO.2.1; omega) (by rw [e1, gi_at]; rfl) (fun j hj => absurd hj (Nat.not_lt_zero j))
      · obtain ⟨h1, h2, h3, h4⟩ := h1
        refine ⟨fun r k a => by rw [h1 r k (fun q => a (.inr q))]; exact j1 r k (fun q => a (.inl q)), h2.trans j2, fun j hj => by rw [h1 _ 11 (by omega)]; exact j3 j hj, by rw [h3, e3]; rfl, fun j hj => h4 j (by omega)⟩
    · obtain ⟨c, rfl⟩ : ∃ c', c = c' + 1 := ⟨c - 1, by omega⟩
      refine cl_49 S0 hO r (f_Pile_decide_41 n) _ FU (gi S0 10 3).toNat S 0 st (by omega) hj (fun S' hj' => ?_)
      obtain ⟨j1, j2, j3, j4, j5⟩ := hj'
      refine ih c S' (r + 1) _ (by omega) ⟨j1, j2, j3, j4, fun j a d => j5 j a (.inl (by omega))⟩
theorem cl_2 (S0 : SS) (hO : c_ok S0) : ∀ (n : Nat) (S : SS) (k : Nat), (k : Int) ≤ gi S0 10 3 → fr XDC S0 S → S.2 = S0.2 → (∀ j : Nat, j < k → gi S (14 + 4 * j) 11 = c_s0 S0 j) → pc (f_Pile_decide_2 n S (k : Int)) (fun S1 => c_dec S0 S1 (c_st S0)) := by
  intro n
  induction n with
  | zero => intro S k _ _ _ _ r e; exact absurd e (by simp [f_Pile_decide_2])
  | succ n ih =>
    intro S k hk hf h2 hs
    obtain ⟨o1, o2, o3, o4, o5⟩ := id hO
    have e3 : gi S 10 3 = gi S0 10 3 := hf 10 3 (by omega)
    have hq : ∀ k, k < 40 → gq S 11 k = some k := fun k hk => by unfold gq; rw [h2]; exact o1 k hk
    show pc (f_Pile_decide_2_b (f_Pile_decide_2 n) S (k : Int)) _
    unfold f_Pile_decide_2_b
    rw [e3]
    refine pc_if (fun c => ?_) (fun c => ?_)
    · refine cl_41 S0 hO FU 10 S 0 (c_s0 S0) (by omega) ⟨hf, h2, fun j hj => hs j (by omega), fun j hj h01 => ?_, fun _ _ _ => rfl⟩
      have k5 : gi S0 (14 + 4 * j) 2 ≠ 5 := by
        intro e; unfold c_s0 at h01; rw [if_pos e] at h01; exact absurd h01 (by decide)
      refine ⟨k5, fun h0 => ?_⟩
      unfold c_s0 at h0
      rw [if_neg k5] at h0
      repeat' split at h0
      all_goals exact absurd h0 (by decide)
    · rw [w_b1_is (c_find hq (by omega) (by omega))]
      show pc (w_chk (k < 40) _) _
      refine pc_chk (fun _ => pc_lt (fun S5 e5 => pc_lt (fun S7 e7 => ?_)))
      have f5 : fr XDC S0 S5 := by rw [e5]; exact fr_si hf (by omega)
      have us : f_Mark_undecidedStatus S5 k = c_s0 S0 k := by
        rw [← cs0_fr f5]; rfl
      unfold f_Pile_decide_33
      refine pc_chk (fun _ => ?_)
      rw [show (k : Int) + 1 = ((k + 1 : Nat) : Int) by omega]
      refine ih S7 (k + 1) (by omega) (by rw [e7]; exact fr_si f5 (by omega)) (by rw [e7, e5]; exact h2) (fun j hj => ?_)
      rw [e7]
      by_cases e : j = k
      · rw [e, gi_at]; exact us
      · rw [gi_mk_off (fun q => e q.1), e5, gi_mk_off (fun q => e q.1)]
        exact hs j (by omega)
theorem pc_decide (S : SS) (hO : c_ok S) : pc (f_Pile_decide S) (fun S1 => c_dec S S1 (c_st S)) := cl_2 S hO FU S 0 (by have := hO.2.1; omega) (fr_refl _ S) rfl (fun j hj => absurd hj (Nat.not_lt_zero j))
def c_flt (S : SS) (kd : Int) : SS := si (si S 3 0 kd) 3 1 (gi S 177 5)
theorem c_refuse {S S1 : SS} {kd r : Int} (h : f_MarkReader_refuse S kd = some (r, S1)) : r = 0 ∧ S1 = c_flt S kd := by
  unfold f_MarkReader_refuse at h
  obtain ⟨_, h⟩ := w_chkE h
  obtain ⟨a, t, e, h⟩ := w_b2E h
  unfold f_Fault_tellOf w_lt at e
  cases e
  obtain ⟨_, h⟩ := w_chkE h
  cases h
  exact ⟨rfl, rfl⟩
theorem FE_flt {S T : SS} {kd : Int} (h : gi S 177 5 = gi T 192 10) : FE (c_flt S kd) (f_M_wrong T kd (gi T 192 10)) := by
  refine ⟨?_, ?_⟩
  · show gi (si (si S 3 0 kd) 3 1 _) 3 0 = gi (si (si T 192 14 kd) 192 15 _) 192 14
    rw [gi_off (by omega), gi_at, gi_off (by omega), gi_at]
  · show gi (si (si S 3 0 kd) 3 1 _) 3 1 = gi (si (si T 192 14 kd) 192 15 _) 192 15
    rw [gi_at, gi_at, h]
theorem nr_loop (S : SS) (N : Int) (hN : gi S 1 1 = N) (h2 : N ≤ 2000) (h0 : 0 ≤ gi S 177 5) (h1 : gi S 177 4 ≤ N) : ∀ (n : Nat) (acc : Int) (k : Nat), gi S 177 5 + (k : Int) ≤ gi S 177 4 → acc = t_val (cby_ S) (gi S 177 5) k → pc (f_MarkReader_numberRead_7 S n acc (gi S 177 5 + (k : Int))) (fun r => r = t_val (cby_ S) (gi S 177 5) (gi S 177 4 - gi S 177 5).toNat) := by
  intro n
  induction n with
  | zero => intro acc k _ _ r e; exact absurd e (by simp [f_MarkReader_numberRead_7])
  | succ n ih =>
    intro acc k hk ha
    show pc (f_MarkReader_numberRead_7_b S (f_MarkReader_numberRead_7 S n) acc (gi S 177 5 + (k : Int))) _
    unfold f_MarkReader_numberRead_7_b
    refine pc_if (fun c => pc_some (by rw [ha, show (gi S 177 4 - gi S 177 5).toNat = k by omega])) (fun c => pc_chk (fun _ => pc_chk (fun _ => ?_)))
    rw [w_b1_is (cby (S := S) (i := gi S 177 5 + (k : Int)) (by omega) (by omega) (by omega))]
    have eb : andi (gi S 2 (gi S 177 5 + (k : Int)).toNat) 255 = cby_ S (gi S 177 5 + (k : Int)) := rfl
    rw [eb]
    refine pc_chk (fun _ => pc_chk (fun _ => pc_chk (fun _ => ?_)))
    rw [show gi S 177 5 + (k : Int) + 1 = gi S 177 5 + ((k + 1 : Nat) : Int) by omega]
    refine ih _ (k + 1) (by omega) ?_
    rw [t_val, ha]; omega
theorem nr_is {S : SS} {N v : Int} (hN : gi S 1 1 = N) (h2 : N ≤ 2000) (h0 : 0 ≤ gi S 177 5) (h5 : gi S 177 5 ≤ gi S 177 4) (h1 : gi S 177 4 ≤ N) (e : f_MarkReader_numberRead S = some v) : v = t_val (cby_ S) (gi S 177 5) (gi S 177 4 - gi S 177 5).toNat := by
  unfold f_MarkReader_numberRead at e
  have L := nr_loop S N hN h2 h0 h1 FU 0 0 (by omega) rfl v
  rw [show gi S 177 5 + ((0 : Nat) : Int) = gi S 177 5 by omega] at L
  exact L e
theorem t_val_congr {b b' : Int → Int} {s : Int} : ∀ n : Nat, (∀ j, s ≤ j → j < s + (n : Int) → b j = b' j) → t_val b s n = t_val b' s n := by
  intro n
  induction n with
  | zero => intro _; rfl
  | succ n ih =>
    intro h
    rw [t_val, t_val, ih (fun j a d => h j a (by omega)), h (s + (n : Int)) (by omega) (by omega)]
/-- a number stands there for both, or for none -/
theorem num_tok {S T : SS} (hB : BF S T) (h : TKR S T) : ((gi S 177 6 = 2 ∧ gi S 177 4 - gi S 177 5 ≤ 3) ↔ gi T 192 12 = 2) ∧ (gi T 192 12 = 2 → ∀ v, f_MarkReader_numberRead S = some v → v = gi T 192 13) := by
  obtain ⟨k1, k2, k3, k4, k5, k6, k7, k8⟩ := h
  by_cases c : gi T 192 10 = gi T 192 9
  · rw [if_pos c] at k7
    have hd := k8.1 c
    exact ⟨⟨fun q => by omega, fun q => by omega⟩, fun q => by omega⟩
  · rw [if_neg c] at k7
    have lt : gi T 192 10 < gi T 192 9 := by omega
    obtain ⟨x1, x2, x3⟩ := k8.2 lt
    have cl : t_cls (mby_ T (gi T 192 10)) = 1 ∨ t_cls (mby_ T (gi T 192 10)) = 2 ∨ t_cls (mby_ T (gi T 192 10)) = 0 := by
      unfold t_cls
      repeat' split
      all_goals omega
    rcases cl with w | w | w
    · have := x1 w
      exact ⟨⟨fun q => by omega, fun q => by omega⟩, fun q => by omega⟩
    · have y := x2 w
      refine ⟨⟨fun q => ?_, fun q => ⟨by omega, ?_⟩⟩, fun q v ev => ?_⟩
      · rcases y.1 with z | z <;> omega
      · rcases y.1 with z | z <;> omega
      · have e3 : gi T 192 11 - gi T 192 10 ≤ 3 := by rcases y.1 with z | z <;> omega
        have nv := nr_is (N := gi S 1 1) rfl hB.2.2.1 (by omega) (by omega) (by rw [hB.1]; omega) ev
        rw [nv, y.2, k1, k2, show min (gi T 192 11 - gi T 192 10).toNat 3 = (gi T 192 11 - gi T 192 10).toNat by omega]
        exact t_val_congr _ (fun j a d => BF_by hB j (by omega) (by omega))
    · have z := x3 w
      have hz : gi T 192 12 ≠ 2 := by rcases z with z | z <;> omega
      exact ⟨⟨fun q => by omega, fun q => absurd q hz⟩, fun q => absurd q hz⟩
theorem mn_is {T T1 : SS} {a c : Int} {o : Option Int} (h : f_M_number T a c = some (o, T1)) : (gi T 192 12 ≠ 2 ∧ o = none ∧ T1 = f_M_wrong T 1 (gi T 192 10)) ∨ (gi T 192 12 = 2 ∧ ¬ (a ≤ gi T 192 13 ∧ gi T 192 13 ≤ c) ∧ o = none ∧ T1 = f_M_wrong T 2 (gi T 192 10)) ∨ (gi T 192 12 = 2 ∧ (a ≤ gi T 192 13 ∧ gi T 192 13 ≤ c) ∧ o = some (gi T 192 13) ∧ f_M_scan T = some T1) := by
  unfold f_M_number at h
  have i := in01 T (gi T 192 13) a c
  by_cases c1 : gi T 192 12 = 2
  · rw [if_pos c1] at h
    by_cases c2 : f_M_in T (gi T 192 13) a c = 0
    · rw [if_pos c2] at h
      unfold w_lt at h
      cases h
      exact .inr (.inl ⟨c1, by omega, rfl, rfl⟩)
    · rw [if_neg c2] at h
      obtain ⟨T2, e, h⟩ := w_b1E h
      cases h
      exact .inr (.inr ⟨c1, by omega, rfl, e⟩)
  · rw [if_neg c1] at h
    unfold w_lt at h
    cases h
    exact .inl ⟨c1, rfl, rfl⟩
/-- one number of both sides -/
theorem num_step {S T S' T1 : SS} {b j n : Nat} {told i r : Int} {o : Option Int} (G : Prop) (hC : CX b S) (hbb : 2 ≤ b) (hj : j < 40) (hval : 0 ≤ gi T 192 13 ∧ gi T 192 13 ≤ 999) (hB : BF S T) (hA : AH S T) (hi : 0 ≤ i ∧ i < 3 ∧ i < told) (h1 : f_MarkReader_readNumbers_33 j (n + 1) S told i = some (r, S'))
    (hr : (gi T 192 12 ≠ 2 ∧ o = none ∧ T1 = f_M_wrong T 1 (gi T 192 10)) ∨ (gi T 192 12 = 2 ∧ ¬ G ∧ o = none ∧ T1 = f_M_wrong T 2 (gi T 192 10)) ∨ (gi T 192 12 = 2 ∧ G ∧ o = some (gi T 192 13) ∧ f_M_scan T = some T1))
    (hm : ∀ S9 x, CX b S9 → FX (fun r k => (r = 177 ∧ 4 ≤ k) ∨ (r = 14 + 4 * j + 1 ∧ k = i.toNat)) S S9 → gi S9 (14 + 4 * j + 1) i.toNat = gi T 192 13 → f_MarkReader_mayBegin S9 j i = some x → (x = 0 ↔ ¬ G)) :
    (r = 0 ∧ o = none ∧ FE S' T1 ∧ (∀ r k, ¬ (r = 3 ∨ (r = 177 ∧ 4 ≤ k) ∨ r = 14 + 4 * j + 1) → gi S' r k = gi S r k) ∧ (∀ r k, ¬ (r = 192 ∧ 10 ≤ k ∧ k ≤ 15) → gi T1 r k = gi T r k)) ∨
    (∃ S9, o = some (gi T 192 13) ∧ G ∧ f_MarkReader_readNumbers_33 j n S9 told (i + 1) = some (r, S') ∧ CX b S9 ∧ AH S9 T1 ∧ gi S9 (14 + 4 * j + 1) i.toNat = gi T 192 13 ∧ FX (fun r k => (r = 177 ∧ 4 ≤ k) ∨ (r = 14 + 4 * j + 1 ∧ k = i.toNat)) S S9 ∧ fr XSN T T1) := by
  have h1 : f_MarkReader_readNumbers_33_b j (f_MarkReader_readNumbers_33 j n) S told i = some (r, S') := h1
  unfold f_MarkReader_readNumbers_33_b at h1
  rw [if_neg (by omega)] at h1
  obtain ⟨S1, e1, h1⟩ := w_b1E h1
  obtain ⟨tk, f1⟩ := AH_read hB hA e1
  have hB1 : BF S1 T := ⟨by rw [f1.1 1 1 (by omega)]; exact hB.1, by rw [f1.1 1 1 (by omega)]; exact hB.2.1, by rw [f1.1 1 1 (by omega)]; exact hB.2.2.1, fun k hk => by rw [f1.1 1 1 (by omega)] at hk; rw [f1.1 2 k (by omega)]; exact hB.2.2.2 k hk⟩
  obtain ⟨nt, nv⟩ := num_tok hB1 tk
  have hC1 : CX b S1 := (ok_true (ok_MarkReader_readToken S hC hbb) S1 e1).1
  have mk : ∀ S9, S9 = si S1 (14 + 4 * j + 1) i.toNat (gi T 192 13) → CX b S9 ∧ gi S9 (14 + 4 * j + 1) i.toNat = gi T 192 13 ∧ FX (fun r k => (r = 177 ∧ 4 ≤ k) ∨ (r = 14 + 4 * j + 1 ∧ k = i.toNat)) S S9 := fun S9 e => ⟨by rw [e]; exact cs_nm hC1 hj (by omega) (by omega), by rw [e, gi_at], ⟨fun r k a => by rw [e, gi_off (by omega)]; exact f1.1 r k (by omega), by rw [e]; exact f1.2⟩⟩
  have k1 := tk.1
  have bad63 : f_MarkReader_readNumbers_63 j S1 = some (r, S') → r = 0 ∧ S' = c_flt S1 1 := by
    intro q
    unfold f_MarkReader_readNumbers_63 at q
    obtain ⟨a, t, e, q⟩ := w_b2E q
    obtain ⟨_, q⟩ := w_chkE q
    have w := c_refuse e
    cases q
    exact w
  have cf : ∀ (Sx : SS) (kd : Int) r k, r ≠ 3 → gi (c_flt Sx kd) r k = gi Sx r k := fun Sx kd r k h => by
    show gi (si (si Sx 3 0 kd) 3 1 _) r k = _
    rw [gi_off (by omega), gi_off (by omega)]
  have wf : ∀ (kd : Int) r k, ¬ (r = 192 ∧ 10 ≤ k ∧ k ≤ 15) → gi (f_M_wrong T kd (gi T 192 10)) r k = gi T r k := fun kd r k h => by
    show gi (si (si T 192 14 kd) 192 15 _) r k = _
    rw [gi_off (by omega), gi_off (by omega)]
  rcases hr with ⟨m1, m2, m3⟩ | ⟨m1, m2, m3, m4⟩ | ⟨m1, m2, m4, m5⟩
  · left
    have nn : ¬ (gi S1 177 6 = 2 ∧ gi S1 177 4 - gi S1 177 5 ≤ 3) := fun q => m1 (nt.1 q)
    have w : r = 0 ∧ S' = c_flt S1 1 := by
      by_cases c1 : gi S1 177 6 = 2
      · rw [if_pos c1] at h1
        obtain ⟨_, h1⟩ := w_chkE h1
        rw [if_neg (fun q => nn ⟨c1, q⟩)] at h1
        exact bad63 h1
      · rw [if_neg c1] at h1
        exact bad63 h1
    refine ⟨w.1, m2, ?_, fun r k a => ?_, fun r k a => ?_⟩
    · rw [w.2, m3]; exact FE_flt k1
    · rw [w.2, cf _ _ r k (by omega)]; exact f1.1 r k (by omega)
    · rw [m3]; exact wf 1 r k a
  · left
    have yy := nt.2 m1
    rw [if_pos yy.1] at h1
    obtain ⟨_, h1⟩ := w_chkE h1
    rw [if_pos yy.2] at h1
    obtain ⟨v, ev, h1⟩ := w_b1E h1
    have hv := nv m1 v ev
    obtain ⟨S9, e9, h1⟩ := w_b1E h1
    unfold f_Mark_setNumber at e9
    rw [if_neg (by omega), if_neg (by omega)] at e9
    obtain ⟨_, e9⟩ := w_chkE e9
    unfold w_lt at e9
    have e9 := (Option.some.inj e9).symm
    rw [hv] at e9
    obtain ⟨b', eb, h1⟩ := w_b1E h1
    have K := mk S9 e9
    have hb := (hm S9 b' K.1 K.2.2 K.2.1 eb).2 m2
    rw [if_pos hb] at h1
    obtain ⟨a', t', e', h1⟩ := w_b2E h1
    obtain ⟨_, h1⟩ := w_chkE h1
    have w := c_refuse e'
    cases h1
    have g5 : gi S9 177 5 = gi S1 177 5 := by rw [e9, gi_off (by omega)]
    refine ⟨w.1, m3, ?_, fun r k a => ?_, fun r k a => ?_⟩
    · rw [w.2, m4]; exact FE_flt (g5.trans k1)
    · rw [w.2, cf _ _ r k (by omega), e9, gi_off (by omega)]; exact f1.1 r k (by omega)
    · rw [m4]; exact wf 2 r k a
  · right
    have yy := nt.2 m1
    rw [if_pos yy.1] at h1
    obtain ⟨_, h1⟩ := w_chkE h1
    rw [if_pos yy.2] at h1
    obtain ⟨v, ev, h1⟩ := w_b1E h1
    have hv := nv m1 v ev
    obtain ⟨S9, e9, h1⟩ := w_b1E h1
    unfold f_Mark_setNumber at e9
    rw [if_neg (by omega), if_neg (by omega)] at e9
    obtain ⟨_, e9⟩ := w_chkE e9
    unfold w_lt at e9
    have e9 := (Option.some.inj e9).symm
    rw [hv] at e9
    obtain ⟨b', eb, h1⟩ := w_b1E h1
    have K := mk S9 e9
    have hb : ¬ b' = 0 := fun q => (hm S9 b' K.1 K.2.2 K.2.1 eb).1 q m2
    rw [if_neg hb] at h1
    obtain ⟨_, h1⟩ := w_chkE h1
    obtain ⟨ah, fs⟩ := TKR_scan (by rw [← hB.1]; exact hB.2.2.1) tk m5
    have g4 : gi S9 177 4 = gi S1 177 4 := by rw [e9, gi_off (by omega)]
    refine ⟨S9, m4, m2, h1, K.1, ?_, K.2.1, K.2.2, fs⟩
    unfold AH at ah ⊢
    rw [g4]; exact ah
theorem w_ltX {α β : Type} {x : α} {k : α → Option β} {r : β} (h : w_lt x k = some r) : k x = some r := h
/-- longs and references stay -/
theorem lq_lt {β : Type} {P : β → Prop} {S0 S : SS} {r k : Nat} {v : Int} {kf : SS → Option β} (h : S.2 = S0.2) (hk : ∀ S', S'.2 = S0.2 → pc (kf S') P) : pc (w_lt (si S r k v) kf) P := hk _ h
theorem lq_skip (S0 : SS) : ∀ (n : Nat) (S : SS) (i : Int), S.2 = S0.2 → pc (f_MarkReader_skipBlanks_5 n S i) (fun S1 => S1.2 = S0.2) := by
  intro n
  induction n with
  | zero => intro S i _ r e; exact absurd e (by simp [f_MarkReader_skipBlanks_5])
  | succ n ih =>
    intro S i h
    show pc (f_MarkReader_skipBlanks_5_b (f_MarkReader_skipBlanks_5 n) S i) _
    unfold f_MarkReader_skipBlanks_5_b
    exact pc_chk (fun _ => pc_if (fun _ => pc_some h) (fun _ => pc_chk (fun _ => pf_b1 (fun _ => pc_if (fun _ => pc_some h) (fun _ => pc_chk (fun _ => lq_lt h (fun S6 h6 => pc_chk (fun _ => ih S6 _ h6))))))))
theorem lq_run (S0 : SS) : ∀ (n : Nat) (S : SS) (i : Int), S.2 = S0.2 → pc (f_MarkReader_readToken_67 n S i) (fun S1 => S1.2 = S0.2) := by
  intro n
  induction n with
  | zero => intro S i _ r e; exact absurd e (by simp [f_MarkReader_readToken_67])
  | succ n ih =>
    intro S i h
    show pc (f_MarkReader_readToken_67_b (f_MarkReader_readToken_67 n) S i) _
    unfold f_MarkReader_readToken_67_b
    exact pc_chk (fun _ => pc_if (fun _ => pc_some h) (fun _ => pc_chk (fun _ => pf_b1 (fun _ => pc_if (fun _ => pc_chk (fun _ => lq_lt h (fun S6 h6 => pc_chk (fun _ => ih S6 _ h6)))) (fun _ => pc_some h)))))
theorem lq_token (S : SS) : pc (f_MarkReader_readToken S) (fun S1 => S1.2 = S.2) := by
  have E : ∀ S', S'.2 = S.2 → pc (f_MarkReader_readToken_54 S') (fun S1 => S1.2 = S.2) := fun S' h => by
    unfold f_MarkReader_readToken_54
    exact pc_if (fun _ => pc_some h) (fun _ => lq_run S FU S' _ h)
  unfold f_MarkReader_readToken f_MarkReader_skipBlanks
  exact pc_b1 (lq_skip S FU S _ rfl) (fun S1 h1 => lq_lt h1 (fun S4 h4 => pc_chk (fun _ => pf_b1 (fun _ => lq_lt h4 (fun S9 h9 => pc_chk (fun _ => pc_if (fun _ => E S9 h9) (fun _ => pc_chk (fun _ => lq_lt h9 (fun S14 h14 => E S14 h14)))))))))
theorem lq_81 (S0 : SS) : ∀ (n : Nat) (S : SS), S.2 = S0.2 → pc (f_M_scan_81 n S) (fun S1 => S1.2 = S0.2) := by
  intro n
  induction n with
  | zero => intro S _ r e; exact absurd e (by simp [f_M_scan_81])
  | succ n ih =>
    intro S h
    show pc (f_M_scan_81_b (f_M_scan_81 n) S) _
    unfold f_M_scan_81_b
    exact pf_b1 (fun _ => pc_if (fun _ => lq_lt h (fun S5 h5 => pc_some h5)) (fun _ => pc_chk (fun _ => lq_lt h (fun S8 h8 => ih S8 h8))))
theorem lq_128 (S0 : SS) : ∀ (n : Nat) (S : SS), S.2 = S0.2 → pc (f_M_scan_128 n S) (fun S1 => S1.2 = S0.2) := by
  intro n
  induction n with
  | zero => intro S _ r e; exact absurd e (by simp [f_M_scan_128])
  | succ n ih =>
    intro S h
    show pc (f_M_scan_128_b (f_M_scan_128 n) S) _
    unfold f_M_scan_128_b f_M_scan_178 f_M_scan_210
    repeat' first | with_reducible exact ih _ (by assumption) | with_reducible exact pc_some (by assumption) | with_reducible refine pc_chk (fun _ => ?_) | with_reducible refine pc_if (fun _ => ?_) (fun _ => ?_) | with_reducible refine lq_lt (by assumption) (fun _ _ => ?_) | with_reducible refine pf_b1 (fun _ => ?_)
theorem lq_38 (S0 S : SS) (h : S.2 = S0.2) : pc (f_M_scan_38 S) (fun S1 => S1.2 = S0.2) := by
  unfold f_M_scan_38 f_M_scan_235 f_M_scan_240
  repeat' first | with_reducible exact lq_81 S0 _ _ (by assumption) | with_reducible exact lq_128 S0 _ _ (by assumption) | with_reducible exact pc_some (by assumption) | with_reducible refine pc_chk (fun _ => ?_) | with_reducible refine pc_if (fun _ => ?_) (fun _ => ?_) | with_reducible refine lq_lt (by assumption) (fun _ _ => ?_) | with_reducible refine pf_b1 (fun _ => ?_)
theorem lq_scan0 (S0 : SS) : ∀ (n : Nat) (S : SS), S.2 = S0.2 → pc (f_M_scan_0 n S) (fun S1 => S1.2 = S0.2) := by
  intro n
  induction n with
  | zero => intro S _ r e; exact absurd e (by simp [f_M_scan_0])
  | succ n ih =>
    intro S h
    show pc (f_M_scan_0_b (f_M_scan_0 n) S) _
    unfold f_M_scan_0_b
    exact pc_if (fun _ => lq_38 S0 S h) (fun _ => pf_b1 (fun _ => pc_if (fun _ => lq_38 S0 S h) (fun _ => pc_chk (fun _ => lq_lt h (fun S8 h8 => ih S8 h8)))))
theorem lq_scan (T : SS) : pc (f_M_scan T) (fun T1 => T1.2 = T.2) := lq_scan0 T FU T rfl
theorem gl_2 {S S1 : SS} (h : S1.2 = S.2) (r k : Nat) : gl S1 r k = gl S r k := by unfold gl; rw [h]
theorem c_num {S : SS} {j : Nat} {i : Int} (h : 0 ≤ i ∧ i < 3) : f_Mark_number S j i = some (gi S (14 + 4 * j + 1) i.toNat) := by
  unfold f_Mark_number
  rw [if_neg (by omega), if_pos (by omega), w_chkP (by omega)]
/-- mayBegin, by kind: strike and change -/
theorem mb_sc {S : SS} {j : Nat} {i b : Int} (hk : gi S (14 + 4 * j) 2 = 0 ∨ gi S (14 + 4 * j) 2 = 2) (e : f_MarkReader_mayBegin S j i = some b) : (i = 0 → (b = 0 ↔ gi S 177 3 ≤ gi S (14 + 4 * j + 1) 0)) ∧ (i ≠ 0 → (b = 0 ↔ (gi S (14 + 4 * j + 1) 1 < gi S (14 + 4 * j + 1) 0 ∨ gi S 177 3 ≤ gi S (14 + 4 * j + 1) 1))) := by
  unfold f_MarkReader_mayBegin at e
  rw [w_b1_is (c_num (by omega)), w_b1_is (c_num (by omega)), w_b1_is (c_num (by omega))] at e
  have t0 : (0 : Int).toNat = 0 := rfl
  have t1 : (1 : Int).toNat = 1 := rfl
  rw [t0, t1] at e
  have main : (if i = 0 then (if gi S 177 3 ≤ gi S (14 + 4 * j + 1) 0 then some (0 : Int) else some 1) else (if gi S (14 + 4 * j + 1) 1 < gi S (14 + 4 * j + 1) 0 then some 0 else (if gi S 177 3 ≤ gi S (14 + 4 * j + 1) 1 then some 0 else some 1))) = some b := by
    rcases hk with q | q
    · rw [if_pos q] at e; exact e
    · rw [if_neg (by omega), if_neg (by omega), if_pos q] at e; exact e
  clear e
  refine ⟨fun c => ?_, fun c => ?_⟩
  · rw [if_pos c] at main
    split at main <;> (have := Option.some.inj main; omega)
  · rw [if_neg c] at main
    repeat' split at main
    all_goals (have := Option.some.inj main; omega)
theorem mb_put {S : SS} {j : Nat} {i b : Int} (hk : gi S (14 + 4 * j) 2 = 1) (e : f_MarkReader_mayBegin S j i = some b) : b = 0 ↔ gi S 177 3 < gi S (14 + 4 * j + 1) 0 := by
  unfold f_MarkReader_mayBegin at e
  rw [w_b1_is (c_num (by omega)), w_b1_is (c_num (by omega)), w_b1_is (c_num (by omega)), if_neg (by omega), if_pos hk] at e
  have t0 : (0 : Int).toNat = 0 := rfl
  rw [t0] at e
  split at e <;> (have := Option.some.inj e; omega)
theorem mb_turn {S : SS} {j : Nat} {i b : Int} (hk : gi S (14 + 4 * j) 2 = 3) (e : f_MarkReader_mayBegin S j i = some b) : (i = 0 → (b = 0 ↔ gi S 177 3 ≤ gi S (14 + 4 * j + 1) 0 + 1)) ∧ (i = 1 → (b = 0 ↔ (gi S (14 + 4 * j + 1) 1 ≤ gi S (14 + 4 * j + 1) 0 ∨ gi S 177 3 ≤ gi S (14 + 4 * j + 1) 1))) ∧ (i = 2 → (b = 0 ↔ (gi S (14 + 4 * j + 1) 2 < gi S (14 + 4 * j + 1) 1 ∨ gi S 177 3 ≤ gi S (14 + 4 * j + 1) 2))) := by
  unfold f_MarkReader_mayBegin at e
  rw [w_b1_is (c_num (by omega)), w_b1_is (c_num (by omega)), w_b1_is (c_num (by omega)), if_neg (by omega), if_neg (by omega), if_neg (by omega), if_pos hk] at e
  have t0 : (0 : Int).toNat = 0 := rfl
  have t1 : (1 : Int).toNat = 1 := rfl
  have t2 : (2 : Int).toNat = 2 := rfl
  rw [t0, t1, t2] at e
  refine ⟨fun c => ?_, fun c => ?_, fun c => ?_⟩
  · rw [if_pos c] at e
    obtain ⟨_, e⟩ := w_chkE e
    split at e <;> (have := Option.some.inj e; omega)
  · rw [if_neg (by omega), if_pos c] at e
    repeat' split at e
    all_goals (have := Option.some.inj e; omega)
  · rw [if_neg (by omega), if_neg (by omega)] at e
    repeat' split at e
    all_goals (have := Option.some.inj e; omega)
theorem mb_move {S : SS} {j : Nat} {i b : Int} (hk : gi S (14 + 4 * j) 2 = 4) (e : f_MarkReader_mayBegin S j i = some b) : (i = 0 → (b = 0 ↔ (gi S 177 3 ≤ gi S (14 + 4 * j + 1) 0 ∨ (gi S (14 + 4 * j + 1) 0 ≤ 0 ∧ gi S 177 3 ≤ 1)))) ∧ (i = 1 → (b = 0 ↔ (gi S (14 + 4 * j + 1) 1 < gi S (14 + 4 * j + 1) 0 ∨ gi S 177 3 ≤ gi S (14 + 4 * j + 1) 1 ∨ (gi S (14 + 4 * j + 1) 0 ≤ 0 ∧ gi S 177 3 ≤ gi S (14 + 4 * j + 1) 1 + 1)))) ∧ (i = 2 → (b = 0 ↔ (gi S (14 + 4 * j + 1) 0 ≤ gi S (14 + 4 * j + 1) 2 ∧ (gi S (14 + 4 * j + 1) 2 ≤ gi S (14 + 4 * j + 1) 1 + 1 ∨ gi S 177 3 < gi S (14 + 4 * j + 1) 2)))) := by
  unfold f_MarkReader_mayBegin at e
  rw [w_b1_is (c_num (by omega)), w_b1_is (c_num (by omega)), w_b1_is (c_num (by omega)), if_neg (by omega), if_neg (by omega), if_neg (by omega), if_neg (by omega), if_pos hk] at e
  have t0 : (0 : Int).toNat = 0 := rfl
  have t1 : (1 : Int).toNat = 1 := rfl
  have t2 : (2 : Int).toNat = 2 := rfl
  rw [t0, t1, t2] at e
  obtain ⟨x, ex, e⟩ := w_b1E e
  obtain ⟨_, e⟩ := w_chkE e
  have e := Option.some.inj e
  subst e
  unfold f_MarkReader_mayBeginMove at ex
  refine ⟨fun c => ?_, fun c => ?_, fun c => ?_⟩
  · rw [if_pos c] at ex
    repeat' split at ex
    all_goals (have := Option.some.inj ex; omega)
  · rw [if_neg (by omega), if_pos c] at ex
    by_cases d1 : gi S (14 + 4 * j + 1) 1 < gi S (14 + 4 * j + 1) 0
    · rw [if_pos d1] at ex; have := Option.some.inj ex; omega
    rw [if_neg d1] at ex
    by_cases d2 : gi S 177 3 ≤ gi S (14 + 4 * j + 1) 1
    · rw [if_pos d2] at ex; have := Option.some.inj ex; omega
    rw [if_neg d2] at ex
    by_cases d3 : 0 < gi S (14 + 4 * j + 1) 0
    · rw [if_pos d3] at ex; have := Option.some.inj ex; omega
    rw [if_neg d3] at ex
    obtain ⟨_, ex⟩ := w_chkE ex
    split at ex <;> (have := Option.some.inj ex; omega)
  · rw [if_neg (by omega), if_neg (by omega)] at ex
    by_cases d1 : gi S (14 + 4 * j + 1) 2 < gi S (14 + 4 * j + 1) 0
    · rw [if_pos d1] at ex; have := Option.some.inj ex; omega
    rw [if_neg d1] at ex
    obtain ⟨_, ex⟩ := w_chkE ex
    repeat' split at ex
    all_goals (have := Option.some.inj ex; omega)
theorem mb_stet {S : SS} {j : Nat} {i b : Int} (hq : ∀ k, k < 40 → gq S 11 k = some k) (hk : gi S (14 + 4 * j) 2 = 5) (h0 : 0 ≤ gi S (14 + 4 * j + 1) 0) (hm : gi S 10 3 + gi S 10 4 ≤ 40) (e : f_MarkReader_mayBegin S j i = some b) : b = 0 ↔ (gi S 10 3 + gi S 10 4 ≤ gi S (14 + 4 * j + 1) 0 ∨ gi S (14 + 4 * (gi S (14 + 4 * j + 1) 0).toNat) 2 = 5) := by
  unfold f_MarkReader_mayBegin at e
  rw [w_b1_is (c_num (by omega)), w_b1_is (c_num (by omega)), w_b1_is (c_num (by omega)), if_neg (by omega), if_neg (by omega), if_neg (by omega), if_neg (by omega), if_neg (by omega)] at e
  have t0 : (0 : Int).toNat = 0 := rfl
  rw [t0] at e
  obtain ⟨_, e⟩ := w_chkE e
  obtain ⟨x, ex, e⟩ := w_b1E e
  obtain ⟨_, e⟩ := w_chkE e
  have e := Option.some.inj e
  subst e
  unfold f_Pile_canBeStet at ex
  obtain ⟨_, ex⟩ := w_chkE ex
  by_cases c : gi S (14 + 4 * j + 1) 0 < gi S 10 3 + gi S 10 4
  · rw [if_pos c] at ex
    have em : f_Pile_markAt S (gi S (14 + 4 * j + 1) 0) = some (some (gi S (14 + 4 * j + 1) 0).toNat) := by
      unfold f_Pile_markAt
      rw [if_neg (by omega), if_pos (by omega), w_chkP (by omega)]
      show some (gq S 11 _) = _
      rw [hq _ (by omega)]
    rw [w_b1_is em] at ex
    unfold f_Pile_canBeStet_22 at ex
    have ex : w_chk ((gi S (14 + 4 * j + 1) 0).toNat < 40) (if gi S (14 + 4 * (gi S (14 + 4 * j + 1) 0).toNat) 2 = 5 then some 0 else some 1) = some x := ex
    obtain ⟨_, ex⟩ := w_chkE ex
    split at ex <;> (have := Option.some.inj ex; omega)
  · rw [if_neg c] at ex
    unfold f_Pile_canBeStet_22 at ex
    have ex : some (0 : Int) = some x := ex
    have := Option.some.inj ex
    omega
/-- what a line's numbers may change: class, reference -/
abbrev XKC (m : Nat) (r k : Nat) : Prop := r = 3 ∨ (r = 177 ∧ 4 ≤ k) ∨ r = 14 + 4 * m + 1
abbrev XKR (m : Nat) (r k : Nat) : Prop := (r = 192 ∧ 10 ≤ k ∧ k ≤ 15) ∨ (201 ≤ r ∧ r ≤ 203 ∧ k = m)
/-- the numbers of line m: both fault alike, or both have them -/
def NQ (S T : SS) (b m : Nat) (r : Int) (S' : SS) (o : Option Unit) (T1 : SS) (g : SS → Option (Option Unit × SS)) : Prop :=
  (r = 0 ∧ o = none ∧ FE S' T1 ∧ fr (XKC m) S S' ∧ fr (XKR m) T T1 ∧ T1.2 = T.2) ∨
  (∃ T', r = 1 ∧ g T' = some (o, T1) ∧ CX b S' ∧ AH S' T' ∧ gi S' (14 + 4 * m + 1) 0 = gi T' 201 m ∧ gi S' (14 + 4 * m + 1) 1 = gi T' 202 m ∧ gi S' (14 + 4 * m + 1) 2 = gi T' 203 m ∧ fr (XKC m) S S' ∧ fr (XKR m) T T' ∧ T'.2 = T.2)
theorem BF_keep {S T S1 T1 : SS} (h : BF S T) (hs : ∀ k, gi S1 1 1 = gi S 1 1 ∧ gi S1 2 k = gi S 2 k) (ht : ∀ k, gi T1 192 9 = gi T 192 9 ∧ gi T1 197 k = gi T 197 k) : BF S1 T1 := by
  refine ⟨by rw [(hs 0).1, (ht 0).1]; exact h.1, by rw [(hs 0).1]; exact h.2.1, by rw [(hs 0).1]; exact h.2.2.1, fun k hk => ?_⟩
  rw [(hs 0).1] at hk
  rw [(hs k).2, (ht k).2]; exact h.2.2.2 k hk
theorem AH_keep {S T T1 : SS} (h : AH S T) (ht : ∀ r k, ¬ (199 ≤ r ∧ r ≤ 208) → gi T1 r k = gi T r k) : AH S T1 := by
  have eb : mby_ T1 = mby_ T := by funext j; unfold mby_; rw [ht 197 _ (by omega)]
  unfold AH at h ⊢
  rw [eb, ht 192 9 (by omega), ht 192 10 (by omega), ht 192 11 (by omega), ht 192 12 (by omega), ht 192 13 (by omega)]
  exact h
theorem rn_end {j n : Nat} {S S' : SS} {told r : Int} (h : f_MarkReader_readNumbers_33 j (n + 1) S told told = some (r, S')) : r = 1 ∧ S' = S := by
  have h : f_MarkReader_readNumbers_33_b j (f_MarkReader_readNumbers_33 j n) S told told = some (r, S') := h
  unfold f_MarkReader_readNumbers_33_b at h
  rw [if_pos (Int.le_refl _)] at h
  cases h
  exact ⟨rfl, rfl⟩
theorem fr_XFX {m : Nat} {i : Int} {S S1 : SS} (h : FX (fun r k => (r = 177 ∧ 4 ≤ k) ∨ (r = 14 + 4 * m + 1 ∧ k = i.toNat)) S S1) : fr (XKC m) S S1 := fun r k a => h.1 r k (by omega)
theorem num6_is : num6 0 = 2 ∧ num6 1 = 1 ∧ num6 2 = 2 ∧ num6 3 = 3 ∧ num6 4 = 3 ∧ num6 5 = 1 := by decide
/-- what the reference does at a number: syntax, range, or on with it -/
def RN (T : SS) (G : Prop) (k : Int → SS → Option (Option Unit × SS)) (o : Option Unit) (T1 : SS) : Prop :=
  (gi T 192 12 ≠ 2 ∧ o = none ∧ T1 = f_M_wrong T 1 (gi T 192 10)) ∨ (gi T 192 12 = 2 ∧ ¬ G ∧ o = none ∧ T1 = f_M_wrong T 2 (gi T 192 10)) ∨ (gi T 192 12 = 2 ∧ G ∧ ∃ T2, f_M_scan T = some T2 ∧ k (gi T 192 13) T2 = some (o, T1))
theorem rn_of {T T1 : SS} {a c : Int} {k : Int → SS → Option (Option Unit × SS)} {o : Option Unit} (h2 : w_b3 (f_M_number T a c) (fun s => some (none, s)) k = some (o, T1)) : RN T (a ≤ gi T 192 13 ∧ gi T 192 13 ≤ c) k o T1 := by
  rcases w_b3E h2 with ⟨v, T2, e2, h2⟩ | ⟨T2, e2, h2⟩
  · rcases mn_is e2 with ⟨_, q, _⟩ | ⟨_, _, q, _⟩ | ⟨q1, q2, q3, q4⟩
    · cases q
    · cases q
    · cases q3
      exact .inr (.inr ⟨q1, q2, T2, q4, h2⟩)
  · cases h2
    rcases mn_is e2 with ⟨q1, _, q3⟩ | ⟨q1, q2, _, q4⟩ | ⟨_, _, q, _⟩
    · exact .inl ⟨q1, rfl, q3⟩
    · exact .inr (.inl ⟨q1, q2, rfl, q4⟩)
    · cases q
/-- one number of both sides, with what comes behind -/
theorem num_g {S T S' T1 : SS} {b m n : Nat} {told i r : Int} {o : Option Unit} {G : Prop} {k : Int → SS → Option (Option Unit × SS)} (hC : CX b S) (hb : 2 ≤ b) (hm : m < 40) (hM : MX 1 T) (hB : BF S T) (hA : AH S T) (hi : 0 ≤ i ∧ i < 3 ∧ i < told)
    (h1 : f_MarkReader_readNumbers_33 m (n + 1) S told i = some (r, S')) (hr : RN T G k o T1)
    (hs : ∀ S9 x, CX b S9 → FX (fun r k => (r = 177 ∧ 4 ≤ k) ∨ (r = 14 + 4 * m + 1 ∧ k = i.toNat)) S S9 → gi S9 (14 + 4 * m + 1) i.toNat = gi T 192 13 → f_MarkReader_mayBegin S9 m i = some x → (x = 0 ↔ ¬ G)) :
    (r = 0 ∧ o = none ∧ FE S' T1 ∧ fr (XKC m) S S' ∧ fr (XKR m) T T1 ∧ T1.2 = T.2) ∨
    ∃ S9 T2, G ∧ k (gi T 192 13) T2 = some (o, T1) ∧ f_MarkReader_readNumbers_33 m n S9 told (i + 1) = some (r, S') ∧ CX b S9 ∧ MX 1 T2 ∧ BF S9 T2 ∧ AH S9 T2 ∧ gi S9 (14 + 4 * m + 1) i.toNat = gi T 192 13 ∧ FX (fun r k => (r = 177 ∧ 4 ≤ k) ∨ (r = 14 + 4 * m + 1 ∧ k = i.toNat)) S S9 ∧ fr XSN T T2 ∧ T2.2 = T.2 := by
  have bv := mx_192_13 hM
  have bad : ∀ (o' : Option Int), (gi T 192 12 ≠ 2 ∧ o' = none ∧ T1 = f_M_wrong T 1 (gi T 192 10)) ∨ (gi T 192 12 = 2 ∧ ¬ G ∧ o' = none ∧ T1 = f_M_wrong T 2 (gi T 192 10)) ∨ (gi T 192 12 = 2 ∧ G ∧ o' = some (gi T 192 13) ∧ f_M_scan T = some T1) → o' = none → o = none → T1.2 = T.2 → (r = 0 ∧ o = none ∧ FE S' T1 ∧ fr (XKC m) S S' ∧ fr (XKR m) T T1 ∧ T1.2 = T.2) := by
    intro o' hr' ho' ho hl
    rcases num_step (n := n) G hC hb hm bv hB hA hi h1 hr' hs with ⟨a1, a2, a3, a4, a5⟩ | ⟨S9, q1, _⟩
    · exact ⟨a1, ho, a3, fun r k a => a4 r k (by omega), fun r k a => a5 r k (by omega), hl⟩
    · rw [ho'] at q1; cases q1
  rcases hr with q | q | ⟨m1, m2, T2, m3, m4⟩
  · exact .inl (bad none (.inl ⟨q.1, rfl, q.2.2⟩) rfl q.2.1 (by rw [q.2.2]; rfl))
  · exact .inl (bad none (.inr (.inl ⟨q.1, q.2.1, rfl, q.2.2.2⟩)) rfl q.2.2.1 (by rw [q.2.2.2]; rfl))
  · rcases num_step (n := n) (o := some (gi T 192 13)) (T1 := T2) G hC hb hm bv hB hA hi h1 (.inr (.inr ⟨m1, m2, rfl, m3⟩)) hs with ⟨_, q, _⟩ | ⟨S9, q1, q2, q3, q4, q5, q6, q7, q8⟩
    · cases q
    · exact .inr ⟨S9, T2, m2, m4, q3, q4, (ok_true (ok_M_scan T hM) _ m3).1, BF_keep hB (fun k => ⟨q7.1 1 1 (by omega), q7.1 2 k (by omega)⟩) (fun k => ⟨q8 192 9 (by omega), q8 197 k (by omega)⟩), q5, q6, q7, q8, lq_scan T T2 m3⟩
theorem put_num {S T : SS} {x m : Nat} {v : Int} (hx : 201 ≤ x ∧ x ≤ 203) (hv : -1 ≤ v ∧ v ≤ 60) (hM : MX 1 T) (hB : BF S T) (hA : AH S T) : MX 1 (si T x m v) ∧ BF S (si T x m v) ∧ AH S (si T x m v) := by
  refine ⟨?_, BF_keep hB (fun k => ⟨rfl, rfl⟩) (fun k => ⟨gi_off (by omega), gi_off (by omega)⟩), AH_keep hA (fun r k a => gi_off (by omega))⟩
  have : x = 201 ∨ x = 202 ∨ x = 203 := by omega
  rcases this with e | e | e <;> subst e <;> exact hM.set hv.1 hv.2 (.inr (.inl (by decide)))
theorem fr_num {m x : Nat} {T T2 : SS} {v : Int} (hx : 201 ≤ x ∧ x ≤ 203) (h : fr XSN T T2) : fr (XKR m) T (si T2 x m v) := fun r k a => by rw [gi_off (by omega)]; exact h r k (by omega)
/-- put: one number -/
theorem nq_put {S T S' T1 : SS} {b m : Nat} {r : Int} {o : Option Unit} (hC : CX b S) (hb : 2 ≤ b) (hm : m < 40) (hM : MX 1 T) (hB : BF S T) (hA : AH S T) (hF : gi S 177 3 = gi T 192 3) (hk : gi S (14 + 4 * m) 2 = 1) (hn1 : gi S (14 + 4 * m + 1) 1 = gi T 202 m) (hn2 : gi S (14 + 4 * m + 1) 2 = gi T 203 m) (g : SS → Option (Option Unit × SS))
    (h1 : f_MarkReader_readNumbers_33 m FU S 1 0 = some (r, S')) (h2 : w_b3 (f_M_number T 0 (gi T 192 3)) (fun S22_z => some (none, S22_z)) (fun r20_z S21_z => w_chk (0 ≤ (m : Int) ∧ (m : Int) < 41) (w_lt (si S21_z 201 m r20_z) (fun S24_z => g S24_z))) = some (o, T1)) : NQ S T b m r S' o T1 g := by
  have bv := mx_192_13 hM
  have b3 := mx_192_3 hM
  have t0 : (0 : Int).toNat = 0 := rfl
  rcases num_g (n := 3999) hC hb hm hM hB hA (by omega) h1 (rn_of h2) (fun S9 x _ f9 v9 ex => by
    have w := mb_put (by rw [f9.1 (14 + 4 * m) 2 (by omega)]; exact hk) ex
    rw [t0] at v9
    rw [w, f9.1 177 3 (by omega), hF, v9]; omega) with q | ⟨S9, T2, q2, h2, q3, q4, qM, qB, q5, q6, q7, q8, q9⟩
  · exact .inl q
  rw [t0] at q6 q7
  obtain ⟨_, h2⟩ := w_chkE h2
  have q3 : f_MarkReader_readNumbers_33 m (3998 + 1) S9 1 1 = some (r, S') := q3
  obtain ⟨hr, hS⟩ := rn_end q3
  subst hS
  obtain ⟨M7, B7, A7⟩ := put_num (x := 201) (m := m) (v := gi T 192 13) (by omega) (by omega) qM qB q5
  refine .inr ⟨_, hr, h2, q4, A7, ?_, ?_, ?_, (fun r k a => q7.1 r k (by omega)), fr_num (by omega) q8, q9⟩
  · rw [q6, gi_at]
  · rw [q7.1 _ 1 (by omega), hn1, gi_off (by omega), q8 202 m (by omega)]
  · rw [q7.1 _ 2 (by omega), hn2, gi_off (by omega), q8 203 m (by omega)]
/-- strike, change: two numbers -/
theorem nq_two {S T S' T1 : SS} {b m : Nat} {r : Int} {o : Option Unit} (hC : CX b S) (hb : 2 ≤ b) (hm : m < 40) (hM : MX 1 T) (hB : BF S T) (hA : AH S T) (hF : gi S 177 3 = gi T 192 3) (hk : gi S (14 + 4 * m) 2 = 0 ∨ gi S (14 + 4 * m) 2 = 2) (hn2 : gi S (14 + 4 * m + 1) 2 = gi T 203 m) (g : SS → Option (Option Unit × SS))
    (h1 : f_MarkReader_readNumbers_33 m FU S 2 0 = some (r, S')) (h2 : w_b3 (f_M_number T 0 (gi T 192 3 - 1)) (fun S9_z => some (none, S9_z)) (fun r7_z S8_z => w_chk (0 ≤ (m : Int) ∧ (m : Int) < 41) (w_lt (si S8_z 201 m r7_z) (fun S11_z => w_chk (0 ≤ (m : Int) ∧ (m : Int) < 41) (w_b3 (f_M_number S11_z (gi S11_z 201 m) (gi T 192 3 - 1)) (fun S15_z => some (none, S15_z)) (fun r13_z S14_z => w_chk (0 ≤ (m : Int) ∧ (m : Int) < 41) (w_lt (si S14_z 202 m r13_z) (fun S17_z => g S17_z))))))) = some (o, T1)) : NQ S T b m r S' o T1 g := by
  have bv := mx_192_13 hM
  have b3 := mx_192_3 hM
  have t0 : (0 : Int).toNat = 0 := rfl
  rcases num_g (n := 3999) hC hb hm hM hB hA (by omega) h1 (rn_of h2) (fun S9 x _ f9 v9 ex => by
    have w := (mb_sc (by rw [f9.1 (14 + 4 * m) 2 (by omega)]; exact hk) ex).1 rfl
    rw [t0] at v9
    rw [w, f9.1 177 3 (by omega), hF, v9]; omega) with q | ⟨S9, T2, q2, h2, q3, q4, qM, qB, q5, q6, q7, q8, q9⟩
  · exact .inl q
  rw [t0] at q6 q7
  obtain ⟨_, h2⟩ := w_chkE h2
  unfold w_lt at h2
  obtain ⟨_, h2⟩ := w_chkE h2
  rw [gi_at] at h2
  obtain ⟨M3, B3, A3⟩ := put_num (x := 201) (m := m) (v := gi T 192 13) (by omega) (by omega) qM qB q5
  have f3 := fr_num (m := m) (x := 201) (v := gi T 192 13) (by omega) q8
  have n3 : gi (si T2 201 m (gi T 192 13)) 201 m = gi T 192 13 := gi_at _ _ _ _
  have l3 : (si T2 201 m (gi T 192 13)).2 = T.2 := q9
  have n33 : gi (si T2 201 m (gi T 192 13)) 203 m = gi T 203 m := by rw [gi_off (by omega)]; exact q8 203 m (by omega)
  generalize si T2 201 m (gi T 192 13) = T3 at h2 M3 B3 A3 f3 n3 l3 n33
  have bv3 := mx_192_13 M3
  rcases num_g (n := 3998) q4 hb hm M3 B3 A3 (by omega) q3 (rn_of h2) (fun Sx x _ fx vx ex => by
    have w := (mb_sc (by rw [fx.1 (14 + 4 * m) 2 (by omega), q7.1 (14 + 4 * m) 2 (by omega)]; exact hk) ex).2 (by decide)
    rw [show ((0 : Int) + 1).toNat = 1 from rfl] at vx fx
    have v0 : gi Sx (14 + 4 * m + 1) 0 = gi T 192 13 := by rw [fx.1 _ 0 (by omega)]; exact q6
    rw [w, fx.1 177 3 (by omega), q7.1 177 3 (by omega), hF, vx, v0]; omega) with q | ⟨Sa, T4, p2, h2, p3, p4, pM, pB, p5, p6, p7, p8, p9⟩
  · obtain ⟨a1, a2, a3, a4, a5, a6⟩ := q
    exact .inl ⟨a1, a2, a3, fr_trans (fun r k a => q7.1 r k (by omega)) a4, fr_trans f3 a5, a6.trans l3⟩
  rw [show ((0 : Int) + 1).toNat = 1 from rfl] at p6 p7
  obtain ⟨_, h2⟩ := w_chkE h2
  have p3 : f_MarkReader_readNumbers_33 m (3997 + 1) Sa 2 2 = some (r, S') := p3
  obtain ⟨hr, hS⟩ := rn_end p3
  subst hS
  obtain ⟨M7, B7, A7⟩ := put_num (x := 202) (m := m) (v := gi T3 192 13) (by omega) (by omega) pM pB p5
  refine .inr ⟨_, hr, h2, p4, A7, ?_, ?_, ?_, fr_trans (fun r k a => q7.1 r k (by omega)) (fun r k a => p7.1 r k (by omega)), fr_trans f3 (fr_num (by omega) p8), p9.trans l3⟩
  · rw [p7.1 _ 0 (by omega), q6, gi_off (by omega), p8 201 m (by omega)]; exact n3.symm
  · rw [p6, gi_at]
  · rw [p7.1 _ 2 (by omega), q7.1 _ 2 (by omega), hn2, gi_off (by omega), p8 203 m (by omega)]; exact n33.symm
/-- turn: three numbers -/
theorem nq_turn {S T S' T1 : SS} {b m : Nat} {r : Int} {o : Option Unit} (hC : CX b S) (hb : 2 ≤ b) (hm : m < 40) (hM : MX 1 T) (hB : BF S T) (hA : AH S T) (hF : gi S 177 3 = gi T 192 3) (hk : gi S (14 + 4 * m) 2 = 3) (g : SS → Option (Option Unit × SS))
    (h1 : f_MarkReader_readNumbers_33 m FU S 3 0 = some (r, S')) (h2 : w_b3 (f_M_number T 0 (gi T 192 3 - 1 - 1)) (fun s => some (none, s)) (fun r39 S40 => w_chk (0 ≤ (m : Int) ∧ (m : Int) < 41) (w_lt (si S40 201 m r39) (fun S43 => w_chk (0 ≤ (m : Int) ∧ (m : Int) < 41) (w_chk (i32 (gi S43 201 m + 1)) (w_b3 (f_M_number S43 (gi S43 201 m + 1) (gi T 192 3 - 1)) (fun s => some (none, s)) (fun r46 S47 => w_chk (0 ≤ (m : Int) ∧ (m : Int) < 41) (w_lt (si S47 202 m r46) (fun S50 => w_chk (0 ≤ (m : Int) ∧ (m : Int) < 41) (w_b3 (f_M_number S50 (gi S50 202 m) (gi T 192 3 - 1)) (fun s => some (none, s)) (fun r52 S53 => w_chk (0 ≤ (m : Int) ∧ (m : Int) < 41) (w_lt (si S53 203 m r52) (fun S56 => g S56)))))))))))) = some (o, T1)) : NQ S T b m r S' o T1 g := by
  have bv := mx_192_13 hM
  have b3 := mx_192_3 hM
  have t0 : (0 : Int).toNat = 0 := rfl
  have t1 : (1 : Int).toNat = 1 := rfl
  have t2 : (2 : Int).toNat = 2 := rfl
  rcases num_g (n := 3999) hC hb hm hM hB hA (by omega) h1 (rn_of h2) (fun S9 x _ f9 v9 ex => by
    have w := (mb_turn (by rw [f9.1 (14 + 4 * m) 2 (by omega)]; exact hk) ex).1 rfl
    rw [t0] at v9
    rw [w, f9.1 177 3 (by omega), hF, v9]; omega) with q | ⟨S9, T2, q2, h2, q3, q4, qM, qB, q5, q6, q7, q8, q9⟩
  · exact .inl q
  rw [t0] at q6 q7
  obtain ⟨_, h2⟩ := w_chkE h2
  unfold w_lt at h2
  obtain ⟨_, h2⟩ := w_chkE h2
  obtain ⟨_, h2⟩ := w_chkE h2
  rw [gi_at] at h2
  obtain ⟨M3, B3, A3⟩ := put_num (x := 201) (m := m) (v := gi T 192 13) (by omega) (by omega) qM qB q5
  have f3 := fr_num (m := m) (x := 201) (v := gi T 192 13) (by omega) q8
  have n3 : gi (si T2 201 m (gi T 192 13)) 201 m = gi T 192 13 := gi_at _ _ _ _
  have e3 : gi (si T2 201 m (gi T 192 13)) 192 3 = gi T 192 3 := f3 192 3 (by omega)
  have l3 : (si T2 201 m (gi T 192 13)).2 = T.2 := q9
  generalize si T2 201 m (gi T 192 13) = T3 at h2 M3 B3 A3 f3 n3 e3 l3
  have bv3 := mx_192_13 M3
  rcases num_g (n := 3998) q4 hb hm M3 B3 A3 (by omega) q3 (rn_of h2) (fun Sx x _ fx vx ex => by
    have w := (mb_turn (by rw [fx.1 (14 + 4 * m) 2 (by omega), q7.1 (14 + 4 * m) 2 (by omega)]; exact hk) ex).2.1 rfl
    rw [show ((0 : Int) + 1).toNat = 1 from rfl] at vx fx
    have v0 : gi Sx (14 + 4 * m + 1) 0 = gi T 192 13 := by rw [fx.1 _ 0 (by omega)]; exact q6
    rw [w, fx.1 177 3 (by omega), q7.1 177 3 (by omega), hF, vx, v0]; omega) with q | ⟨Sa, T4, p2, h2, p3, p4, pM, pB, p5, p6, p7, p8, p9⟩
  · obtain ⟨a1, a2, a3, a4, a5, a6⟩ := q
    exact .inl ⟨a1, a2, a3, fr_trans (fun r k a => q7.1 r k (by omega)) a4, fr_trans f3 a5, a6.trans l3⟩
  rw [show ((0 : Int) + 1).toNat = 1 from rfl] at p6 p7
  obtain ⟨_, h2⟩ := w_chkE h2
  obtain ⟨_, h2⟩ := w_chkE h2
  rw [gi_at] at h2
  obtain ⟨M5, B5, A5⟩ := put_num (x := 202) (m := m) (v := gi T3 192 13) (by omega) (by omega) pM pB p5
  have f5 := fr_num (m := m) (x := 202) (v := gi T3 192 13) (by omega) p8
  have n5 : gi (si T4 202 m (gi T3 192 13)) 202 m = gi T3 192 13 := gi_at _ _ _ _
  have n51 : gi (si T4 202 m (gi T3 192 13)) 201 m = gi T 192 13 := by rw [gi_off (by omega), p8 201 m (by omega)]; exact n3
  have l5 : (si T4 202 m (gi T3 192 13)).2 = T3.2 := p9
  generalize si T4 202 m (gi T3 192 13) = T5 at h2 M5 B5 A5 f5 n5 n51 l5
  have bv5 := mx_192_13 M5
  rcases num_g (n := 3997) p4 hb hm M5 B5 A5 (by omega) p3 (rn_of h2) (fun Sx x _ fx vx ex => by
    have w := (mb_turn (by rw [fx.1 (14 + 4 * m) 2 (by omega), p7.1 (14 + 4 * m) 2 (by omega), q7.1 (14 + 4 * m) 2 (by omega)]; exact hk) ex).2.2 rfl
    rw [show ((0 : Int) + 1 + 1).toNat = 2 from rfl] at vx fx
    have v1 : gi Sx (14 + 4 * m + 1) 1 = gi T3 192 13 := by rw [fx.1 _ 1 (by omega)]; exact p6
    rw [w, fx.1 177 3 (by omega), p7.1 177 3 (by omega), q7.1 177 3 (by omega), hF, vx, v1]; omega) with q | ⟨Sb, T6, u2, h2, u3, u4, uM, uB, u5, u6, u7, u8, u9⟩
  · obtain ⟨a1, a2, a3, a4, a5, a6⟩ := q
    exact .inl ⟨a1, a2, a3, fr_trans (fun r k a => q7.1 r k (by omega)) (fr_trans (fun r k a => p7.1 r k (by omega)) a4), fr_trans f3 (fr_trans f5 a5), a6.trans (l5.trans l3)⟩
  rw [show ((0 : Int) + 1 + 1).toNat = 2 from rfl] at u6 u7
  obtain ⟨_, h2⟩ := w_chkE h2
  have u3 : f_MarkReader_readNumbers_33 m (3996 + 1) Sb 3 3 = some (r, S') := u3
  obtain ⟨hr, hS⟩ := rn_end u3
  subst hS
  obtain ⟨M7, B7, A7⟩ := put_num (x := 203) (m := m) (v := gi T5 192 13) (by omega) (by omega) uM uB u5
  refine .inr ⟨_, hr, h2, u4, A7, ?_, ?_, ?_, fr_trans (fun r k a => q7.1 r k (by omega)) (fr_trans (fun r k a => p7.1 r k (by omega)) (fun r k a => u7.1 r k (by omega))), fr_trans f3 (fr_trans f5 (fr_num (by omega) u8)), u9.trans (l5.trans l3)⟩
  · rw [u7.1 _ 0 (by omega), p7.1 _ 0 (by omega), q6, gi_off (by omega), u8 201 m (by omega)]; exact n51.symm
  · rw [u7.1 _ 1 (by omega), p6, gi_off (by omega), u8 202 m (by omega)]; exact n5.symm
  · rw [u6, gi_at]
/-- move: three numbers -/
theorem nq_move0 {S T S' T1 : SS} {b m : Nat} {r : Int} {o : Option Unit} (hC : CX b S) (hb : 2 ≤ b) (hm : m < 40) (hM : MX 1 T) (hB : BF S T) (hA : AH S T) (hF : gi S 177 3 = gi T 192 3) (hk : gi S (14 + 4 * m) 2 = 4)
    (h1 : f_MarkReader_readNumbers_33 m FU S 3 0 = some (r, S')) (h2 : f_M_readMove T (m : Int) = some (o, T1)) : NQ S T b m r S' o T1 (fun s => some (some (), s)) := by
  have bv := mx_192_13 hM
  have b3 := mx_192_3 hM
  have t0 : (0 : Int).toNat = 0 := rfl
  have tm : ((m : Int)).toNat = m := Int.toNat_natCast m
  unfold f_M_readMove at h2
  obtain ⟨_, h2⟩ := w_chkE h2
  obtain ⟨lo, hlo, h2⟩ : ∃ lo : Int, ((gi T 192 3 ≤ 1 ∧ lo = 1) ∨ (2 ≤ gi T 192 3 ∧ lo = 0)) ∧ f_M_readMove_23 (m : Int) T (gi T 192 3 - 1) lo (m : Int) = some (o, T1) := by
    by_cases c : 1 ≤ gi T 192 3 - 1
    · rw [if_pos c] at h2; exact ⟨0, by omega, h2⟩
    · rw [if_neg c] at h2; exact ⟨1, by omega, h2⟩
  unfold f_M_readMove_23 at h2
  rw [tm] at h2
  rcases num_g (n := 3999) hC hb hm hM hB hA (by omega) h1 (rn_of h2) (fun S9 x _ f9 v9 ex => by
    have w := (mb_move (by rw [f9.1 (14 + 4 * m) 2 (by omega)]; exact hk) ex).1 rfl
    rw [t0] at v9
    rw [w, f9.1 177 3 (by omega), hF, v9]; omega) with q | ⟨S9, T2, q2, h2, q3, q4, qM, qB, q5, q6, q7, q8, q9⟩
  · exact .inl q
  rw [t0] at q6 q7
  obtain ⟨_, h2⟩ := w_chkE h2
  unfold w_lt at h2
  obtain ⟨_, h2⟩ := w_chkE h2
  obtain ⟨_, h2⟩ := w_chkE h2
  rw [gi_at] at h2
  obtain ⟨M3, B3, A3⟩ := put_num (x := 201) (m := m) (v := gi T 192 13) (by omega) (by omega) qM qB q5
  have f3 := fr_num (m := m) (x := 201) (v := gi T 192 13) (by omega) q8
  have n3 : gi (si T2 201 m (gi T 192 13)) 201 m = gi T 192 13 := gi_at _ _ _ _
  have l3 : (si T2 201 m (gi T 192 13)).2 = T.2 := q9
  generalize si T2 201 m (gi T 192 13) = T3 at h2 M3 B3 A3 f3 n3 l3
  have bv3 := mx_192_13 M3
  obtain ⟨hi, hhi, h2⟩ : ∃ hi : Int, ((gi T 192 13 = 0 ∧ hi = gi T 192 3 - 1 - 1) ∨ (gi T 192 13 ≠ 0 ∧ hi = gi T 192 3 - 1)) ∧ f_M_readMove_56 (m : Int) T3 hi (gi T 192 13) (m : Int) = some (o, T1) := by
    by_cases c : gi T 192 13 = 0
    · rw [if_pos c] at h2
      obtain ⟨_, h2⟩ := w_chkE h2
      exact ⟨_, .inl ⟨c, rfl⟩, h2⟩
    · rw [if_neg c] at h2; exact ⟨_, .inr ⟨c, rfl⟩, h2⟩
  unfold f_M_readMove_56 at h2
  rw [tm] at h2
  rcases num_g (n := 3998) q4 hb hm M3 B3 A3 (by omega) q3 (rn_of h2) (fun Sx x _ fx vx ex => by
    have w := (mb_move (by rw [fx.1 (14 + 4 * m) 2 (by omega), q7.1 (14 + 4 * m) 2 (by omega)]; exact hk) ex).2.1 rfl
    rw [show ((0 : Int) + 1).toNat = 1 from rfl] at vx fx
    have v0 : gi Sx (14 + 4 * m + 1) 0 = gi T 192 13 := by rw [fx.1 _ 0 (by omega)]; exact q6
    rw [w, fx.1 177 3 (by omega), q7.1 177 3 (by omega), hF, vx, v0]; omega) with q | ⟨Sa, T4, p2, h2, p3, p4, pM, pB, p5, p6, p7, p8, p9⟩
  · obtain ⟨a1, a2, a3, a4, a5, a6⟩ := q
    exact .inl ⟨a1, a2, a3, fr_trans (fun r k a => q7.1 r k (by omega)) a4, fr_trans f3 a5, a6.trans l3⟩
  rw [show ((0 : Int) + 1).toNat = 1 from rfl] at p6 p7
  obtain ⟨_, h2⟩ := w_chkE h2
  unfold w_lt at h2
  obtain ⟨M5, B5, A5⟩ := put_num (x := 202) (m := m) (v := gi T3 192 13) (by omega) (by omega) pM pB p5
  have f5 := fr_num (m := m) (x := 202) (v := gi T3 192 13) (by omega) p8
  have n5 : gi (si T4 202 m (gi T3 192 13)) 202 m = gi T3 192 13 := gi_at _ _ _ _
  have n51 : gi (si T4 202 m (gi T3 192 13)) 201 m = gi T 192 13 := by rw [gi_off (by omega), p8 201 m (by omega)]; exact n3
  have l5 : (si T4 202 m (gi T3 192 13)).2 = T3.2 := p9
  generalize si T4 202 m (gi T3 192 13) = T5 at h2 M5 B5 A5 f5 n5 n51 l5
  have bv5 := mx_192_13 M5
  have e53 : gi T5 192 3 = gi T 192 3 := by rw [f5 192 3 (by omega)]; exact f3 192 3 (by omega)
  have hr : RN T5 (¬ (gi T 192 13 ≤ gi T5 192 13 ∧ gi T5 192 13 ≤ gi T3 192 13 + 1) ∧ 0 ≤ gi T5 192 13 ∧ gi T5 192 13 ≤ gi T5 192 3) (fun r2_z S3_z => w_chk (0 ≤ (m : Int) ∧ (m : Int) < 41) (w_lt (si S3_z 203 m r2_z) (fun S6_z => some (some (), S6_z)))) o T1 := by
    have go : f_M_readMove_105 (m : Int) T5 = some (o, T1) → (gi T5 192 12 = 2 → ¬ (gi T 192 13 ≤ gi T5 192 13 ∧ gi T5 192 13 ≤ gi T3 192 13 + 1)) → RN T5 (¬ (gi T 192 13 ≤ gi T5 192 13 ∧ gi T5 192 13 ≤ gi T3 192 13 + 1) ∧ 0 ≤ gi T5 192 13 ∧ gi T5 192 13 ≤ gi T5 192 3) (fun r2_z S3_z => w_chk (0 ≤ (m : Int) ∧ (m : Int) < 41) (w_lt (si S3_z 203 m r2_z) (fun S6_z => some (some (), S6_z)))) o T1 := by
      intro h hn
      unfold f_M_readMove_105 at h
      rw [tm] at h
      rcases rn_of h with q | q | q
      · exact .inl q
      · exact .inr (.inl ⟨q.1, fun w => q.2.1 w.2, q.2.2⟩)
      · exact .inr (.inr ⟨q.1, ⟨hn q.1, q.2.1⟩, q.2.2⟩)
    have i := in01 T5 (gi T5 192 13) (gi T 192 13) (gi T3 192 13 + 1)
    dsimp only at h2
    rw [n51, n5] at h2
    by_cases c : gi T5 192 12 = 2
    · rw [if_pos c] at h2
      obtain ⟨_, h2⟩ := w_chkE h2
      obtain ⟨_, h2⟩ := w_chkE h2
      obtain ⟨_, h2⟩ := w_chkE h2
      by_cases c2 : f_M_in T5 (gi T5 192 13) (gi T 192 13) (gi T3 192 13 + 1) = 0
      · rw [if_pos c2] at h2
        exact go h2 (fun _ => by omega)
      · rw [if_neg c2] at h2
        cases h2
        exact .inr (.inl ⟨c, fun w => by omega, rfl, rfl⟩)
    · rw [if_neg c] at h2
      exact go h2 (fun q => absurd q c)
  rcases num_g (n := 3997) p4 hb hm M5 B5 A5 (by omega) p3 hr (fun Sx x _ fx vx ex => by
    have w := (mb_move (by rw [fx.1 (14 + 4 * m) 2 (by omega), p7.1 (14 + 4 * m) 2 (by omega), q7.1 (14 + 4 * m) 2 (by omega)]; exact hk) ex).2.2 rfl
    rw [show ((0 : Int) + 1 + 1).toNat = 2 from rfl] at vx fx
    have v1 : gi Sx (14 + 4 * m + 1) 1 = gi T3 192 13 := by rw [fx.1 _ 1 (by omega)]; exact p6
    have v0 : gi Sx (14 + 4 * m + 1) 0 = gi T 192 13 := by rw [fx.1 _ 0 (by omega), p7.1 _ 0 (by omega)]; exact q6
    rw [w, fx.1 177 3 (by omega), p7.1 177 3 (by omega), q7.1 177 3 (by omega), hF, vx, v1, v0, e53]; omega) with q | ⟨Sb, T6, u2, h2, u3, u4, uM, uB, u5, u6, u7, u8, u9⟩
  · obtain ⟨a1, a2, a3, a4, a5, a6⟩ := q
    exact .inl ⟨a1, a2, a3, fr_trans (fun r k a => q7.1 r k (by omega)) (fr_trans (fun r k a => p7.1 r k (by omega)) a4), fr_trans f3 (fr_trans f5 a5), a6.trans (l5.trans l3)⟩
  rw [show ((0 : Int) + 1 + 1).toNat = 2 from rfl] at u6 u7
  obtain ⟨_, h2⟩ := w_chkE h2
  have u3 : f_MarkReader_readNumbers_33 m (3996 + 1) Sb 3 3 = some (r, S') := u3
  obtain ⟨hr, hS⟩ := rn_end u3
  subst hS
  obtain ⟨M7, B7, A7⟩ := put_num (x := 203) (m := m) (v := gi T5 192 13) (by omega) (by omega) uM uB u5
  refine .inr ⟨_, hr, h2, u4, A7, ?_, ?_, ?_, fr_trans (fun r k a => q7.1 r k (by omega)) (fr_trans (fun r k a => p7.1 r k (by omega)) (fun r k a => u7.1 r k (by omega))), fr_trans f3 (fr_trans f5 (fr_num (by omega) u8)), u9.trans (l5.trans l3)⟩
  · rw [u7.1 _ 0 (by omega), p7.1 _ 0 (by omega), q6, gi_off (by omega), u8 201 m (by omega)]; exact n51.symm
  · rw [u7.1 _ 1 (by omega), p6, gi_off (by omega), u8 202 m (by omega)]; exact n5.symm
  · rw [u6, gi_at]
theorem nq_move {S T S' T1 : SS} {b m : Nat} {r : Int} {o : Option Unit} (hC : CX b S) (hb : 2 ≤ b) (hm : m < 40) (hM : MX 1 T) (hB : BF S T) (hA : AH S T) (hF : gi S 177 3 = gi T 192 3) (hk : gi S (14 + 4 * m) 2 = 4) (g : SS → Option (Option Unit × SS))
    (h1 : f_MarkReader_readNumbers_33 m FU S 3 0 = some (r, S')) (h2 : w_b3 (f_M_readMove T (m : Int)) (fun s => some (none, s)) (fun _ s => g s) = some (o, T1)) : NQ S T b m r S' o T1 g := by
  rcases w_b3E h2 with ⟨v, T2, e2, h2⟩ | ⟨T2, e2, h2⟩
  · rcases nq_move0 hC hb hm hM hB hA hF hk h1 e2 with ⟨_, q, _⟩ | ⟨T', q1, q2, q3⟩
    · cases q
    · cases q2
      exact .inr ⟨_, q1, h2, q3⟩
  · cases h2
    rcases nq_move0 hC hb hm hM hB hA hF hk h1 e2 with ⟨q1, q2, q3⟩ | ⟨T', q1, q2, q3⟩
    · exact .inl ⟨q1, rfl, q3⟩
    · cases q2
/-- stet: one number -/
theorem nq_stet {S T S' T1 : SS} {m : Nat} {r : Int} {o : Option Unit} (hC : CX (m + 2) S) (hm : m < 40) (hM : MX 1 T) (hB : BF S T) (hA : AH S T) (hk : gi S (14 + 4 * m) 2 = 5) (hkk : ∀ k : Nat, k < m → gi S (14 + 4 * k) 2 = gi T 199 k) (hn1 : gi S (14 + 4 * m + 1) 1 = gi T 202 m) (hn2 : gi S (14 + 4 * m + 1) 2 = gi T 203 m)
    (h1 : f_MarkReader_readNumbers_33 m FU S 1 0 = some (r, S')) (h2 : (if gi T 192 12 = 2 then (if (m : Int) ≤ gi T 192 13 then f_M_readLine_456 (m : Int) T else w_chk (0 ≤ (gi T 192 13) ∧ (gi T 192 13) < 41) ((if gi T 199 (gi T 192 13).toNat = 5 then f_M_readLine_456 (m : Int) T else f_M_readLine_466 (m : Int) T))) else f_M_readLine_466 (m : Int) T) = some (o, T1)) : NQ S T (m + 2) m r S' o T1 (f_M_readLine_480 (m : Int)) := by
  have bv := mx_192_13 hM
  have t0 : (0 : Int).toNat = 0 := rfl
  have tm : ((m : Int)).toNat = m := Int.toNat_natCast m
  have hr : RN T (gi T 192 13 < (m : Int) ∧ gi T 199 (gi T 192 13).toNat ≠ 5) (fun r2_z S3_z => w_chk (0 ≤ (m : Int) ∧ (m : Int) < 41) (w_lt (si S3_z 201 m r2_z) (fun S6_z => f_M_readLine_480 (m : Int) S6_z))) o T1 := by
    have go : f_M_readLine_466 (m : Int) T = some (o, T1) → (gi T 192 12 = 2 → gi T 199 (gi T 192 13).toNat ≠ 5) → RN T (gi T 192 13 < (m : Int) ∧ gi T 199 (gi T 192 13).toNat ≠ 5) (fun r2_z S3_z => w_chk (0 ≤ (m : Int) ∧ (m : Int) < 41) (w_lt (si S3_z 201 m r2_z) (fun S6_z => f_M_readLine_480 (m : Int) S6_z))) o T1 := by
      intro h hn
      unfold f_M_readLine_466 at h
      rw [tm] at h
      obtain ⟨_, h⟩ := w_chkE h
      rcases rn_of h with q | q | q
      · exact .inl q
      · exact .inr (.inl ⟨q.1, fun w => q.2.1 ⟨bv.1, by omega⟩, q.2.2⟩)
      · exact .inr (.inr ⟨q.1, ⟨by omega, hn q.1⟩, q.2.2⟩)
    have bad : f_M_readLine_456 (m : Int) T = some (o, T1) → o = none ∧ T1 = f_M_wrong T 2 (gi T 192 10) := by
      intro h
      unfold f_M_readLine_456 w_lt at h
      cases h
      exact ⟨rfl, rfl⟩
    by_cases c : gi T 192 12 = 2
    · rw [if_pos c] at h2
      by_cases c2 : (m : Int) ≤ gi T 192 13
      · rw [if_pos c2] at h2
        exact .inr (.inl ⟨c, fun w => by omega, bad h2⟩)
      · rw [if_neg c2] at h2
        obtain ⟨_, h2⟩ := w_chkE h2
        by_cases c3 : gi T 199 (gi T 192 13).toNat = 5
        · rw [if_pos c3] at h2
          exact .inr (.inl ⟨c, fun w => w.2 c3, bad h2⟩)
        · rw [if_neg c3] at h2
          exact go h2 (fun _ => c3)
    · rw [if_neg c] at h2
      exact go h2 (fun q => absurd q c)
  rcases num_g (n := 3999) hC (by omega) hm hM hB hA (by omega) h1 hr (fun S9 x c9 f9 v9 ex => by
    rw [t0] at v9 f9
    have sm := (c9.2.2.2.2.2 (by omega)).2
    have w := mb_stet c9.2.1 (by rw [f9.1 (14 + 4 * m) 2 (by omega)]; exact hk) (by rw [v9]; exact bv.1) (by omega) ex
    rw [w, v9, f9.1 (14 + 4 * (gi T 192 13).toNat) 2 (by omega)]
    have kv : gi T 192 13 < (m : Int) → gi S (14 + 4 * (gi T 192 13).toNat) 2 = gi T 199 (gi T 192 13).toNat := fun q => hkk _ (by omega)
    constructor
    · rintro (a | a) ⟨d1, d2⟩
      · omega
      · rw [kv d1] at a; exact d2 a
    · intro a
      by_cases d1 : gi T 192 13 < (m : Int)
      · right
        rw [kv d1]
        by_cases d2 : gi T 199 (gi T 192 13).toNat = 5
        · exact d2
        · exact absurd ⟨d1, d2⟩ a
      · left; omega) with q | ⟨S9, T2, q2, h2, q3, q4, qM, qB, q5, q6, q7, q8, q9⟩
  · exact .inl q
  rw [t0] at q6 q7
  obtain ⟨_, h2⟩ := w_chkE h2
  have q3 : f_MarkReader_readNumbers_33 m (3998 + 1) S9 1 1 = some (r, S') := q3
  obtain ⟨hr, hS⟩ := rn_end q3
  subst hS
  obtain ⟨M7, B7, A7⟩ := put_num (x := 201) (m := m) (v := gi T 192 13) (by omega) (by omega) qM qB q5
  refine .inr ⟨_, hr, h2, q4, A7, ?_, ?_, ?_, (fun r k a => q7.1 r k (by omega)), fr_num (by omega) q8, q9⟩
  · rw [q6, gi_at]
  · rw [q7.1 _ 1 (by omega), hn1, gi_off (by omega), q8 202 m (by omega)]
  · rw [q7.1 _ 2 (by omega), hn2, gi_off (by omega), q8 203 m (by omega)]
/-- the reference passes blanks ahead of a word -/
theorem rw_skip (m N : Int) : ∀ (n : Nat) (T : SS) (o : Option Unit) (T1 : SS), gi T 192 9 = N → N ≤ 2000 → 0 ≤ gi T 192 11 → gi T 192 11 ≤ N → f_M_readWords_19 m n T = some (o, T1) → ∃ n' T', f_M_readWords_57 m (f_M_readWords_19 m n') T' = some (o, T1) ∧ T'.2 = T.2 ∧ fr (fun r k => r = 192 ∧ k = 11) T T' ∧ gi T 192 11 ≤ gi T' 192 11 ∧ gi T' 192 11 ≤ N ∧ (∀ j, gi T 192 11 ≤ j → j < gi T' 192 11 → t_bl (mby_ T j)) ∧ (gi T' 192 11 = N ∨ ¬ t_bl (mby_ T (gi T' 192 11))) := by
  intro n
  induction n with
  | zero => intro T o T1 _ _ _ _ h; exact absurd h (by simp [f_M_readWords_19])
  | succ n ih =>
    intro T o T1 e9 hN h0 h1 h
    have h : f_M_readWords_19_b m (f_M_readWords_19 m n) T = some (o, T1) := h
    unfold f_M_readWords_19_b at h
    by_cases c : gi T 192 9 ≤ gi T 192 11
    · rw [if_pos c] at h
      exact ⟨n, T, h, rfl, fr_refl _ T, Int.le_refl _, h1, fun j a d => by omega, .inl (by omega)⟩
    · rw [if_neg c, w_b1_is (mby (T := T) (i := gi T 192 11) h0 (by omega) (by omega))] at h
      have eb : andi (gi T 197 (gi T 192 11).toNat) 255 = mby_ T (gi T 192 11) := rfl
      rw [eb] at h
      have bl : (f_M_isBlank T (mby_ T (gi T 192 11)) = 0 ∧ ¬ t_bl (mby_ T (gi T 192 11))) ∨ (f_M_isBlank T (mby_ T (gi T 192 11)) = 1 ∧ t_bl (mby_ T (gi T 192 11))) := bl_c T (mby_ T (gi T 192 11))
      rcases bl with q | q
      · rw [if_pos q.1] at h
        exact ⟨n, T, h, rfl, fr_refl _ T, Int.le_refl _, h1, fun j a d => by omega, .inr q.2⟩
      · rw [if_neg (by omega)] at h
        obtain ⟨_, h⟩ := w_chkE h
        unfold w_lt at h
        have d11 : gi (si T 192 11 (gi T 192 11 + 1)) 192 11 = gi T 192 11 + 1 := gi_at _ _ _ _
        have db : ∀ j, mby_ (si T 192 11 (gi T 192 11 + 1)) j = mby_ T j := fun j => by unfold mby_; rw [gi_off (by omega)]
        obtain ⟨n', T', a1, a2, a3, a4, a5, a6, a7⟩ := ih (si T 192 11 (gi T 192 11 + 1)) o T1 (by rw [gi_off (by omega)]; exact e9) hN (by rw [d11]; omega) (by rw [d11]; omega) h
        rw [d11] at a4 a6
        refine ⟨n', T', a1, a2, fun r k a => by rw [a3 r k a, gi_off a], by omega, a5, fun j b1 b2 => ?_, ?_⟩
        · by_cases e : j = gi T 192 11
          · rw [e]; exact q.2
          · rw [← db]; exact a6 j (by omega) b2
        · rcases a7 with w | w
          · exact .inl w
          · rw [db] at w; exact .inr w
theorem skip_one {b : Int → Int} {N p s s' : Int} (h1 : p ≤ s ∧ s ≤ N) (h2 : p ≤ s' ∧ s' ≤ N) (a : ∀ j, p ≤ j → j < s → t_bl (b j)) (a' : ∀ j, p ≤ j → j < s' → t_bl (b j)) (e : s = N ∨ ¬ t_bl (b s)) (e' : s' = N ∨ ¬ t_bl (b s')) : s = s' := by
  by_cases c : s < s'
  · rcases e with q | q
    · omega
    · exact absurd (a' s h1.1 c) q
  · by_cases c2 : s' < s
    · rcases e' with q | q
      · omega
      · exact absurd (a s' h2.1 c2) q
    · omega
abbrev XWC (m r k : Nat) : Prop := r = 3 ∨ (r = 177 ∧ 4 ≤ k) ∨ (r = 14 + 4 * m + 2 ∧ k = 1)
abbrev XWR (m r k : Nat) : Prop := (r = 192 ∧ 10 ≤ k ∧ k ≤ 15) ∨ (r = 204 ∧ k = m)
/-- the words of mark m are alike -/
def WL (S T : SS) (m : Nat) : Prop := gi S (14 + 4 * m + 2) 1 = gi T 204 m ∧ 0 ≤ gi T 204 m ∧ gi T 204 m ≤ 6 ∧ ∀ k : Nat, (k : Int) < gi T 204 m → gl S (14 + 4 * m + 2 + 1) k = gl T 206 (6 * m + k)
theorem WL_keep {S T S1 T1 : SS} {m : Nat} (h : WL S T m) (h1 : gi S1 (14 + 4 * m + 2) 1 = gi S (14 + 4 * m + 2) 1) (h2 : gi T1 204 m = gi T 204 m) (g1 : ∀ k, gl S1 (14 + 4 * m + 2 + 1) k = gl S (14 + 4 * m + 2 + 1) k) (g2 : ∀ k, gl T1 206 k = gl T 206 k) : WL S1 T1 m := by
  unfold WL at h ⊢
  rw [h1, h2]
  exact ⟨h.1, h.2.1, h.2.2.1, fun k hk => by rw [g1, g2]; exact h.2.2.2 k hk⟩
theorem cf_3 (S : SS) (kd : Int) (r k : Nat) (h : r ≠ 3) : gi (c_flt S kd) r k = gi S r k := by
  show gi (si (si S 3 0 kd) 3 1 _) r k = _
  rw [gi_off (by omega), gi_off (by omega)]
theorem wf_192 (T : SS) (kd p : Int) (r k : Nat) (h : ¬ (r = 192 ∧ 10 ≤ k ∧ k ≤ 15)) : gi (f_M_wrong T kd p) r k = gi T r k := by
  show gi (si (si T 192 14 kd) 192 15 _) r k = _
  rw [gi_off (by omega), gi_off (by omega)]
theorem cap_m (m : Nat) (hm : m < 40) : cap (14 + 4 * m + 2) = 6 := by
  unfold cap
  rw [if_neg (by omega), if_neg (by omega), if_neg (by omega), if_neg (by omega), if_neg (by omega)]
/-- which longs a line may change -/
def LGC (m : Nat) (S S1 : SS) : Prop := ∀ r k, r ≠ 14 + 4 * m + 2 + 1 → gl S1 r k = gl S r k
def LGR (m : Nat) (T T1 : SS) : Prop := ∀ r k, ¬ (r = 206 ∧ 6 * m ≤ k ∧ k < 6 * m + 6) → gl T1 r k = gl T r k
theorem LGC_t {m : Nat} {S S1 S2 : SS} (h : LGC m S S1) (h2 : LGC m S1 S2) : LGC m S S2 := fun r k a => (h2 r k a).trans (h r k a)
theorem LGR_t {m : Nat} {S S1 S2 : SS} (h : LGR m S S1) (h2 : LGR m S1 S2) : LGR m S S2 := fun r k a => (h2 r k a).trans (h r k a)
theorem LGC_2 {m : Nat} {S S1 : SS} (h : S1.2 = S.2) : LGC m S S1 := fun r k _ => gl_2 h r k
theorem LGR_2 {m : Nat} {S S1 : SS} (h : S1.2 = S.2) : LGR m S S1 := fun r k _ => gl_2 h r k
/-- behind a word: both fault alike, or both have it -/
def WE (S T : SS) (m : Nat) (r : Int) (S1 : SS) (o : Option Unit) (T1 : SS) (kf : SS → Option (Option Unit × SS)) : Prop :=
  (r = 0 ∧ o = none ∧ FE S1 T1 ∧ fr (XWC m) S S1 ∧ fr (XWR m) T T1 ∧ LGC m S S1 ∧ LGR m T T1) ∨
  (∃ T2, r = 1 ∧ kf T2 = some (o, T1) ∧ BF S1 T2 ∧ gi S1 177 4 = gi T2 192 11 ∧ 0 ≤ gi T2 192 11 ∧ gi T2 192 11 ≤ gi T2 192 9 ∧ WL S1 T2 m ∧ gi T2 204 m = gi T 204 m + 1 ∧ fr (XWC m) S S1 ∧ fr (XWR m) T T2 ∧ LGC m S S1 ∧ LGR m T T2)
theorem rw_end {S T : SS} {m : Nat} (hm : m < 40) {kf : SS → Option (Option Unit × SS)} {w2 w3 : Int64} {gc gr r : Int} {S1 : SS} {o : Option Unit} {T1 : SS} (hB : BF S T) (h5 : gi S 177 5 = gi T 192 10) (h4 : gi S 177 4 = gi T 192 11) (h0 : 0 ≤ gi T 192 11) (hN : gi T 192 11 ≤ gi T 192 9) (hW : WL S T m) (hgc : gc = 0 ∨ gc = 1) (hgr : gr = 0 ∨ gr = 1) (hg : gr = 1 ↔ gc = 1 ∧ gi T 192 11 - gi T 192 10 ≤ 8) (hw : gr = 1 → w2 = w3) (h1 : f_MarkReader_readWord_95 m S w2 gc = some (r, S1)) (h2 : f_M_readWords_204 (m : Int) kf T gr w3 = some (o, T1)) : WE S T m r S1 o T1 kf := by
  have tm : ((m : Int)).toNat = m := Int.toNat_natCast m
  have b114 : f_MarkReader_readWord_114 m S = some (r, S1) → r = 0 ∧ S1 = c_flt S 1 := by
    intro q
    unfold f_MarkReader_readWord_114 at q
    obtain ⟨a, t, e, q⟩ := w_b2E q
    obtain ⟨_, q⟩ := w_chkE q
    have w := c_refuse e
    cases q
    exact w
  have bad : ∀ kd, r = 0 ∧ S1 = c_flt S kd → o = none ∧ T1 = f_M_wrong T kd (gi T 192 10) → WE S T m r S1 o T1 kf := by
    intro kd a d
    refine .inl ⟨a.1, d.1, ?_, fun r k x => ?_, fun r k x => ?_, LGC_2 (by rw [a.2]; rfl), LGR_2 (by rw [d.2]; rfl)⟩
    · rw [a.2, d.2]; exact FE_flt h5
    · rw [a.2]; exact cf_3 S kd r k (by omega)
    · rw [d.2]; exact wf_192 T kd _ r k (by omega)
  unfold f_MarkReader_readWord_95 at h1
  unfold f_M_readWords_204 at h2
  rw [tm] at h2
  rcases hgr with g | g
  · rw [if_pos g] at h2
    unfold w_lt at h2
    cases h2
    refine bad 1 ?_ ⟨rfl, rfl⟩
    by_cases c : gc = 0
    · rw [if_pos c] at h1; exact b114 h1
    · rw [if_neg c] at h1
      obtain ⟨_, h1⟩ := w_chkE h1
      rw [if_neg (fun q => by have := hg.2 ⟨by omega, by omega⟩; omega)] at h1
      exact b114 h1
  · have hg' := hg.1 g
    rw [if_neg (by omega)] at h2
    obtain ⟨_, h2⟩ := w_chkE h2
    rw [if_neg (by omega)] at h1
    obtain ⟨_, h1⟩ := w_chkE h1
    rw [if_pos (by omega)] at h1
    obtain ⟨l1, l2, l3, l4⟩ := hW
    by_cases c : gi T 204 m = 6
    · rw [if_pos c] at h2
      unfold w_lt at h2
      cases h2
      rw [if_neg (by omega)] at h1
      obtain ⟨a, t, e, h1⟩ := w_b2E h1
      obtain ⟨_, h1⟩ := w_chkE h1
      have w := c_refuse e
      cases h1
      exact bad 3 w ⟨rfl, rfl⟩
    · rw [if_neg c] at h2
      rw [if_pos (by omega)] at h1
      obtain ⟨S5, e5, h1⟩ := w_b1E h1
      cases h1
      have eS := sh_add e5 (by omega) (by rw [cap_m m hm]; omega)
      obtain ⟨_, h2⟩ := w_chkE h2
      obtain ⟨_, h2⟩ := w_chkE h2
      obtain ⟨_, h2⟩ := w_chkE h2
      obtain ⟨_, h2⟩ := w_chkE h2
      unfold w_lt at h2
      obtain ⟨_, h2⟩ := w_chkE h2
      obtain ⟨_, h2⟩ := w_chkE h2
      obtain ⟨_, h2⟩ := w_chkE h2
      have ei : (6 * (m : Int) + gi T 204 m).toNat = 6 * m + (gi T 204 m).toNat := by omega
      rw [ei] at h2
      have eg : gi (sl T 206 (6 * m + (gi T 204 m).toNat) w3) 204 m = gi T 204 m := rfl
      rw [eg] at h2
      have cS : ∀ r k, ¬ (r = 14 + 4 * m + 2 ∧ k = 1) → gi S1 r k = gi S r k := fun r k a => by rw [eS, gi_off a]; rfl
      have cT : ∀ r k, ¬ (r = 204 ∧ k = m) → gi (si (sl T 206 (6 * m + (gi T 204 m).toNat) w3) 204 m (gi T 204 m + 1)) r k = gi T r k := fun r k a => by rw [gi_off a]; rfl
      refine .inr ⟨_, rfl, h2, BF_keep hB (fun k => ⟨cS 1 1 (by omega), cS 2 k (by omega)⟩) (fun k => ⟨cT 192 9 (by omega), cT 197 k (by omega)⟩), ?_, ?_, ?_, ⟨?_, ?_, ?_, fun k hk => ?_⟩, gi_at _ _ _ _, fun r k a => cS r k (by omega), fun r k a => cT r k (by omega), fun r k a => ?_, fun r k a => ?_⟩
      · rw [cS 177 4 (by omega), cT 192 11 (by omega)]; exact h4
      · rw [cT 192 11 (by omega)]; exact h0
      · rw [cT 192 11 (by omega), cT 192 9 (by omega)]; exact hN
      · rw [gi_at, eS, gi_at, l1]
      · rw [gi_at]; omega
      · rw [gi_at]; omega
      · rw [gi_at] at hk
        have gS : gl S1 (14 + 4 * m + 2 + 1) k = gl (sl S (14 + 4 * m + 2 + 1) (gi S (14 + 4 * m + 2) 1).toNat w2) (14 + 4 * m + 2 + 1) k := by rw [eS]; rfl
        have gT : gl (si (sl T 206 (6 * m + (gi T 204 m).toNat) w3) 204 m (gi T 204 m + 1)) 206 (6 * m + k) = gl (sl T 206 (6 * m + (gi T 204 m).toNat) w3) 206 (6 * m + k) := rfl
        rw [gS, gT, gl_slN, gl_slN, l1]
        by_cases e : k = (gi T 204 m).toNat
        · rw [if_pos ⟨rfl, e⟩, if_pos ⟨rfl, by omega⟩]; exact hw g
        · rw [if_neg (fun q => e q.2), if_neg (fun q => e (by omega))]
          exact l4 k (by omega)
      · have gS : gl S1 r k = gl (sl S (14 + 4 * m + 2 + 1) (gi S (14 + 4 * m + 2) 1).toNat w2) r k := by rw [eS]; rfl
        rw [gS, gl_slN, if_neg (fun q => a q.1)]
      · have gT : gl (si (sl T 206 (6 * m + (gi T 204 m).toNat) w3) 204 m (gi T 204 m + 1)) r k = gl (sl T 206 (6 * m + (gi T 204 m).toNat) w3) r k := rfl
        rw [gT, gl_slN, if_neg (fun q => a ⟨q.1, by omega, by omega⟩)]
/-- a word of both sides -/
theorem rw_word {m : Nat} (hm : m < 40) (kf : SS → Option (Option Unit × SS)) : ∀ (n1 n2 : Nat) (S T : SS) (w2 w3 : Int64) (gc gr v r : Int) (S1 : SS) (o : Option Unit) (T1 : SS), BF S T → gi S 177 5 = gi T 192 10 → gi S 177 4 = gi T 192 11 → v = gi T 192 11 → 0 ≤ gi T 192 11 → gi T 192 11 ≤ gi T 192 9 → WL S T m → (gc = 0 ∨ gc = 1) → (gr = 0 ∨ gr = 1) → (gr = 1 ↔ gc = 1 ∧ gi T 192 11 - gi T 192 10 ≤ 8) → (gr = 1 → w2 = w3) → f_MarkReader_readWord_11 m n1 S w2 gc v = some (r, S1) → f_M_readWords_96 (m : Int) kf n2 T gr w3 = some (o, T1) → WE S T m r S1 o T1 kf := by
  intro n1
  induction n1 with
  | zero => intro n2 S T w2 w3 gc gr v r S1 o T1 _ _ _ _ _ _ _ _ _ _ _ h1; exact absurd h1 (by simp [f_MarkReader_readWord_11])
  | succ n1 ih =>
    intro n2 S T w2 w3 gc gr v r S1 o T1 hB h5 h4 hv h0 hN hW hgc hgr hg hw h1 h2
    cases n2 with
    | zero => exact absurd h2 (by simp [f_M_readWords_96])
    | succ n2 =>
      have h1 : f_MarkReader_readWord_11_b m (f_MarkReader_readWord_11 m n1) S w2 gc v = some (r, S1) := h1
      have h2 : f_M_readWords_96_b (m : Int) kf (f_M_readWords_96 (m : Int) kf n2) T gr w3 = some (o, T1) := h2
      unfold f_MarkReader_readWord_11_b at h1
      unfold f_M_readWords_96_b at h2
      obtain ⟨_, h1⟩ := w_chkE h1
      have e9 := hB.1
      have b9 := hB.2.2.1
      have E := rw_end hm hB h5 h4 h0 hN hW hgc hgr hg hw (kf := kf) (r := r) (S1 := S1) (o := o) (T1 := T1)
      by_cases c : gi T 192 9 ≤ gi T 192 11
      · rw [if_pos c] at h2
        rw [if_pos (by omega)] at h1
        exact E h1 h2
      · rw [if_neg c, w_b1_is (mby (T := T) (i := gi T 192 11) h0 (by omega) (by omega))] at h2
        rw [if_neg (by omega)] at h1
        obtain ⟨_, h1⟩ := w_chkE h1
        rw [hv, w_b1_is (cby (S := S) (i := gi T 192 11) h0 (by omega) (by omega)), (hB.2.2.2 (gi T 192 11).toNat (by omega)).1] at h1
        have b255 := andi255 (gi T 197 (gi T 192 11).toNat)
        have hx : f_M_byteAt T (gi T 192 11) = some (andi (gi T 197 (gi T 192 11).toNat) 255) := mby (T := T) (i := gi T 192 11) h0 (by omega) (by omega)
        generalize andi (gi T 197 (gi T 192 11).toNat) 255 = ch at h1 h2 b255 hx
        have ebl : f_M_isBlank T ch = f_MP_isBlank S ch := rfl
        rw [ebl] at h2
        by_cases c2 : f_MP_isBlank S ch = 0
        · rw [if_pos c2] at h1 h2
          rw [w_b1_is hx] at h2
          by_cases c3 : ch = 59
          · rw [if_pos c3] at h1 h2
            exact E h1 h2
          · rw [if_neg c3] at h1 h2
            have step : ∀ (gc' gr' : Int) (w3' : Int64), (gc' = 0 ∨ gc' = 1) → (gr' = 0 ∨ gr' = 1) → (gr' = 1 ↔ gc' = 1 ∧ gi T 192 11 + 1 - gi T 192 10 ≤ 8) → (gr' = 1 → (lsh w2 8 ||| i2l ch) = w3') → f_MarkReader_readWord_70 m (f_MarkReader_readWord_11 m n1) S w2 (gi T 192 11) ch gc' = some (r, S1) → f_M_readWords_191 (m : Int) kf (f_M_readWords_96 (m : Int) kf n2) T gr' w3' = some (o, T1) → WE S T m r S1 o T1 kf := by
              intro gc' gr' w3' a1 a2 a3 a4 k1 k2
              unfold f_MarkReader_readWord_70 at k1
              unfold f_M_readWords_191 at k2
              obtain ⟨_, k1⟩ := w_chkE k1
              obtain ⟨_, k2⟩ := w_chkE k2
              unfold w_lt at k1 k2
              obtain ⟨_, k1⟩ := w_chkE k1
              have cS : ∀ r k, ¬ (r = 177 ∧ k = 4) → gi (si S 177 4 (gi T 192 11 + 1)) r k = gi S r k := fun r k a => gi_off a
              have cT : ∀ r k, ¬ (r = 192 ∧ k = 11) → gi (si T 192 11 (gi T 192 11 + 1)) r k = gi T r k := fun r k a => gi_off a
              have n11 : gi (si T 192 11 (gi T 192 11 + 1)) 192 11 = gi T 192 11 + 1 := gi_at _ _ _ _
              have R := ih n2 (si S 177 4 (gi T 192 11 + 1)) (si T 192 11 (gi T 192 11 + 1)) (lsh w2 8 ||| i2l ch) w3' gc' gr' (gi T 192 11 + 1) r S1 o T1 (BF_keep hB (fun k => ⟨cS 1 1 (by omega), cS 2 k (by omega)⟩) (fun k => ⟨cT 192 9 (by omega), cT 197 k (by omega)⟩)) (by rw [cS 177 5 (by omega), cT 192 10 (by omega)]; exact h5) (by rw [n11, gi_at]) n11.symm (by rw [n11]; omega) (by rw [n11, cT 192 9 (by omega)]; omega) (WL_keep hW (cS _ 1 (by omega)) (cT 204 m (by omega)) (fun k => rfl) (fun k => rfl)) a1 a2 (by rw [n11, cT 192 10 (by omega)]; exact a3) a4 k1 k2
              have fS : fr (XWC m) S (si S 177 4 (gi T 192 11 + 1)) := fun r k a => cS r k (by omega)
              have fT : fr (XWR m) T (si T 192 11 (gi T 192 11 + 1)) := fun r k a => cT r k (by omega)
              rcases R with ⟨x1, x2, x3, x4, x5, x6, x7⟩ | ⟨T2, x1, x2, x3, x4, x5, x6, x7, x8, x9, x10, x11, x12⟩
              · exact .inl ⟨x1, x2, x3, fr_trans fS x4, fr_trans fT x5, LGC_t (LGC_2 rfl) x6, LGR_t (LGR_2 rfl) x7⟩
              · exact .inr ⟨T2, x1, x2, x3, x4, x5, x6, x7, by rw [x8, cT 204 m (by omega)], fr_trans fS x9, fr_trans fT x10, LGC_t (LGC_2 rfl) x11, LGR_t (LGR_2 rfl) x12⟩
            have g0 : ∀ gc', (gc' = 0 ∨ (gc' = 1 ∧ 8 ≤ gi T 192 11 - gi T 192 10)) → f_MarkReader_readWord_70 m (f_MarkReader_readWord_11 m n1) S w2 (gi T 192 11) ch gc' = some (r, S1) → f_M_readWords_170 (m : Int) kf (f_M_readWords_96 (m : Int) kf n2) T w3 = some (o, T1) → WE S T m r S1 o T1 kf := by
              intro gc' a k1 k2
              unfold f_M_readWords_170 f_M_readWords_171 at k2
              rw [if_pos rfl] at k2
              exact step gc' 0 w3 (by omega) (.inl rfl) (by omega) (fun q => absurd q (by decide)) k1 k2
            by_cases c4 : gc = 0
            · have gr0 : gr = 0 := by
                rcases hgr with q | q
                · exact q
                · have := hg.1 q; omega
              rw [if_pos c4] at h1
              rw [if_pos gr0] at h2
              unfold f_MarkReader_readWord_69 at h1
              exact g0 0 (.inl rfl) h1 h2
            · have gc1 : gc = 1 := by omega
              rw [if_neg c4, w_b1_is (ow_eq S T ch b255)] at h1
              by_cases c5 : f_M_isOfWord T ch = 0
              · rw [if_pos c5] at h1
                unfold f_MarkReader_readWord_69 at h1
                by_cases c6 : gr = 0
                · rw [if_pos c6] at h2
                  exact g0 0 (.inl rfl) h1 h2
                · rw [if_neg c6, w_b1_is hx, if_pos c5] at h2
                  exact g0 0 (.inl rfl) h1 h2
              · rw [if_neg c5] at h1
                by_cases c6 : gr = 0
                · rw [if_pos c6] at h2
                  have : ¬ (gi T 192 11 - gi T 192 10 ≤ 8) := fun q => by have := hg.2 ⟨gc1, q⟩; omega
                  exact g0 1 (.inr ⟨rfl, by omega⟩) h1 h2
                · have gr1 : gr = 1 := by omega
                  rw [if_neg c6, w_b1_is hx, if_neg c5] at h2
                  obtain ⟨_, h2⟩ := w_chkE h2
                  by_cases c7 : 8 ≤ gi T 192 11 - gi T 192 10
                  · rw [if_pos c7] at h2
                    exact g0 1 (.inr ⟨rfl, c7⟩) h1 h2
                  · rw [if_neg c7] at h2
                    unfold f_M_readWords_171 at h2
                    rw [if_neg (by decide), w_b1_is hx] at h2
                    exact step 1 1 _ (.inr rfl) (.inr rfl) (by omega) (fun _ => by rw [hw gr1]) h1 h2
        · rw [if_neg c2] at h1 h2
          exact E h1 h2
theorem semi_is : tc_ln 12 = 1 ∧ tc_ch 12 0 = 59 := by decide +kernel
/-- a line's words: both fault alike, or both are behind the line's end -/
def WQ (S T : SS) (m : Nat) (r : Int) (S' : SS) (o : Option Unit) (T1 : SS) : Prop :=
  (r = 0 ∧ o = none ∧ FE S' T1 ∧ fr (XWC m) S S' ∧ fr (XWR m) T T1 ∧ LGC m S S' ∧ LGR m T T1) ∨ (r = 1 ∧ o = some () ∧ AH S' T1 ∧ WL S' T1 m ∧ fr (XWC m) S S' ∧ fr (XWR m) T T1 ∧ LGC m S S' ∧ LGR m T T1)
theorem rw_sim {m : Nat} (hm : m < 40) : ∀ (n1 n2 : Nat) (S T : SS) (v r : Int) (S' : SS) (o' o : Option Unit) (T1' T1 : SS), BF S T → gi S 177 4 = gi T 192 11 → 0 ≤ gi T 192 11 → gi T 192 11 ≤ gi T 192 9 → WL S T m → v = gi T 204 m → f_MarkReader_readWords_2 m n1 S v = some (r, S') → f_M_readWords_19 (m : Int) n2 T = some (o', T1') → ((o' = none ∧ o = none ∧ T1 = T1') ∨ (∃ u, o' = some u ∧ f_M_readLine_505 (m : Int) T1' = some (o, T1))) → WQ S T m r S' o T1 := by
  intro n1
  induction n1 with
  | zero => intro n2 S T v r S' o' o T1' T1 _ _ _ _ _ _ h1; exact absurd h1 (by simp [f_MarkReader_readWords_2])
  | succ n1 ih =>
    intro n2 S T v r S' o' o T1' T1 hB h4 h0 hN hW hv h1 h2 h3
    have tm : ((m : Int)).toNat = m := Int.toNat_natCast m
    have e9 := hB.1
    have b9 := hB.2.2.1
    have w6 := hW.2.2.1
    have w0 := hW.2.1
    have h1 : f_MarkReader_readWords_2_b m (f_MarkReader_readWords_2 m n1) S v = some (r, S') := h1
    unfold f_MarkReader_readWords_2_b at h1
    rw [if_neg (by omega)] at h1
    obtain ⟨Sa, ea, h1⟩ := w_b1E h1
    have ea : f_MarkReader_skipBlanks_5 FU S (gi S 177 4) = some Sa := ea
    obtain ⟨f1, p1, p2, p3, p4⟩ := tk_skip S (gi S 177 4) b9 FU S (gi S 177 4) (by omega) (Int.le_refl _) (by omega) rfl (FX_refl _ S) (fun j a d => by omega) Sa ea
    have la := lq_skip S FU S _ rfl Sa ea
    unfold w_lt at h1
    have gSb : ∀ r k, ¬ (r = 177 ∧ (k = 4 ∨ k = 5)) → gi (si Sa 177 5 (gi Sa 177 4)) r k = gi S r k := fun r k a => by rw [gi_off (by omega)]; exact f1.1 r k (by omega)
    have s5 : gi (si Sa 177 5 (gi Sa 177 4)) 177 5 = gi Sa 177 4 := gi_at _ _ _ _
    have s4 : gi (si Sa 177 5 (gi Sa 177 4)) 177 4 = gi Sa 177 4 := gi_off (by omega)
    have lb : (si Sa 177 5 (gi Sa 177 4)).2 = S.2 := la
    generalize si Sa 177 5 (gi Sa 177 4) = Sb at h1 gSb s5 s4 lb
    obtain ⟨_, h1⟩ := w_chkE h1
    obtain ⟨n', T', a1, a2, a3, a4, a5, a6, a7⟩ := rw_skip (m : Int) (gi T 192 9) n2 T o' T1' rfl (by omega) h0 hN h2
    have es : gi Sa 177 4 = gi T' 192 11 := by
      refine skip_one (b := mby_ T) (N := gi T 192 9) (p := gi T 192 11) ⟨by omega, by omega⟩ ⟨a4, a5⟩ (fun j x y => ?_) a6 ?_ a7
      · rw [← BF_by hB j (by omega) (by omega)]; exact p3 j (by omega) y
      · rcases p4 with q | q
        · left; omega
        · by_cases c : gi Sa 177 4 = gi T 192 9
          · exact .inl c
          · right; rw [← BF_by hB _ (by omega) (by omega)]; exact q
    unfold f_M_readWords_57 w_lt at a1
    have gTb : ∀ r k, ¬ (r = 192 ∧ (k = 10 ∨ k = 11)) → gi (si T' 192 10 (gi T' 192 11)) r k = gi T r k := fun r k a => by rw [gi_off (by omega)]; exact a3 r k (by omega)
    have t10 : gi (si T' 192 10 (gi T' 192 11)) 192 10 = gi T' 192 11 := gi_at _ _ _ _
    have t11 : gi (si T' 192 10 (gi T' 192 11)) 192 11 = gi T' 192 11 := gi_off (by omega)
    have lt : (si T' 192 10 (gi T' 192 11)).2 = T.2 := a2
    generalize si T' 192 10 (gi T' 192 11) = Tb at a1 gTb t10 t11 lt
    dsimp only at a1
    rw [← es] at t10 t11 a4 a5 a6 a7
    generalize gi Sa 177 4 = s at s5 s4 p1 p2 p3 p4 es t10 t11 a4 a5 a6 a7
    have t9 : gi Tb 192 9 = gi T 192 9 := gTb 192 9 (by omega)
    have B2 : BF Sb Tb := BF_keep hB (fun k => ⟨gSb 1 1 (by omega), gSb 2 k (by omega)⟩) (fun k => ⟨t9, gTb 197 k (by omega)⟩)
    have W2 : WL Sb Tb m := WL_keep hW (gSb _ 1 (by omega)) (gTb 204 m (by omega)) (fun k => gl_2 lb _ k) (fun k => gl_2 lt _ k)
    have fS : fr (XWC m) S Sb := fun r k a => gSb r k (by omega)
    have fT : fr (XWR m) T Tb := fun r k a => gTb r k (by omega)
    have b47 : f_MarkReader_readWords_47 m Sb = some (r, S') → r = 0 ∧ S' = c_flt Sb 1 := by
      intro q
      unfold f_MarkReader_readWords_47 at q
      obtain ⟨a, t, e, q⟩ := w_b2E q
      obtain ⟨_, q⟩ := w_chkE q
      have w := c_refuse e
      cases q
      exact w
    have bad : ∀ Tc, gi Tc 192 10 = s → fr (XWR m) T Tc → Tc.2 = T.2 → r = 0 ∧ S' = c_flt Sb 1 → o = none ∧ T1 = f_M_wrong Tc 1 (gi Tc 192 10) → WQ S T m r S' o T1 := by
      intro Tc e10 fc lc a d
      refine .inl ⟨a.1, d.1, ?_, fun r k x => ?_, fun r k x => ?_, LGC_2 (by rw [a.2]; exact lb), LGR_2 (by rw [d.2]; exact lc)⟩
      · rw [a.2, d.2]; exact FE_flt (s5.trans e10.symm)
      · rw [a.2, cf_3 Sb 1 r k (by omega)]; exact fS r k x
      · rw [d.2, wf_192 Tc 1 _ r k (by omega)]; exact fc r k x
    have h269 : f_M_readWords_269 (m : Int) Tb = some (o', T1') → (gi T 204 m = 0 ∧ o = none ∧ T1 = f_M_wrong Tb 1 (gi Tb 192 10)) ∨ (gi T 204 m ≠ 0 ∧ f_M_scan Tb = some T1' ∧ f_M_readLine_505 (m : Int) T1' = some (o, T1)) := by
      intro q
      unfold f_M_readWords_269 at q
      rw [tm, gTb 204 m (by omega)] at q
      obtain ⟨_, q⟩ := w_chkE q
      by_cases c : gi T 204 m = 0
      · rw [if_pos c] at q
        unfold w_lt at q
        cases q
        rcases h3 with z | ⟨u, z, _⟩
        · exact .inl ⟨c, z.2.1, z.2.2⟩
        · cases z
      · rw [if_neg c] at q
        obtain ⟨Tc, ec, q⟩ := w_b1E q
        cases q
        rcases h3 with z | ⟨u, z, z2⟩
        · cases z.1
        · exact .inr ⟨c, ec, z2⟩
    by_cases c : s = gi T 192 9
    · -- the text's end
      have eb : f_Tape_byteAt Sb (gi Sb 177 4) = some (-1) := by
        have := gSb 1 1 (by omega)
        unfold f_Tape_byteAt
        rw [if_neg (by omega), if_pos (by omega)]
      rw [w_b1_is eb, if_pos rfl] at h1
      rw [if_pos (by omega)] at a1
      rcases h269 a1 with q | ⟨q1, q2, q3⟩
      · exact bad Tb t10 fT lt (b47 h1) q.2
      · obtain ⟨g1, g2, g3⟩ := mk_scan Tb ⟨by omega, by omega⟩ (by omega) T1' q2
        have e10 : gi T1' 192 10 = s := by have := g2.1; have := g2.2.1; omega
        have hh := g3.1 (by omega)
        unfold f_M_readLine_505 at q3
        obtain ⟨x, ex, q3⟩ := w_b1E q3
        have x0 : x = 0 := by
          rcases isM T1' 12 x ex with z | z
          · exact z.1
          · have := z.2.1.1; omega
        rw [if_pos x0] at q3
        unfold w_lt at q3
        cases q3
        exact bad T1' e10 (fr_trans fT (fun r k a => g1 r k (by omega))) ((lq_scan Tb T1' q2).trans lt) (b47 h1) ⟨rfl, rfl⟩
    · have hlt : s < gi T 192 9 := by omega
      have q197 := hB.2.2.2 s.toNat (by omega)
      have eb : f_Tape_byteAt Sb (gi Sb 177 4) = some (mby_ T s) := by
        have := gSb 1 1 (by omega)
        rw [s4, cby (S := Sb) (i := s) (by omega) (by omega) (by omega), gSb 2 _ (by omega), q197.1]; rfl
      have et : f_M_byteAt Tb (gi Tb 192 11) = some (mby_ T s) := by
        rw [t11, mby (T := Tb) (i := s) (by omega) (by omega) (by omega), gTb 197 _ (by omega)]; rfl
      have b255 : 0 ≤ mby_ T s ∧ mby_ T s ≤ 255 := andi255 _
      have nb : ¬ t_bl (mby_ T s) := by
        rcases a7 with q | q
        · exact absurd q c
        · exact q
      rw [w_b1_is eb, if_neg (by omega)] at h1
      rw [if_neg (by omega), w_b1_is et] at a1
      by_cases c2 : mby_ T s = 59
      · rw [if_pos c2] at h1 a1
        rcases h269 a1 with q | ⟨q1, q2, q3⟩
        · rw [if_pos (by omega)] at h1
          exact bad Tb t10 fT lt (b47 h1) q.2
        · rw [if_neg (by omega)] at h1
          unfold f_MarkReader_readWords_53 at h1
          rw [if_pos c2] at h1
          obtain ⟨_, h1⟩ := w_chkE h1
          unfold w_lt at h1
          obtain ⟨g1, g2, g3⟩ := mk_scan Tb ⟨by omega, by omega⟩ (by omega) T1' q2
          have mb : mby_ Tb s = mby_ T s := by unfold mby_; rw [gTb 197 _ (by omega)]
          rw [t9, t11] at g2
          rw [t9] at g3
          obtain ⟨u1, u2, u3, u4⟩ := g2
          have e10 : gi T1' 192 10 = s := by
            by_cases cc : s < gi T1' 192 10
            · have := u3 s (Int.le_refl _) cc
              rw [mb] at this
              exact absurd this nb
            · omega
          rw [e10] at u4 g3
          have cl : t_cls (mby_ Tb s) = 0 := by rw [mb, c2]; decide
          have e11 : gi T1' 192 11 = s + 1 := by
            rcases u4 with q | q
            · omega
            · rcases q.2.2.2.2 with z | z
              · exact z.2
              · exact absurd cl z.1
          have hd : gi T1' 192 12 = 3 := by
            rcases (g3.2 hlt).2.2 cl with z | z
            · exact z.1
            · exact absurd (.inr (.inr (by rw [mb]; exact c2))) z.2
          unfold f_M_readLine_505 at q3
          obtain ⟨x, ex, q3⟩ := w_b1E q3
          have x1 : x ≠ 0 := by
            rcases isM T1' 12 x ex with z | z
            · intro _
              refine z.2 ⟨⟨.inr hd, by rw [e10, e11, semi_is.1]; omega⟩, fun j hj => ?_⟩
              rw [semi_is.1] at hj
              have : j = 0 := by omega
              subst this
              rw [semi_is.2, e10, show s + ((0 : Nat) : Int) = s by omega, g1 197 _ (by omega), gTb 197 _ (by omega)]
              exact (and_raw _ 59 q197.2 (by omega)).1 c2
            · omega
          rw [if_neg x1] at q3
          obtain ⟨Td, ed, q3⟩ := w_b1E q3
          have e9' : gi T1' 192 9 = gi T 192 9 := by rw [g1 192 9 (by omega)]; exact t9
          obtain ⟨k1, k2, k3⟩ := mk_scan T1' ⟨by omega, by omega⟩ (by omega) Td ed
          have l1 := lq_scan Tb T1' q2
          have l2 := lq_scan T1' Td ed
          cases h1
          cases q3
          have d9 : gi T1 192 9 = gi T1' 192 9 := k1 192 9 (by omega)
          have db : mby_ T1 = mby_ T1' := by funext j; unfold mby_; rw [k1 197 _ (by omega)]
          refine .inr ⟨rfl, rfl, ?_, WL_keep W2 (gi_off (by omega)) ?_ (fun k => rfl) (fun k => gl_2 (l2.trans l1) _ k), fun r k a => ?_, fun r k a => ?_, LGC_2 lb, LGR_2 ((l2.trans l1).trans lt)⟩
          · unfold AH
            rw [gi_at, s4, d9, db, ← e11]
            exact ⟨by omega, by omega, k2, k3⟩
          · rw [k1 204 m (by omega), g1 204 m (by omega)]
          · rw [gi_off (by omega)]; exact fS r k a
          · rw [k1 r k (by omega), g1 r k (by omega)]; exact fT r k a
      · rw [if_neg c2] at h1 a1
        unfold f_MarkReader_readWords_53 at h1
        rw [if_neg c2] at h1
        obtain ⟨rr, S1, e1, h1⟩ := w_b2E h1
        have e1 : f_MarkReader_readWord_11 m FU Sb 0 1 (gi Sb 177 5) = some (rr, S1) := e1
        have R := rw_word hm (f_M_readWords_19 (m : Int) n') FU FU Sb Tb 0 0 1 1 (gi Sb 177 5) rr S1 o' T1' B2 (by omega) (by omega) (by omega) (by omega) (by omega) W2 (.inr rfl) (.inr rfl) (by omega) (fun _ => rfl) e1 a1
        rcases R with ⟨x1, x2, x3, x4, x5, x6, x7⟩ | ⟨T2, x1, x2, x3, x4, x5, x6, x7, x8, x9, x10, x11, x12⟩
        · rw [if_pos x1] at h1
          cases h1
          rcases h3 with z | ⟨u, z, _⟩
          · exact .inl ⟨rfl, z.2.1, by rw [z.2.2]; exact x3, fr_trans fS x4, by rw [z.2.2]; exact fr_trans fT x5, LGC_t (LGC_2 lb) x6, by rw [z.2.2]; exact LGR_t (LGR_2 lt) x7⟩
          · rw [x2] at z; cases z
        · rw [if_neg (by omega)] at h1
          obtain ⟨_, h1⟩ := w_chkE h1
          have g204 := gTb 204 m (by omega)
          have R := ih n' S1 T2 (v + 1) r S' o' o T1' T1 x3 x4 x5 x6 x7 (by omega) h1 x2 h3
          rcases R with ⟨y1, y2, y3, y4, y5, y6, y7⟩ | ⟨y1, y2, y3, y4, y5, y6, y7, y8⟩
          · exact .inl ⟨y1, y2, y3, fr_trans fS (fr_trans x9 y4), fr_trans fT (fr_trans x10 y5), LGC_t (LGC_2 lb) (LGC_t x11 y6), LGR_t (LGR_2 lt) (LGR_t x12 y7)⟩
          · exact .inr ⟨y1, y2, y3, y4, fr_trans fS (fr_trans x9 y5), fr_trans fT (fr_trans x10 y6), LGC_t (LGC_2 lb) (LGC_t x11 y7), LGR_t (LGR_2 lt) (LGR_t x12 y8)⟩
/-- a mark made blank -/
def CLR (S S1 : SS) (j : Nat) : Prop := S1.2 = S.2 ∧ (∀ r k, ¬ (r = 14 + 4 * j ∧ (k = 2 ∨ k = 3 ∨ 7 ≤ k)) → ¬ (r = 14 + 4 * j + 1) → ¬ (r = 14 + 4 * j + 2 ∧ k = 1) → gi S1 r k = gi S r k) ∧ gi S1 (14 + 4 * j + 1) 0 = -1 ∧ gi S1 (14 + 4 * j + 1) 1 = -1 ∧ gi S1 (14 + 4 * j + 1) 2 = -1 ∧ gi S1 (14 + 4 * j + 2) 1 = 0 ∧ gi S1 (14 + 4 * j) 7 = 0 ∧ gi S1 (14 + 4 * j) 8 = 0 ∧ gi S1 (14 + 4 * j) 9 = 0 ∧ gi S1 (14 + 4 * j) 10 = -1
theorem clear_n {S S1 : SS} {j n : Nat} (h : f_Mark_clear_2 j (n + 4) S 0 = some S1) : CLR S S1 j := by
  have h : f_Mark_clear_2_b j (f_Mark_clear_2 j (n + 3)) S 0 = some S1 := h
  unfold f_Mark_clear_2_b w_lt at h
  rw [if_neg (by decide)] at h
  obtain ⟨_, h⟩ := w_chkE h
  obtain ⟨_, h⟩ := w_chkE h
  have h : f_Mark_clear_2_b j (f_Mark_clear_2 j (n + 2)) (si S (14 + 4 * j + 1) 0 (-1)) 1 = some S1 := h
  unfold f_Mark_clear_2_b w_lt at h
  rw [if_neg (by decide)] at h
  obtain ⟨_, h⟩ := w_chkE h
  obtain ⟨_, h⟩ := w_chkE h
  have h : f_Mark_clear_2_b j (f_Mark_clear_2 j (n + 1)) (si (si S (14 + 4 * j + 1) 0 (-1)) (14 + 4 * j + 1) 1 (-1)) 2 = some S1 := h
  unfold f_Mark_clear_2_b w_lt at h
  rw [if_neg (by decide)] at h
  obtain ⟨_, h⟩ := w_chkE h
  obtain ⟨_, h⟩ := w_chkE h
  have h : f_Mark_clear_2_b j (f_Mark_clear_2 j n) (si (si (si S (14 + 4 * j + 1) 0 (-1)) (14 + 4 * j + 1) 1 (-1)) (14 + 4 * j + 1) 2 (-1)) 3 = some S1 := h
  unfold f_Mark_clear_2_b at h
  rw [if_pos (by decide)] at h
  have h : some (si (si (si (si (si (si (si (si (si (si (si (si S (14 + 4 * j + 1) 0 (-1)) (14 + 4 * j + 1) 1 (-1)) (14 + 4 * j + 1) 2 (-1)) (14 + 4 * j + 2) 1 0) (14 + 4 * j) 2 0) (14 + 4 * j) 3 0) (14 + 4 * j) 7 0) (14 + 4 * j) 8 0) (14 + 4 * j) 9 0) (14 + 4 * j) 10 (-1)) (14 + 4 * j) 11 0) (14 + 4 * j) 12 (-1)) = some S1 := h
  have h := (Option.some.inj h).symm
  subst h
  refine ⟨rfl, fun r k a1 a2 a3 => ?_, ?_, ?_, ?_, ?_, ?_, ?_, ?_, ?_⟩
  · rw [gi_off (by omega), gi_off (by omega), gi_off (by omega), gi_off (by omega), gi_off (by omega), gi_off (by omega), gi_off (by omega), gi_off (by omega), gi_off (by omega), gi_off (by omega), gi_off (by omega), gi_off (by omega)]
  · rw [gi_off (by omega), gi_off (by omega), gi_off (by omega), gi_off (by omega), gi_off (by omega), gi_off (by omega), gi_off (by omega), gi_off (by omega), gi_off (by omega), gi_off (by omega), gi_off (by omega), gi_at]
  · rw [gi_off (by omega), gi_off (by omega), gi_off (by omega), gi_off (by omega), gi_off (by omega), gi_off (by omega), gi_off (by omega), gi_off (by omega), gi_off (by omega), gi_off (by omega), gi_at]
  · rw [gi_off (by omega), gi_off (by omega), gi_off (by omega), gi_off (by omega), gi_off (by omega), gi_off (by omega), gi_off (by omega), gi_off (by omega), gi_off (by omega), gi_at]
  · rw [gi_off (by omega), gi_off (by omega), gi_off (by omega), gi_off (by omega), gi_off (by omega), gi_off (by omega), gi_off (by omega), gi_off (by omega), gi_at]
  · rw [gi_off (by omega), gi_off (by omega), gi_off (by omega), gi_off (by omega), gi_off (by omega), gi_at]
  · rw [gi_off (by omega), gi_off (by omega), gi_off (by omega), gi_off (by omega), gi_at]
  · rw [gi_off (by omega), gi_off (by omega), gi_off (by omega), gi_at]
  · rw [gi_off (by omega), gi_off (by omega), gi_at]
theorem clear_is {S S1 : SS} {j : Nat} (h : f_Mark_clear S j = some S1) : CLR S S1 j := clear_n (n := 3996) h
/-- a mark's row and gap, as its numbers tell them -/
def PLC (S : SS) (j : Nat) : Prop :=
  gi S (14 + 4 * j) 4 = (if gi S (14 + 4 * j) 2 = 1 then 0 else if gi S (14 + 4 * j) 2 = 5 then 0 else gi S (14 + 4 * j + 1) 0) ∧
  gi S (14 + 4 * j) 5 = (if gi S (14 + 4 * j) 2 = 1 then -1 else if gi S (14 + 4 * j) 2 = 5 then -1 else if gi S (14 + 4 * j) 2 = 3 then gi S (14 + 4 * j + 1) 2 else gi S (14 + 4 * j + 1) 1) ∧
  gi S (14 + 4 * j) 6 = (if gi S (14 + 4 * j) 2 = 1 then gi S (14 + 4 * j + 1) 0 else if gi S (14 + 4 * j) 2 = 4 then gi S (14 + 4 * j + 1) 2 else -1)
theorem place_is {S S1 : SS} {j : Nat} (h : f_Mark_place S j = some S1) : PLC S1 j ∧ S1.2 = S.2 ∧ ∀ r k, ¬ (r = 14 + 4 * j ∧ 4 ≤ k ∧ k ≤ 6) → gi S1 r k = gi S r k := by
  have t0 : (0 : Int).toNat = 0 := rfl
  have t1 : (1 : Int).toNat = 1 := rfl
  have t2 : (2 : Int).toNat = 2 := rfl
  have key : ∀ a b c : Int, S1 = si (si (si (si S (14 + 4 * j) 4 a) (14 + 4 * j) 5 b) (14 + 4 * j) 6 (-1)) (14 + 4 * j) 6 c ∨ (c = -1 ∧ S1 = si (si (si S (14 + 4 * j) 4 a) (14 + 4 * j) 5 b) (14 + 4 * j) 6 (-1)) → gi S1 (14 + 4 * j) 4 = a ∧ gi S1 (14 + 4 * j) 5 = b ∧ gi S1 (14 + 4 * j) 6 = c ∧ S1.2 = S.2 ∧ ∀ r k, ¬ (r = 14 + 4 * j ∧ 4 ≤ k ∧ k ≤ 6) → gi S1 r k = gi S r k := by
    intro a b c e
    rcases e with e | ⟨e1, e⟩
    · subst e
      refine ⟨?_, ?_, ?_, rfl, fun r k x => ?_⟩
      · rw [gi_off (by omega), gi_off (by omega), gi_off (by omega), gi_at]
      · rw [gi_off (by omega), gi_off (by omega), gi_at]
      · rw [gi_at]
      · rw [gi_off (by omega), gi_off (by omega), gi_off (by omega), gi_off (by omega)]
    · subst e
      refine ⟨?_, ?_, ?_, rfl, fun r k x => ?_⟩
      · rw [gi_off (by omega), gi_off (by omega), gi_at]
      · rw [gi_off (by omega), gi_at]
      · rw [gi_at]; exact e1.symm
      · rw [gi_off (by omega), gi_off (by omega), gi_off (by omega)]
  have p65 : ∀ (Sx : SS) (b : Int), f_Mark_place_65 j Sx b = some S1 → (∀ r k, ¬ (r = 14 + 4 * j ∧ 4 ≤ k ∧ k ≤ 6) → gi Sx r k = gi S r k) → S1 = si (si (si Sx (14 + 4 * j) 5 b) (14 + 4 * j) 6 (-1)) (14 + 4 * j) 6 (if gi S (14 + 4 * j) 2 = 1 then gi S (14 + 4 * j + 1) 0 else if gi S (14 + 4 * j) 2 = 4 then gi S (14 + 4 * j + 1) 2 else -1) ∨ ((if gi S (14 + 4 * j) 2 = 1 then gi S (14 + 4 * j + 1) 0 else if gi S (14 + 4 * j) 2 = 4 then gi S (14 + 4 * j + 1) 2 else -1) = -1 ∧ S1 = si (si Sx (14 + 4 * j) 5 b) (14 + 4 * j) 6 (-1)) := by
    intro Sx b q fx
    unfold f_Mark_place_65 at q
    have q := w_ltX q
    have q := w_ltX q
    have ek : gi (si (si Sx (14 + 4 * j) 5 b) (14 + 4 * j) 6 (-1)) (14 + 4 * j) 2 = gi S (14 + 4 * j) 2 := by rw [gi_off (by omega), gi_off (by omega)]; exact fx _ 2 (by omega)
    have en : ∀ k, gi (si (si Sx (14 + 4 * j) 5 b) (14 + 4 * j) 6 (-1)) (14 + 4 * j + 1) k = gi S (14 + 4 * j + 1) k := fun k => by rw [gi_off (by omega), gi_off (by omega)]; exact fx _ k (by omega)
    rw [ek] at q
    unfold f_Mark_place_89 f_Mark_place_104 at q
    rw [ek] at q
    by_cases c1 : gi S (14 + 4 * j) 2 = 1
    · rw [if_pos c1, if_pos c1, w_b1_is (c_num (by omega)), t0, en] at q
      left
      rw [if_pos c1]
      exact (Option.some.inj (w_ltX q)).symm
    · rw [if_neg c1, if_neg c1] at q
      by_cases c4 : gi S (14 + 4 * j) 2 = 4
      · rw [if_pos c4, w_b1_is (c_num (by omega)), t2, en] at q
        left
        rw [if_neg c1, if_pos c4]
        exact (Option.some.inj (w_ltX q)).symm
      · rw [if_neg c4] at q
        right
        rw [if_neg c1, if_neg c4]
        exact ⟨rfl, (Option.some.inj q).symm⟩
  have fin : ∀ a b : Int, f_Mark_place_65 j (si S (14 + 4 * j) 4 a) b = some S1 → a = (if gi S (14 + 4 * j) 2 = 1 then 0 else if gi S (14 + 4 * j) 2 = 5 then 0 else gi S (14 + 4 * j + 1) 0) → b = (if gi S (14 + 4 * j) 2 = 1 then -1 else if gi S (14 + 4 * j) 2 = 5 then -1 else if gi S (14 + 4 * j) 2 = 3 then gi S (14 + 4 * j + 1) 2 else gi S (14 + 4 * j + 1) 1) → PLC S1 j ∧ S1.2 = S.2 ∧ ∀ r k, ¬ (r = 14 + 4 * j ∧ 4 ≤ k ∧ k ≤ 6) → gi S1 r k = gi S r k := by
    intro a b q ha hb
    obtain ⟨k1, k2, k3, k4, k5⟩ := key a b _ (p65 _ b q (fun r k x => gi_off (by omega)))
    refine ⟨?_, k4, k5⟩
    unfold PLC
    rw [k1, k2, k3, k5 (14 + 4 * j) 2 (by omega), k5 (14 + 4 * j + 1) 0 (by omega), k5 (14 + 4 * j + 1) 1 (by omega), k5 (14 + 4 * j + 1) 2 (by omega)]
    exact ⟨ha, hb, rfl⟩
  unfold f_Mark_place at h
  by_cases c1 : gi S (14 + 4 * j) 2 = 1
  · rw [if_pos c1] at h
    unfold f_Mark_place_20 f_Mark_place_21 at h
    rw [if_pos rfl] at h
    unfold f_Mark_place_36 at h
    have h := w_ltX h
    rw [if_pos rfl] at h
    exact fin 0 (-1) h (by rw [if_pos c1]) (by rw [if_pos c1])
  · rw [if_neg c1] at h
    by_cases c5 : gi S (14 + 4 * j) 2 = 5
    · rw [if_pos c5] at h
      unfold f_Mark_place_20 f_Mark_place_21 at h
      rw [if_pos rfl] at h
      unfold f_Mark_place_36 at h
      have h := w_ltX h
      rw [if_pos rfl] at h
      exact fin 0 (-1) h (by rw [if_neg c1, if_pos c5]) (by rw [if_neg c1, if_pos c5])
    · rw [if_neg c5] at h
      unfold f_Mark_place_21 at h
      rw [if_neg (by decide), w_b1_is (c_num (by omega)), t0] at h
      unfold f_Mark_place_36 at h
      have h := w_ltX h
      rw [if_neg (by decide), gi_off (by omega)] at h
      by_cases c3 : gi S (14 + 4 * j) 2 = 3
      · rw [if_pos c3] at h
        unfold f_Mark_place_58 at h
        rw [w_b1_is (c_num (by omega)), t2, gi_off (by omega)] at h
        exact fin _ _ h (by rw [if_neg c1, if_neg c5]) (by rw [if_neg c1, if_neg c5, if_pos c3])
      · rw [if_neg c3] at h
        unfold f_Mark_place_58 at h
        rw [w_b1_is (c_num (by omega)), t1, gi_off (by omega)] at h
        exact fin _ _ h (by rw [if_neg c1, if_neg c5]) (by rw [if_neg c1, if_neg c5, if_neg c3])
theorem hand_eq {S T : SS} (hB : BF S T) (hK : TKR S T) {h m : Int} {o : Option Unit} {T1 : SS} (e1 : f_MarkReader_handNamed S = some h) (e2 : f_M_readLine T m = some (o, T1)) : f_M_readLine_40 m T h = some (o, T1) ∧ -1 ≤ h ∧ h ≤ 2 := by
  unfold f_MarkReader_handNamed at e1
  unfold f_M_readLine at e2
  obtain ⟨r1, x1, e1⟩ := w_b1E e1
  obtain ⟨t1, y1, e2⟩ := w_b1E e2
  have q1 := is_eq ⟨by decide, by decide⟩ hB hK x1 y1
  by_cases c1 : r1 = 0
  · rw [if_pos c1] at e1
    rw [if_pos (by omega)] at e2
    obtain ⟨r2, x2, e1⟩ := w_b1E e1
    obtain ⟨t2, y2, e2⟩ := w_b1E e2
    have q2 := is_eq ⟨by decide, by decide⟩ hB hK x2 y2
    by_cases c2 : r2 = 0
    · rw [if_pos c2] at e1
      rw [if_pos (by omega)] at e2
      obtain ⟨r3, x3, e1⟩ := w_b1E e1
      obtain ⟨t3, y3, e2⟩ := w_b1E e2
      have q3 := is_eq ⟨by decide, by decide⟩ hB hK x3 y3
      by_cases c3 : r3 = 0
      · rw [if_pos c3] at e1
        rw [if_pos (by omega)] at e2
        cases e1
        exact ⟨e2, by decide, by decide⟩
      · rw [if_neg c3] at e1
        rw [if_neg (by omega)] at e2
        cases e1
        exact ⟨e2, by decide, by decide⟩
    · rw [if_neg c2] at e1
      rw [if_neg (by omega)] at e2
      cases e1
      exact ⟨e2, by decide, by decide⟩
  · rw [if_neg c1] at e1
    rw [if_neg (by omega)] at e2
    cases e1
    exact ⟨e2, by decide, by decide⟩
theorem kind_eq {S T : SS} (hB : BF S T) (hK : TKR S T) {kd : Int} {m : Nat} {o : Option Unit} {T1 : SS} (e1 : f_MarkReader_kindNamed S = some kd) (e2 : f_M_readLine_150 (m : Int) T = some (o, T1)) : ∃ kk, f_M_readLine_250 (m : Int) T (gi T 192 3 - 1) kk (m : Int) = some (o, T1) ∧ -1 ≤ kd ∧ kd ≤ 5 ∧ ((kk = kd ∧ (kd ≠ 5 ∨ gi T 207 m = 0)) ∨ (kk = -1 ∧ kd = 5 ∧ gi T 207 m ≠ 0)) := by
  unfold f_MarkReader_kindNamed at e1
  unfold f_M_readLine_150 f_M_readLine_249 at e2
  obtain ⟨_, e2⟩ := w_chkE e2
  obtain ⟨r1, x1, e1⟩ := w_b1E e1
  obtain ⟨t1, y1, e2⟩ := w_b1E e2
  have q1 := is_eq ⟨by decide, by decide⟩ hB hK x1 y1
  by_cases c1 : r1 = 0
  · rw [if_pos c1] at e1
    rw [if_pos (by omega)] at e2
    obtain ⟨r2, x2, e1⟩ := w_b1E e1
    obtain ⟨t2, y2, e2⟩ := w_b1E e2
    have q2 := is_eq ⟨by decide, by decide⟩ hB hK x2 y2
    by_cases c2 : r2 = 0
    · rw [if_pos c2] at e1
      rw [if_pos (by omega)] at e2
      obtain ⟨r3, x3, e1⟩ := w_b1E e1
      obtain ⟨t3, y3, e2⟩ := w_b1E e2
      have q3 := is_eq ⟨by decide, by decide⟩ hB hK x3 y3
      by_cases c3 : r3 = 0
      · rw [if_pos c3] at e1
        rw [if_pos (by omega)] at e2
        obtain ⟨r4, x4, e1⟩ := w_b1E e1
        obtain ⟨t4, y4, e2⟩ := w_b1E e2
        have q4 := is_eq ⟨by decide, by decide⟩ hB hK x4 y4
        by_cases c4 : r4 = 0
        · rw [if_pos c4] at e1
          rw [if_pos (by omega)] at e2
          obtain ⟨r5, x5, e1⟩ := w_b1E e1
          obtain ⟨t5, y5, e2⟩ := w_b1E e2
          have q5 := is_eq ⟨by decide, by decide⟩ hB hK x5 y5
          by_cases c5 : r5 = 0
          · rw [if_pos c5] at e1
            rw [if_pos (by omega)] at e2
            obtain ⟨r6, x6, e1⟩ := w_b1E e1
            obtain ⟨t6, y6, e2⟩ := w_b1E e2
            have q6 := is_eq ⟨by decide, by decide⟩ hB hK x6 y6
            by_cases c6 : r6 = 0
            · rw [if_pos c6] at e1
              rw [if_pos (by omega)] at e2
              cases e1
              exact ⟨-1, e2, by decide, by decide, .inl ⟨rfl, .inl (by decide)⟩⟩
            · rw [if_neg c6] at e1
              rw [if_neg (by omega)] at e2
              cases e1
              obtain ⟨_, e2⟩ := w_chkE e2
              rw [Int.toNat_natCast] at e2
              by_cases c7 : gi T 207 m = 0
              · rw [if_pos c7] at e2
                exact ⟨5, e2, by decide, by decide, .inl ⟨rfl, .inr c7⟩⟩
              · rw [if_neg c7] at e2
                exact ⟨-1, e2, by decide, by decide, .inr ⟨rfl, rfl, c7⟩⟩
          · rw [if_neg c5] at e1
            rw [if_neg (by omega)] at e2
            cases e1
            exact ⟨4, e2, by decide, by decide, .inl ⟨rfl, .inl (by decide)⟩⟩
        · rw [if_neg c4] at e1
          rw [if_neg (by omega)] at e2
          cases e1
          exact ⟨3, e2, by decide, by decide, .inl ⟨rfl, .inl (by decide)⟩⟩
      · rw [if_neg c3] at e1
        rw [if_neg (by omega)] at e2
        cases e1
        exact ⟨2, e2, by decide, by decide, .inl ⟨rfl, .inl (by decide)⟩⟩
    · rw [if_neg c2] at e1
      rw [if_neg (by omega)] at e2
      cases e1
      exact ⟨1, e2, by decide, by decide, .inl ⟨rfl, .inl (by decide)⟩⟩
  · rw [if_neg c1] at e1
    rw [if_neg (by omega)] at e2
    cases e1
    exact ⟨0, e2, by decide, by decide, .inl ⟨rfl, .inl (by decide)⟩⟩
theorem TKR_keep {S T S1 T1 : SS} (h : TKR S T) (hs : ∀ k, gi S1 177 k = gi S 177 k) (ht : ∀ k, gi T1 192 k = gi T 192 k) (hb : ∀ k, gi T1 197 k = gi T 197 k) : TKR S1 T1 := by
  have eb : mby_ T1 = mby_ T := by funext j; unfold mby_; rw [hb]
  unfold TKR at h ⊢
  rw [eb, hs 4, hs 5, hs 6, ht 9, ht 10, ht 11, ht 12, ht 13]
  exact h
/-- what a line may change: class, reference -/
abbrev XLC (m r k : Nat) : Prop := r = 3 ∨ (r = 177 ∧ 4 ≤ k) ∨ r = 14 + 4 * m ∨ r = 14 + 4 * m + 1 ∨ (r = 14 + 4 * m + 2 ∧ k = 1)
abbrev XLR (m r k : Nat) : Prop := (r = 192 ∧ 10 ≤ k ∧ k ≤ 15) ∨ (199 ≤ r ∧ r ≤ 208 ∧ k = m)
/-- mark k of both sides is told alike -/
def MK (S T : SS) (k : Nat) : Prop := gi S (14 + 4 * k) 2 = gi T 199 k ∧ gi S (14 + 4 * k) 3 = gi T 200 k ∧ gi S (14 + 4 * k + 1) 0 = gi T 201 k ∧ gi S (14 + 4 * k + 1) 1 = gi T 202 k ∧ gi S (14 + 4 * k + 1) 2 = gi T 203 k ∧ WL S T k ∧ PLC S k ∧ gi S (14 + 4 * k) 9 = gi T 208 k
/-- a mark just told -/
def MF (S T : SS) (k : Nat) : Prop := gi S (14 + 4 * k) 7 = gi T 207 k ∧ gi S (14 + 4 * k) 8 = 0 ∧ gi T 205 k = 0
/-- a line: both fault alike, or both have the mark -/
def LQ (S T : SS) (m : Nat) (r : Int) (S' : SS) (o : Option Unit) (T1 : SS) : Prop :=
  ((r = 0 ∧ o = none ∧ FE S' T1) ∨ (r = 1 ∧ o = some () ∧ m < 40 ∧ AH S' T1 ∧ MK S' T1 m ∧ MF S' T1 m)) ∧ fr (XLC m) S S' ∧ fr (XLR m) T T1 ∧ LGC m S S' ∧ LGR m T T1
/-- in the midst of a line: hand and query are told -/
def LM (S0 T0 S T : SS) (m : Nat) : Prop := CX (m + 2) S ∧ MX 1 T ∧ BF S T ∧ TKR S T ∧ gi S 177 3 = gi T 192 3 ∧ (∀ k : Nat, k < m → gi S (14 + 4 * k) 2 = gi T 199 k) ∧ gi S (14 + 4 * m) 3 = gi T 200 m ∧ (gi S (14 + 4 * m + 1) 0 = gi T 201 m ∧ gi S (14 + 4 * m + 1) 1 = gi T 202 m ∧ gi S (14 + 4 * m + 1) 2 = gi T 203 m) ∧ (gi S (14 + 4 * m + 2) 1 = 0 ∧ gi T 204 m = 0) ∧ gi S (14 + 4 * m) 7 = gi T 207 m ∧ gi S (14 + 4 * m) 8 = 0 ∧ gi S (14 + 4 * m) 9 = gi T 208 m ∧ gi T 205 m = 0 ∧ fr (XLC m) S0 S ∧ fr (XLR m) T0 T ∧ S.2 = S0.2 ∧ T.2 = T0.2
theorem bf_fx {S T S1 : SS} {X : Nat → Nat → Prop} (h : BF S T) (f : fr X S S1) (h1 : ¬ X 1 1) (h2 : ∀ k, ¬ X 2 k) : BF S1 T := BF_keep h (fun k => ⟨f 1 1 h1, f 2 k (h2 k)⟩) (fun _ => ⟨rfl, rfl⟩)
theorem bf_fr {S T T1 : SS} {X : Nat → Nat → Prop} (h : BF S T) (f : fr X T T1) (h1 : ¬ X 192 9) (h2 : ∀ k, ¬ X 197 k) : BF S T1 := BF_keep h (fun _ => ⟨rfl, rfl⟩) (fun k => ⟨f 192 9 h1, f 197 k (h2 k)⟩)
theorem rl_head {S T S' T1 : SS} {m : Nat} {r : Int} {o : Option Unit} (hm : m ≤ 40) (hC : CX (m + 2) S) (hM : MX 1 T) (hB : BF S T) (hK : TKR S T) (hF : gi S 177 3 = gi T 192 3) (hkk : ∀ k : Nat, k < m → gi S (14 + 4 * k) 2 = gi T 199 k) (h1 : f_MarkReader_readLine S = some (r, S')) (h2 : f_M_readLine T (m : Int) = some (o, T1)) :
    LQ S T m r S' o T1 ∨ (m < 40 ∧ ∃ Sx Tx, f_MarkReader_readLine_61 Sx m = some (r, S') ∧ f_M_readLine_150 (m : Int) Tx = some (o, T1) ∧ LM S T Sx Tx m) := by
  have tm : ((m : Int)).toNat = m := Int.toNat_natCast m
  have sm := (hC.2.2.2.2.2 (by omega)).2
  have n9 : gi T 192 9 ≤ 2000 := by rw [← hB.1]; exact hB.2.2.1
  unfold f_MarkReader_readLine at h1
  obtain ⟨hd, e1, h1⟩ := w_b1E h1
  obtain ⟨h2, hd1, hd2⟩ := hand_eq hB hK e1 h2
  unfold f_M_readLine_40 at h2
  rw [tm] at h2
  have bad : ∀ kd, r = 0 ∧ S' = c_flt S kd → o = none ∧ T1 = f_M_wrong T kd (gi T 192 10) → LQ S T m r S' o T1 := by
    intro kd a d
    refine ⟨.inl ⟨a.1, d.1, ?_⟩, fun r k x => ?_, fun r k x => ?_, LGC_2 (by rw [a.2]; rfl), LGR_2 (by rw [d.2]; rfl)⟩
    · rw [a.2, d.2]; exact FE_flt hK.1
    · rw [a.2]; exact cf_3 S kd r k (by omega)
    · rw [d.2]; exact wf_192 T kd _ r k (by omega)
  by_cases c : hd = -1
  · rw [if_pos c] at h1 h2
    have h2 := w_ltX h2
    obtain ⟨a, t, e, h1⟩ := w_b2E h1
    obtain ⟨_, h1⟩ := w_chkE h1
    have w := c_refuse e
    cases h1
    cases h2
    exact .inl (bad 1 w ⟨rfl, rfl⟩)
  rw [if_neg c] at h1 h2
  obtain ⟨_, h1⟩ := w_chkE h1
  obtain ⟨ob, S3, eb, h1⟩ := w_b2E h1
  unfold f_Pile_blank at eb
  obtain ⟨_, eb⟩ := w_chkE eb
  obtain ⟨o4, em, eb⟩ := w_b1E eb
  unfold f_Pile_markAt at em
  by_cases cm : m = 40
  · rw [if_neg (by omega), if_neg (by omega)] at em
    cases em
    have eb := w_onN eb
    cases eb
    have h1 := w_onN h1
    obtain ⟨a, t, e, h1⟩ := w_b2E h1
    obtain ⟨_, h1⟩ := w_chkE h1
    have w := c_refuse e
    cases h1
    rw [if_pos (by omega)] at h2
    have h2 := w_ltX h2
    cases h2
    exact .inl (bad 3 w ⟨rfl, rfl⟩)
  have hm' : m < 40 := by omega
  rw [if_neg (by omega), if_pos (by omega), w_chkP (by omega)] at em
  have eo : gq S 11 (gi S 10 3 + gi S 10 4).toNat = some m := by rw [show (gi S 10 3 + gi S 10 4).toNat = m by omega]; exact hC.2.1 m hm'
  have em := Option.some.inj em
  have em : gq S 11 (gi S 10 3 + gi S 10 4).toNat = o4 := em
  rw [eo] at em
  subst em
  have eb0 := eb
  have eb := w_onS eb
  obtain ⟨_, eb⟩ := w_chkE eb
  obtain ⟨S7, e7, eb⟩ := w_b1E eb
  cases eb
  obtain ⟨d1, d2, d3, d4, d5, d6, d7, d8, d9, _⟩ := clear_is e7
  have C3 : CX (m + 2) S3 := (ok_true (ok_Mark_clear S m hC hm') S3 e7).1
  have h1 := w_onS h1
  obtain ⟨_, h1⟩ := w_chkE h1
  have h1 := w_ltX h1
  rw [if_neg (by omega)] at h2
  obtain ⟨_, h2⟩ := w_chkE h2
  have h2 := w_ltX h2
  obtain ⟨_, h2⟩ := w_chkE h2
  have h2 := w_ltX h2
  obtain ⟨_, h2⟩ := w_chkE h2
  have h2 := w_ltX h2
  obtain ⟨_, h2⟩ := w_chkE h2
  have h2 := w_ltX h2
  obtain ⟨_, h2⟩ := w_chkE h2
  have h2 := w_ltX h2
  obtain ⟨_, h2⟩ := w_chkE h2
  have h2 := w_ltX h2
  obtain ⟨_, h2⟩ := w_chkE h2
  have h2 := w_ltX h2
  -- the class's mark with its hand
  have C4 : CX (m + 2) (si S3 (14 + 4 * m) 3 hd) := cs_mk_3 C3 hm' (by omega) hd2
  have f4 : ∀ r k, ¬ (r = 14 + 4 * m ∧ (k = 2 ∨ k = 3 ∨ 7 ≤ k)) → ¬ (r = 14 + 4 * m + 1) → ¬ (r = 14 + 4 * m + 2 ∧ k = 1) → gi (si S3 (14 + 4 * m) 3 hd) r k = gi S r k := fun r k a1 a2 a3 => by rw [gi_off (by omega)]; exact d2 r k a1 a2 a3
  have l4 : (si S3 (14 + 4 * m) 3 hd).2 = S.2 := d1
  have v3 : gi (si S3 (14 + 4 * m) 3 hd) (14 + 4 * m) 3 = hd := gi_at _ _ _ _
  have v0 : gi (si S3 (14 + 4 * m) 3 hd) (14 + 4 * m + 1) 0 = -1 := by rw [gi_off (by omega)]; exact d3
  have v1 : gi (si S3 (14 + 4 * m) 3 hd) (14 + 4 * m + 1) 1 = -1 := by rw [gi_off (by omega)]; exact d4
  have v2 : gi (si S3 (14 + 4 * m) 3 hd) (14 + 4 * m + 1) 2 = -1 := by rw [gi_off (by omega)]; exact d5
  have vw : gi (si S3 (14 + 4 * m) 3 hd) (14 + 4 * m + 2) 1 = 0 := by rw [gi_off (by omega)]; exact d6
  have v7 : gi (si S3 (14 + 4 * m) 3 hd) (14 + 4 * m) 7 = 0 := by rw [gi_off (by omega)]; exact d7
  have v8 : gi (si S3 (14 + 4 * m) 3 hd) (14 + 4 * m) 8 = 0 := by rw [gi_off (by omega)]; exact d8
  have v9 : gi (si S3 (14 + 4 * m) 3 hd) (14 + 4 * m) 9 = 0 := by rw [gi_off (by omega)]; exact d9
  generalize si S3 (14 + 4 * m) 3 hd = S4 at h1 C4 f4 l4 v3 v0 v1 v2 vw v7 v8 v9
  -- the reference's
  have u0 : gi (si (si (si (si (si (si (si T 200 m hd) 201 m (-1)) 202 m (-1)) 203 m (-1)) 204 m 0) 205 m 0) 208 m 0) 200 m = hd := by
    rw [gi_off (by omega), gi_off (by omega), gi_off (by omega), gi_off (by omega), gi_off (by omega), gi_off (by omega), gi_at]
  have u1 : gi (si (si (si (si (si (si (si T 200 m hd) 201 m (-1)) 202 m (-1)) 203 m (-1)) 204 m 0) 205 m 0) 208 m 0) 201 m = -1 := by
    rw [gi_off (by omega), gi_off (by omega), gi_off (by omega), gi_off (by omega), gi_off (by omega), gi_at]
  have u2 : gi (si (si (si (si (si (si (si T 200 m hd) 201 m (-1)) 202 m (-1)) 203 m (-1)) 204 m 0) 205 m 0) 208 m 0) 202 m = -1 := by
    rw [gi_off (by omega), gi_off (by omega), gi_off (by omega), gi_off (by omega), gi_at]
  have u3 : gi (si (si (si (si (si (si (si T 200 m hd) 201 m (-1)) 202 m (-1)) 203 m (-1)) 204 m 0) 205 m 0) 208 m 0) 203 m = -1 := by
    rw [gi_off (by omega), gi_off (by omega), gi_off (by omega), gi_at]
  have u4 : gi (si (si (si (si (si (si (si T 200 m hd) 201 m (-1)) 202 m (-1)) 203 m (-1)) 204 m 0) 205 m 0) 208 m 0) 204 m = 0 := by
    rw [gi_off (by omega), gi_off (by omega), gi_at]
  have u5 : gi (si (si (si (si (si (si (si T 200 m hd) 201 m (-1)) 202 m (-1)) 203 m (-1)) 204 m 0) 205 m 0) 208 m 0) 205 m = 0 := by
    rw [gi_off (by omega), gi_at]
  have u8 : gi (si (si (si (si (si (si (si T 200 m hd) 201 m (-1)) 202 m (-1)) 203 m (-1)) 204 m 0) 205 m 0) 208 m 0) 208 m = 0 := gi_at _ _ _ _
  have fu : ∀ r k, ¬ (200 ≤ r ∧ r ≤ 208 ∧ k = m) → gi (si (si (si (si (si (si (si T 200 m hd) 201 m (-1)) 202 m (-1)) 203 m (-1)) 204 m 0) 205 m 0) 208 m 0) r k = gi T r k := fun r k a => by
    rw [gi_off (by omega), gi_off (by omega), gi_off (by omega), gi_off (by omega), gi_off (by omega), gi_off (by omega), gi_off (by omega)]
  have Mu : MX 1 (si (si (si (si (si (si (si T 200 m hd) 201 m (-1)) 202 m (-1)) 203 m (-1)) 204 m 0) 205 m 0) 208 m 0) := ms_208 (ms_205 (ms_204 (ms_203 (ms_202 (ms_201 (ms_200 hM (by omega) hd2) (by decide) (by decide)) (by decide) (by decide)) (by decide) (by decide)) (by decide) (by decide)) (by decide) (by decide)) (by decide) (by decide)
  have lu : (si (si (si (si (si (si (si T 200 m hd) 201 m (-1)) 202 m (-1)) 203 m (-1)) 204 m 0) 205 m 0) 208 m 0).2 = T.2 := rfl
  generalize si (si (si (si (si (si (si T 200 m hd) 201 m (-1)) 202 m (-1)) 203 m (-1)) 204 m 0) 205 m 0) 208 m 0 = T7 at h2 u0 u1 u2 u3 u4 u5 u8 fu Mu lu
  obtain ⟨T8, e8, h2⟩ := w_b1E h2
  have K7 : TKR S T7 := TKR_keep hK (fun _ => rfl) (fun k => fu 192 k (by omega)) (fun k => fu 197 k (by omega))
  obtain ⟨A8, f8⟩ := TKR_scan (by rw [fu 192 9 (by omega)]; exact n9) K7 e8
  have l8 := lq_scan T7 T8 e8
  have M8 : MX 1 T8 := (ok_true (ok_M_scan T7 Mu) T8 e8).1
  have B8 : BF S4 T8 := BF_keep hB (fun k => ⟨f4 1 1 (by omega) (by omega) (by omega), f4 2 k (by omega) (by omega) (by omega)⟩) (fun k => ⟨by rw [f8 192 9 (by omega)]; exact fu 192 9 (by omega), by rw [f8 197 k (by omega)]; exact fu 197 k (by omega)⟩)
  have A4 : AH S4 T8 := by
    unfold AH at A8 ⊢
    rw [f4 177 4 (by omega) (by omega) (by omega)]; exact A8
  obtain ⟨S12, e12, h1⟩ := w_b1E h1
  obtain ⟨K12, g12⟩ := AH_read B8 A4 e12
  have l12 := lq_token S4 S12 e12
  have C12 : CX (m + 2) S12 := (ok_true (ok_MarkReader_readToken S4 C4 (by omega)) S12 e12).1
  have B12 : BF S12 T8 := BF_keep B8 (fun k => ⟨g12.1 1 1 (by omega), g12.1 2 k (by omega)⟩) (fun _ => ⟨rfl, rfl⟩)
  obtain ⟨rq, eq1, h1⟩ := w_b1E h1
  obtain ⟨tq, eq2, h2⟩ := w_b1E h2
  have qq := is_eq ⟨by decide, by decide⟩ B12 K12 eq1 eq2
  obtain ⟨_, h2⟩ := w_chkE h2
  obtain ⟨_, h2⟩ := w_chkE h2
  have h2 := w_ltX h2
  obtain ⟨_, h2⟩ := w_chkE h2
  rw [gi_at] at h2
  have M13 : MX 1 (si T8 207 m tq) := ms_207 M8 (by omega) (by omega)
  have f13 : ∀ r k, ¬ (r = 207 ∧ k = m) → gi (si T8 207 m tq) r k = gi T8 r k := fun r k a => gi_off a
  have a13 : gi (si T8 207 m tq) 207 m = tq := gi_at _ _ _ _
  have l13 : (si T8 207 m tq).2 = T8.2 := rfl
  generalize si T8 207 m tq = T13 at h2 M13 f13 a13 l13
  have K13 : TKR S12 T13 := TKR_keep K12 (fun _ => rfl) (fun k => f13 192 k (by omega)) (fun k => f13 197 k (by omega))
  have B13 : BF S12 T13 := BF_keep B12 (fun _ => ⟨rfl, rfl⟩) (fun k => ⟨f13 192 9 (by omega), f13 197 k (by omega)⟩)
  -- frames of the whole head
  have mk : ∀ Sx Tx, CX (m + 2) Sx → MX 1 Tx → BF Sx Tx → TKR Sx Tx → (∀ r k, ¬ (r = 177 ∧ 4 ≤ k) → ¬ (r = 14 + 4 * m ∧ k = 7) → gi Sx r k = gi S4 r k) → gi Sx (14 + 4 * m) 7 = tq → fr XSN T13 Tx → Sx.2 = S4.2 → Tx.2 = T13.2 → LM S T Sx Tx m := by
    intro Sx Tx x1 x2 x3 x4 fx x7 ft lx lt
    have gT : ∀ r k, ¬ (r = 192 ∧ 10 ≤ k ∧ k ≤ 13) → ¬ (r = 207 ∧ k = m) → gi Tx r k = gi T7 r k := fun r k a1 a2 => by rw [ft r k (by omega), f13 r k a2, f8 r k (by omega)]
    refine ⟨x1, x2, x3, x4, ?_, fun k hk => ?_, ?_, ⟨?_, ?_, ?_⟩, ⟨?_, ?_⟩, ?_, ?_, ?_, ?_, fun r k a => ?_, fun r k a => ?_, lx.trans l4, ((lt.trans l13).trans l8).trans lu⟩
    · rw [fx 177 3 (by omega) (by omega), f4 177 3 (by omega) (by omega) (by omega), gT 192 3 (by omega) (by omega), fu 192 3 (by omega)]; exact hF
    · rw [fx _ 2 (by omega) (by omega), f4 _ 2 (by omega) (by omega) (by omega), gT 199 k (by omega) (by omega), fu 199 k (by omega)]; exact hkk k hk
    · rw [fx _ 3 (by omega) (by omega), v3, gT 200 m (by omega) (by omega), u0]
    · rw [fx _ 0 (by omega) (by omega), v0, gT 201 m (by omega) (by omega), u1]
    · rw [fx _ 1 (by omega) (by omega), v1, gT 202 m (by omega) (by omega), u2]
    · rw [fx _ 2 (by omega) (by omega), v2, gT 203 m (by omega) (by omega), u3]
    · rw [fx _ 1 (by omega) (by omega), vw]
    · rw [gT 204 m (by omega) (by omega), u4]
    · rw [x7, ft 207 m (by omega), a13]
    · rw [fx _ 8 (by omega) (by omega), v8]
    · rw [fx _ 9 (by omega) (by omega), v9, gT 208 m (by omega) (by omega), u8]
    · rw [gT 205 m (by omega) (by omega), u5]
    · rw [fx r k (by omega) (by omega)]; exact f4 r k (by omega) (by omega) (by omega)
    · rw [gT r k (by omega) (by omega)]; exact fu r k (by omega)
  right
  refine ⟨hm', ?_⟩
  by_cases cq : rq = 0
  · rw [if_pos cq] at h1
    rw [if_pos (by omega)] at h2
    exact ⟨S12, T13, h1, h2, mk S12 T13 C12 M13 B13 K13 (fun r k a1 a2 => g12.1 r k (by omega)) (by rw [g12.1 _ 7 (by omega), v7]; omega) (fr_refl _ _) l12 rfl⟩
  · rw [if_neg cq] at h1
    rw [if_neg (by omega)] at h2
    have h1 := w_ltX h1
    obtain ⟨S17, e17, h1⟩ := w_b1E h1
    obtain ⟨T15, e15, h2⟩ := w_b1E h2
    have C16 : CX (m + 2) (si S12 (14 + 4 * m) 7 1) := cs_mk_7 C12 hm' (by decide) (by decide)
    have f16 : ∀ r k, ¬ (r = 14 + 4 * m ∧ k = 7) → gi (si S12 (14 + 4 * m) 7 1) r k = gi S12 r k := fun r k a => gi_off a
    have a16 : gi (si S12 (14 + 4 * m) 7 1) (14 + 4 * m) 7 = 1 := gi_at _ _ _ _
    have l16 : (si S12 (14 + 4 * m) 7 1).2 = S12.2 := rfl
    generalize si S12 (14 + 4 * m) 7 1 = S16 at h1 e17 C16 f16 a16 l16
    obtain ⟨A15, f15⟩ := TKR_scan (by rw [f13 192 9 (by omega), f8 192 9 (by omega), fu 192 9 (by omega)]; exact n9) K13 e15
    have M15 : MX 1 T15 := (ok_true (ok_M_scan T13 M13) T15 e15).1
    have A16 : AH S16 T15 := by
      unfold AH at A15 ⊢
      rw [f16 177 4 (by omega)]; exact A15
    have B16 : BF S16 T15 := BF_keep B13 (fun k => ⟨f16 1 1 (by omega), f16 2 k (by omega)⟩) (fun k => ⟨f15 192 9 (by omega), f15 197 k (by omega)⟩)
    obtain ⟨K17, g17⟩ := AH_read B16 A16 e17
    have C17 : CX (m + 2) S17 := (ok_true (ok_MarkReader_readToken S16 C16 (by omega)) S17 e17).1
    have B17 : BF S17 T15 := BF_keep B16 (fun k => ⟨g17.1 1 1 (by omega), g17.1 2 k (by omega)⟩) (fun _ => ⟨rfl, rfl⟩)
    exact ⟨S17, T15, h1, h2, mk S17 T15 C17 M15 B17 K17 (fun r k a1 a2 => by rw [g17.1 r k (by omega), f16 r k a2]; exact g12.1 r k (by omega)) (by rw [g17.1 _ 7 (by omega), a16]; omega) f15 (((lq_token S16 S17 e17).trans l16).trans l12) (lq_scan T13 T15 e15)⟩
/-- behind the numbers: row and gap, words, the line's end -/
theorem rl_tail {S0 T0 S T S' T1 : SS} {m : Nat} {r : Int} {o : Option Unit} (hm : m < 40) (hB : BF S T) (hA : AH S T) (hk : gi S (14 + 4 * m) 2 = gi T 199 m) (h3 : gi S (14 + 4 * m) 3 = gi T 200 m) (hn : gi S (14 + 4 * m + 1) 0 = gi T 201 m ∧ gi S (14 + 4 * m + 1) 1 = gi T 202 m ∧ gi S (14 + 4 * m + 1) 2 = gi T 203 m) (hw : gi S (14 + 4 * m + 2) 1 = 0 ∧ gi T 204 m = 0) (h7 : gi S (14 + 4 * m) 7 = gi T 207 m) (h8 : gi S (14 + 4 * m) 8 = 0) (h9 : gi S (14 + 4 * m) 9 = gi T 208 m) (h5 : gi T 205 m = 0) (f0 : fr (XLC m) S0 S) (g0 : fr (XLR m) T0 T) (l0 : S.2 = S0.2) (k0 : T.2 = T0.2)
    (h1 : w_b1 (f_Mark_place S m) (fun S4_z => w_b1 (f_MarkReader_readToken S4_z) (fun S6_z => (if gi S6_z (14 + 4 * m) 2 = 1 then f_MarkReader_readLine_132 S6_z m else (if gi S6_z (14 + 4 * m) 2 = 2 then f_MarkReader_readLine_132 S6_z m else w_b1 (f_MarkReader_isToken S6_z 12) (fun r10_z => (if r10_z = 0 then w_b2 (f_MarkReader_refuse S6_z 1) (fun r13_z S12_z => (if r13_z = 0 then some (0, S12_z) else some (1, S12_z))) else some (1, S6_z))))))) = some (r, S')) (h2 : f_M_readLine_480 (m : Int) T = some (o, T1)) : LQ S0 T0 m r S' o T1 := by
  have tm : ((m : Int)).toNat = m := Int.toNat_natCast m
  have n9 : gi T 192 9 ≤ 2000 := by rw [← hB.1]; exact hB.2.2.1
  obtain ⟨S4, e4, h1⟩ := w_b1E h1
  obtain ⟨p1, p2, p3⟩ := place_is e4
  obtain ⟨S6, e6, h1⟩ := w_b1E h1
  have A4 : AH S4 T := by
    unfold AH at hA ⊢
    rw [p3 177 4 (by omega)]; exact hA
  have B4 : BF S4 T := BF_keep hB (fun k => ⟨p3 1 1 (by omega), p3 2 k (by omega)⟩) (fun _ => ⟨rfl, rfl⟩)
  obtain ⟨K6, g6⟩ := AH_read B4 A4 e6
  have l6 := lq_token S4 S6 e6
  have B6 : BF S6 T := BF_keep B4 (fun k => ⟨g6.1 1 1 (by omega), g6.1 2 k (by omega)⟩) (fun _ => ⟨rfl, rfl⟩)
  have c6 : ∀ r k, ¬ (r = 177 ∧ 4 ≤ k) → ¬ (r = 14 + 4 * m ∧ 4 ≤ k ∧ k ≤ 6) → gi S6 r k = gi S r k := fun r k a1 a2 => by rw [g6.1 r k (by omega)]; exact p3 r k a2
  have P6 : PLC S6 m := by
    unfold PLC at p1 ⊢
    rw [g6.1 (14 + 4 * m) 4 (by omega), g6.1 (14 + 4 * m) 5 (by omega), g6.1 (14 + 4 * m) 6 (by omega), g6.1 (14 + 4 * m) 2 (by omega), g6.1 (14 + 4 * m + 1) 0 (by omega), g6.1 (14 + 4 * m + 1) 1 (by omega), g6.1 (14 + 4 * m + 1) 2 (by omega)]
    exact p1
  have f6 : fr (XLC m) S0 S6 := fun r k a => by rw [c6 r k (by omega) (by omega)]; exact f0 r k a
  have L6 : S6.2 = S0.2 := (l6.trans p2).trans l0
  have W6 : WL S6 T m := ⟨by rw [c6 _ 1 (by omega) (by omega), hw.1, hw.2], by omega, by omega, fun k hk => by omega⟩
  -- both have the mark
  have good : ∀ Sx Tx, (∀ r k, ¬ (r = 3 ∨ (r = 177 ∧ 4 ≤ k) ∨ (r = 14 + 4 * m + 2 ∧ k = 1)) → gi Sx r k = gi S6 r k) → (∀ r k, ¬ ((r = 192 ∧ 10 ≤ k ∧ k ≤ 15) ∨ (r = 204 ∧ k = m)) → gi Tx r k = gi T r k) → WL Sx Tx m → MK Sx Tx m ∧ MF Sx Tx m := by
    intro Sx Tx fx ft wl
    refine ⟨⟨?_, ?_, ?_, ?_, ?_, wl, ?_, ?_⟩, ?_, ?_, ?_⟩
    · rw [fx _ 2 (by omega), c6 _ 2 (by omega) (by omega), ft 199 m (by omega)]; exact hk
    · rw [fx _ 3 (by omega), c6 _ 3 (by omega) (by omega), ft 200 m (by omega)]; exact h3
    · rw [fx _ 0 (by omega), c6 _ 0 (by omega) (by omega), ft 201 m (by omega)]; exact hn.1
    · rw [fx _ 1 (by omega), c6 _ 1 (by omega) (by omega), ft 202 m (by omega)]; exact hn.2.1
    · rw [fx _ 2 (by omega), c6 _ 2 (by omega) (by omega), ft 203 m (by omega)]; exact hn.2.2
    · unfold PLC at P6 ⊢
      rw [fx (14 + 4 * m) 4 (by omega), fx (14 + 4 * m) 5 (by omega), fx (14 + 4 * m) 6 (by omega), fx (14 + 4 * m) 2 (by omega), fx (14 + 4 * m + 1) 0 (by omega), fx (14 + 4 * m + 1) 1 (by omega), fx (14 + 4 * m + 1) 2 (by omega)]
      exact P6
    · rw [fx _ 9 (by omega), c6 _ 9 (by omega) (by omega), ft 208 m (by omega)]; exact h9
    · rw [fx _ 7 (by omega), c6 _ 7 (by omega) (by omega), ft 207 m (by omega)]; exact h7
    · rw [fx _ 8 (by omega), c6 _ 8 (by omega) (by omega)]; exact h8
    · rw [ft 205 m (by omega)]; exact h5
  have bad : r = 0 ∧ S' = c_flt S6 1 → o = none ∧ T1 = f_M_wrong T 1 (gi T 192 10) → LQ S0 T0 m r S' o T1 := by
    intro a d
    refine ⟨.inl ⟨a.1, d.1, ?_⟩, fun r k x => ?_, fun r k x => ?_, LGC_2 (by rw [a.2]; exact L6), LGR_2 (by rw [d.2]; exact k0)⟩
    · rw [a.2, d.2]; exact FE_flt K6.1
    · rw [a.2, cf_3 S6 1 r k (by omega)]; exact f6 r k x
    · rw [d.2, wf_192 T 1 _ r k (by omega)]; exact g0 r k x
  have ek : gi S6 (14 + 4 * m) 2 = gi T 199 m := by rw [c6 _ 2 (by omega) (by omega)]; exact hk
  unfold f_M_readLine_480 at h2
  rw [tm] at h2
  obtain ⟨_, h2⟩ := w_chkE h2
  have words : f_MarkReader_readLine_132 S6 m = some (r, S') → f_M_readLine_500 (m : Int) T = some (o, T1) → LQ S0 T0 m r S' o T1 := by
    intro q1 q2
    unfold f_MarkReader_readLine_132 at q1
    obtain ⟨x, ex, q1⟩ := w_b1E q1
    unfold f_M_readLine_500 at q2
    obtain ⟨o', T1', e2, h3⟩ : ∃ o' T1', f_M_readWords T (m : Int) = some (o', T1') ∧ ((o' = none ∧ o = none ∧ T1 = T1') ∨ (∃ u, o' = some u ∧ f_M_readLine_505 (m : Int) T1' = some (o, T1))) := by
      rcases w_b3E q2 with ⟨v, T2, e2, q2⟩ | ⟨T2, e2, q2⟩
      · exact ⟨_, _, e2, .inr ⟨v, rfl, q2⟩⟩
      · cases q2; exact ⟨_, _, e2, .inl ⟨rfl, rfl, rfl⟩⟩
    unfold f_M_readWords at e2
    obtain ⟨y, ey, e2⟩ := w_b1E e2
    have qe := is_eq ⟨by decide, by decide⟩ B6 K6 ex ey
    by_cases c : x = 0
    · rw [if_pos c] at q1
      rw [if_pos (by omega)] at e2
      have e2 := w_ltX e2
      cases e2
      obtain ⟨a, t, e, q1⟩ := w_b2E q1
      obtain ⟨_, q1⟩ := w_chkE q1
      have w := c_refuse e
      cases q1
      rcases h3 with z | ⟨u, z, _⟩
      · exact bad w ⟨z.2.1, z.2.2⟩
      · cases z
    · rw [if_neg c] at q1
      rw [if_neg (by omega)] at e2
      obtain ⟨a, t, e, q1⟩ := w_b2E q1
      obtain ⟨_, q1⟩ := w_chkE q1
      cases q1
      have e : f_MarkReader_readWords_2 m FU S6 0 = some (r, S') := e
      obtain ⟨k1, k2, k3, k4, k5, _⟩ := id K6
      have R := rw_sim hm FU FU S6 T 0 r S' o' o T1' T1 B6 k2 (by omega) k5 W6 hw.2.symm e e2 h3
      rcases R with ⟨y1, y2, y3, y4, y5, y6, y7⟩ | ⟨y1, y2, y3, y4, y5, y6, y7, y8⟩
      · exact ⟨.inl ⟨y1, y2, y3⟩, fr_trans f6 (fun r k a => y4 r k (by omega)), fr_trans g0 (fun r k a => y5 r k (by omega)), LGC_t (LGC_2 L6) y6, LGR_t (LGR_2 k0) y7⟩
      · have G := good S' T1 (fun r k a => y5 r k (by omega)) (fun r k a => y6 r k (by omega)) y4
        exact ⟨.inr ⟨y1, y2, hm, y3, G.1, G.2⟩, fr_trans f6 (fun r k a => y5 r k (by omega)), fr_trans g0 (fun r k a => y6 r k (by omega)), LGC_t (LGC_2 L6) y7, LGR_t (LGR_2 k0) y8⟩
  rw [ek] at h1
  by_cases c1 : gi T 199 m = 1
  · rw [if_pos c1] at h1 h2
    exact words h1 h2
  rw [if_neg c1] at h1 h2
  obtain ⟨_, h2⟩ := w_chkE h2
  by_cases c2 : gi T 199 m = 2
  · rw [if_pos c2] at h1 h2
    exact words h1 h2
  rw [if_neg c2] at h1 h2
  unfold f_M_readLine_505 at h2
  obtain ⟨x, ex, h1⟩ := w_b1E h1
  obtain ⟨y, ey, h2⟩ := w_b1E h2
  have qe := is_eq ⟨by decide, by decide⟩ B6 K6 ex ey
  by_cases c : x = 0
  · rw [if_pos c] at h1
    rw [if_pos (by omega)] at h2
    have h2 := w_ltX h2
    cases h2
    obtain ⟨a, t, e, h1⟩ := w_b2E h1
    have w := c_refuse e
    rw [if_pos w.1] at h1
    cases h1
    exact bad ⟨rfl, w.2⟩ ⟨rfl, rfl⟩
  · rw [if_neg c] at h1
    rw [if_neg (by omega)] at h2
    obtain ⟨Td, ed, h2⟩ := w_b1E h2
    cases h1
    cases h2
    obtain ⟨ad, fd⟩ := TKR_scan n9 K6 ed
    have ld := lq_scan T T1 ed
    have G := good S' T1 (fun r k a => rfl) (fun r k a => fd r k (by omega)) (WL_keep W6 rfl (fd 204 m (by omega)) (fun _ => rfl) (fun k => gl_2 ld _ k))
    exact ⟨.inr ⟨rfl, rfl, hm, ad, G.1, G.2⟩, f6, fr_trans g0 (fun r k a => fd r k (by omega)), LGC_2 L6, LGR_2 (ld.trans k0)⟩
theorem lq_nums (S0 : SS) (m : Nat) : ∀ (n : Nat) (S : SS) (told i : Int), S.2 = S0.2 → pc (f_MarkReader_readNumbers_33 m n S told i) (fun u => u.2.2 = S0.2) := by
  intro n
  induction n with
  | zero => intro S told i _ r e; exact absurd e (by simp [f_MarkReader_readNumbers_33])
  | succ n ih =>
    intro S told i h
    show pc (f_MarkReader_readNumbers_33_b m (f_MarkReader_readNumbers_33 m n) S told i) _
    have rf : ∀ (S' : SS) (kd : Int), S'.2 = S0.2 → pc (f_MarkReader_refuse S' kd) (fun u => u.2.2 = S0.2) := fun S' kd hs u e => by
      obtain ⟨a, b⟩ := u
      have w := c_refuse e
      show b.2 = S0.2
      rw [w.2]; exact hs
    unfold f_MarkReader_readNumbers_33_b f_MarkReader_readNumbers_63
    refine pc_if (fun _ => pc_some h) (fun _ => pc_b1 (lq_token S) (fun S1 h1 => ?_))
    have h1' : S1.2 = S0.2 := h1.trans h
    refine pc_if (fun _ => pc_chk (fun _ => pc_if (fun _ => pf_b1 (fun v => pc_b1 (R := fun S9 => S9.2 = S0.2) ?_ (fun S9 h9 => pf_b1 (fun x => pc_if (fun _ => pc_b2 (rf S9 2 h9) (fun a t ht => pc_chk (fun _ => pc_some ht))) (fun _ => pc_chk (fun _ => ih S9 told _ h9)))))) (fun _ => pc_b2 (rf S1 1 h1') (fun a t ht => pc_chk (fun _ => pc_some ht))))) (fun _ => pc_b2 (rf S1 1 h1') (fun a t ht => pc_chk (fun _ => pc_some ht)))
    unfold f_Mark_setNumber
    repeat' first | with_reducible exact pc_some h1' | with_reducible refine pc_if (fun _ => ?_) (fun _ => ?_) | with_reducible refine pc_chk (fun _ => ?_) | with_reducible refine lq_lt h1' (fun S9 h9 => pc_some h9)
/-- a line of both sides -/
theorem rl_sim {S T S' T1 : SS} {m : Nat} {r : Int} {o : Option Unit} (hm : m ≤ 40) (hC : CX (m + 2) S) (hM : MX 1 T) (hB : BF S T) (hK : TKR S T) (hF : gi S 177 3 = gi T 192 3) (hkk : ∀ k : Nat, k < m → gi S (14 + 4 * k) 2 = gi T 199 k) (h1 : f_MarkReader_readLine S = some (r, S')) (h2 : f_M_readLine T (m : Int) = some (o, T1)) : LQ S T m r S' o T1 := by
  have tm : ((m : Int)).toNat = m := Int.toNat_natCast m
  rcases rl_head hm hC hM hB hK hF hkk h1 h2 with q | ⟨hm', Sx, Tx, h1, h2, x1, x2, x3, x4, x5, x6, x7, x8, x9, x10, x11, x12, x13, x14, x15, x16, x17⟩
  · exact q
  have n9 : gi Tx 192 9 ≤ 2000 := by rw [← x3.1]; exact x3.2.2.1
  unfold f_MarkReader_readLine_61 at h1
  obtain ⟨kd, ek, h1⟩ := w_b1E h1
  obtain ⟨kk, h2, k1, k2, k3⟩ := kind_eq x3 x4 ek h2
  have h1 := w_ltX h1
  rw [gi_at] at h1
  have c7 : gi (si Sx (14 + 4 * m) 2 kd) (14 + 4 * m) 7 = gi Tx 207 m := by rw [gi_off (by omega)]; exact x10
  rw [c7] at h1
  have fc : ∀ r k, ¬ (r = 14 + 4 * m ∧ k = 2) → gi (si Sx (14 + 4 * m) 2 kd) r k = gi Sx r k := fun r k a => gi_off a
  have ac : gi (si Sx (14 + 4 * m) 2 kd) (14 + 4 * m) 2 = kd := gi_at _ _ _ _
  have Cc : CX (m + 2) (si Sx (14 + 4 * m) 2 kd) := cs_mk_2 x1 hm' k1 k2
  have lc : (si Sx (14 + 4 * m) 2 kd).2 = Sx.2 := rfl
  generalize si Sx (14 + 4 * m) 2 kd = Sc at h1 fc ac Cc lc c7
  unfold f_M_readLine_250 at h2
  rw [tm] at h2
  obtain ⟨_, h2⟩ := w_chkE h2
  have h2 := w_ltX h2
  obtain ⟨_, h2⟩ := w_chkE h2
  rw [gi_at] at h2
  have bk : -1 ≤ kk ∧ kk ≤ 5 := by rcases k3 with q | q <;> omega
  have ft : ∀ r k, ¬ (r = 199 ∧ k = m) → gi (si Tx 199 m kk) r k = gi Tx r k := fun r k a => gi_off a
  have at1 : gi (si Tx 199 m kk) 199 m = kk := gi_at _ _ _ _
  have Mt : MX 1 (si Tx 199 m kk) := ms_199 x2 bk.1 bk.2
  have lt1 : (si Tx 199 m kk).2 = Tx.2 := rfl
  generalize si Tx 199 m kk = Tt at h2 ft at1 Mt lt1
  have Kt : TKR Sc Tt := TKR_keep x4 (fun k => fc 177 k (by omega)) (fun k => ft 192 k (by omega)) (fun k => ft 197 k (by omega))
  have fS : fr (XLC m) S Sc := fun r k a => by rw [fc r k (by omega)]; exact x14 r k a
  have fT : fr (XLR m) T Tt := fun r k a => by rw [ft r k (by omega)]; exact x15 r k a
  have lS : Sc.2 = S.2 := lc.trans x16
  have lT : Tt.2 = T.2 := lt1.trans x17
  by_cases cb : kk = -1
  · rw [if_pos cb] at h2
    have h2 := w_ltX h2
    cases h2
    have e92 : f_MarkReader_readLine_92 Sc = some (r, S') := by
      by_cases c1 : kd = -1
      · rw [if_pos c1] at h1; exact h1
      · rw [if_neg c1] at h1
        rcases k3 with q | q
        · exact absurd (q.1.symm.trans cb) c1
        · rw [if_neg q.2.2, if_pos q.2.1] at h1; exact h1
    unfold f_MarkReader_readLine_92 at e92
    obtain ⟨a, t, e, e92⟩ := w_b2E e92
    obtain ⟨_, e92⟩ := w_chkE e92
    have w := c_refuse e
    cases e92
    refine ⟨.inl ⟨w.1, rfl, ?_⟩, fun r k x => ?_, fun r k x => ?_, LGC_2 (by rw [w.2]; exact lS), LGR_2 lT⟩
    · rw [w.2]; exact FE_flt Kt.1
    · rw [w.2, cf_3 Sc 1 r k (by omega)]; exact fS r k x
    · rw [wf_192 Tt 1 _ r k (by omega)]; exact fT r k x
  rw [if_neg cb] at h2
  have ekk : kk = kd ∧ (kd ≠ 5 ∨ gi Tx 207 m = 0) := by
    rcases k3 with q | q
    · exact q
    · exact absurd q.1 cb
  have e98 : f_MarkReader_readLine_98 Sc m = some (r, S') := by
    rw [if_neg (by omega)] at h1
    by_cases c0 : gi Tx 207 m = 0
    · rw [if_pos c0] at h1; exact h1
    · rw [if_neg c0, if_neg (by omega)] at h1; exact h1
  clear h1
  obtain ⟨T3, e3, h2⟩ := w_b1E h2
  obtain ⟨A3, f3⟩ := TKR_scan (by rw [ft 192 9 (by omega)]; exact n9) Kt e3
  have M3 : MX 1 T3 := (ok_true (ok_M_scan Tt Mt) T3 e3).1
  have l3 := lq_scan Tt T3 e3
  have B3 : BF Sc T3 := BF_keep x3 (fun k => ⟨fc 1 1 (by omega), fc 2 k (by omega)⟩) (fun k => ⟨by rw [f3 192 9 (by omega)]; exact ft 192 9 (by omega), by rw [f3 197 k (by omega)]; exact ft 197 k (by omega)⟩)
  have gT : ∀ r k, ¬ (r = 192 ∧ 10 ≤ k ∧ k ≤ 13) → ¬ (r = 199 ∧ k = m) → gi T3 r k = gi Tx r k := fun r k a1 a2 => by rw [f3 r k (by omega)]; exact ft r k a2
  have e199 : gi T3 199 m = kd := by rw [f3 199 m (by omega), at1]; exact ekk.1
  have F3 : gi Sc 177 3 = gi T3 192 3 := by rw [fc 177 3 (by omega), gT 192 3 (by omega) (by omega)]; exact x5
  have N3 : gi Tx 192 3 = gi T3 192 3 := (gT 192 3 (by omega) (by omega)).symm
  have kl : ∀ k : Nat, k < m → gi Sc (14 + 4 * k) 2 = gi T3 199 k := fun k hk => by rw [fc _ 2 (by omega), gT 199 k (by omega) (by omega)]; exact x6 k hk
  have nn : gi Sc (14 + 4 * m + 1) 0 = gi T3 201 m ∧ gi Sc (14 + 4 * m + 1) 1 = gi T3 202 m ∧ gi Sc (14 + 4 * m + 1) 2 = gi T3 203 m := by
    rw [fc _ 0 (by omega), fc _ 1 (by omega), fc _ 2 (by omega), gT 201 m (by omega) (by omega), gT 202 m (by omega) (by omega), gT 203 m (by omega) (by omega)]; exact x8
  unfold f_MarkReader_readLine_98 at e98
  obtain ⟨rn, Sn, en, e98⟩ := w_b2E e98
  unfold f_MarkReader_readNumbers f_MarkReader_readNumbers_30 at en
  rw [ac, if_neg (by omega), if_pos (by omega)] at en
  obtain ⟨_, en⟩ := w_chkE en
  have ln : Sn.2 = Sc.2 := lq_nums Sc m FU Sc _ 0 rfl _ en
  rw [N3] at h2
  rw [e199] at h2
  obtain ⟨_, h2⟩ := w_chkE h2
  have Q : NQ Sc T3 (m + 2) m rn Sn o T1 (f_M_readLine_480 (m : Int)) := by
    have : kd = 0 ∨ kd = 1 ∨ kd = 2 ∨ kd = 3 ∨ kd = 4 ∨ kd = 5 := by omega
    rcases this with e | e | e | e | e | e
    · subst e
      rw [if_pos rfl] at h2
      exact nq_two Cc (by omega) hm' M3 B3 A3 F3 (.inl ac) nn.2.2 _ en h2
    · subst e
      rw [if_neg (by decide), if_pos rfl] at h2
      exact nq_put Cc (by omega) hm' M3 B3 A3 F3 ac nn.2.1 nn.2.2 _ en h2
    · subst e
      rw [if_neg (by decide), if_neg (by decide), if_pos rfl] at h2
      exact nq_two Cc (by omega) hm' M3 B3 A3 F3 (.inr ac) nn.2.2 _ en h2
    · subst e
      rw [if_neg (by decide), if_neg (by decide), if_neg (by decide), if_pos rfl] at h2
      obtain ⟨_, h2⟩ := w_chkE h2
      exact nq_turn Cc (by omega) hm' M3 B3 A3 F3 ac _ en h2
    · subst e
      rw [if_neg (by decide), if_neg (by decide), if_neg (by decide), if_neg (by decide), if_pos rfl] at h2
      exact nq_move Cc (by omega) hm' M3 B3 A3 F3 ac _ en h2
    · subst e
      rw [if_neg (by decide), if_neg (by decide), if_neg (by decide), if_neg (by decide), if_neg (by decide)] at h2
      exact nq_stet Cc hm' M3 B3 A3 ac kl nn.2.1 nn.2.2 en h2
  rcases Q with ⟨y1, y2, y3, y4, y5, y6⟩ | ⟨T', y1, y2, y3, y4, y5, y6, y7, y8, y9, y10⟩
  · rw [if_pos y1] at e98
    cases e98
    exact ⟨.inl ⟨rfl, y2, y3⟩, fr_trans fS (fun r k a => y4 r k (by omega)), fr_trans fT (fun r k a => by rw [y5 r k (by omega)]; exact f3 r k (by omega)), LGC_2 (ln.trans lS), LGR_2 ((y6.trans l3).trans lT)⟩
  · rw [if_neg (by omega)] at e98
    have gk : ∀ r k, ¬ (r = 192 ∧ 10 ≤ k ∧ k ≤ 15) → ¬ (201 ≤ r ∧ r ≤ 203 ∧ k = m) → gi T' r k = gi T3 r k := fun r k a1 a2 => y9 r k (by omega)
    have ck : ∀ r k, ¬ (r = 3 ∨ (r = 177 ∧ 4 ≤ k) ∨ r = 14 + 4 * m + 1) → gi Sn r k = gi Sc r k := fun r k a => y8 r k a
    refine rl_tail (S0 := S) (T0 := T) (S := Sn) (T := T') hm' (BF_keep B3 (fun k => ⟨ck 1 1 (by omega), ck 2 k (by omega)⟩) (fun k => ⟨gk 192 9 (by omega) (by omega), gk 197 k (by omega) (by omega)⟩)) y4 ?_ ?_ ⟨y5, y6, y7⟩ ⟨?_, ?_⟩ ?_ ?_ ?_ ?_ (fr_trans fS (fun r k a => y8 r k (by omega))) (fr_trans fT (fun r k a => by rw [y9 r k (by omega)]; exact f3 r k (by omega))) (ln.trans lS) ((y10.trans l3).trans lT) e98 y2
    · rw [ck _ 2 (by omega), ac, gk 199 m (by omega) (by omega)]; exact e199.symm
    · rw [ck _ 3 (by omega), fc _ 3 (by omega), gk 200 m (by omega) (by omega), gT 200 m (by omega) (by omega)]; exact x7
    · rw [ck _ 1 (by omega), fc _ 1 (by omega)]; exact x9.1
    · rw [gk 204 m (by omega) (by omega), gT 204 m (by omega) (by omega)]; exact x9.2
    · rw [ck _ 7 (by omega), gk 207 m (by omega) (by omega), gT 207 m (by omega) (by omega)]; exact c7
    · rw [ck _ 8 (by omega), fc _ 8 (by omega)]; exact x11
    · rw [ck _ 9 (by omega), fc _ 9 (by omega), gk 208 m (by omega) (by omega), gT 208 m (by omega) (by omega)]; exact x12
    · rw [gk 205 m (by omega) (by omega), gT 205 m (by omega) (by omega)]; exact x13
/-- a line that comes through leaves the fault as it was -/
abbrev X3 (r _k : Nat) : Prop := r ≠ 3
def NC (S0 : SS) (u : Int × SS) : Prop := u.1 = 0 ∨ FX X3 S0 u.2
theorem nc_r {S0 S : SS} {a : Int} (h : FX X3 S0 S) : pc (some (a, S)) (NC S0) := pc_some (.inr h)
theorem nc_l {S0 S : SS} {a : Int} (h : a = 0) : pc (some (a, S)) (NC S0) := pc_some (.inl h)
theorem nc_ref (S : SS) (kd : Int) : pc (f_MarkReader_refuse S kd) (fun u => u.1 = 0) := fun u e => by
  obtain ⟨a, b⟩ := u
  exact (c_refuse e).1
theorem nc_tok (S0 S : SS) (h : FX X3 S0 S) : pc (f_MarkReader_readToken S) (FX X3 S0) := fx_MarkReader_readToken (X := X3) (S0 := S0) (by decide) (by decide) (by decide) S h
theorem nc_set (S0 S : SS) (m : Nat) (i v : Int) (h : FX X3 S0 S) : pc (f_Mark_setNumber S m i v) (FX X3 S0) := fj_Mark_setNumber (X := X3) (S0 := S0) (jp := m) (fun k => by omega) S i v h
theorem nc_nums (S0 : SS) (m : Nat) : ∀ (n : Nat) (S : SS) (told i : Int), FX X3 S0 S → pc (f_MarkReader_readNumbers_33 m n S told i) (NC S0) := by
  intro n
  induction n with
  | zero => intro S told i _ r e; exact absurd e (by simp [f_MarkReader_readNumbers_33])
  | succ n ih =>
    intro S told i h
    show pc (f_MarkReader_readNumbers_33_b m (f_MarkReader_readNumbers_33 m n) S told i) _
    unfold f_MarkReader_readNumbers_33_b f_MarkReader_readNumbers_63
    repeat' first | with_reducible exact ih _ _ _ (by assumption) | with_reducible exact nc_r (by assumption) | with_reducible exact nc_l (by assumption) | with_reducible refine pc_chk (fun _ => ?_) | with_reducible refine pc_if (fun _ => ?_) (fun _ => ?_) | with_reducible refine pc_b2 (nc_ref _ _) (fun _ _ _ => ?_) | with_reducible refine pc_b1 (nc_tok S0 _ (by assumption)) (fun _ _ => ?_) | with_reducible refine pc_b1 (nc_set S0 _ _ _ _ (by assumption)) (fun _ _ => ?_) | with_reducible refine pf_b1 (fun _ => ?_)
theorem nc_word (S0 : SS) (m : Nat) : ∀ (n : Nat) (S : SS) (w : Int64) (g i : Int), FX X3 S0 S → pc (f_MarkReader_readWord_11 m n S w g i) (NC S0) := by
  intro n
  induction n with
  | zero => intro S w g i _ r e; exact absurd e (by simp [f_MarkReader_readWord_11])
  | succ n ih =>
    intro S w g i h
    show pc (f_MarkReader_readWord_11_b m (f_MarkReader_readWord_11 m n) S w g i) _
    have E : ∀ (w : Int64) (g : Int), pc (f_MarkReader_readWord_95 m S w g) (NC S0) := by
      intro w g
      unfold f_MarkReader_readWord_95 f_MarkReader_readWord_114
      repeat' first | with_reducible exact nc_r (by assumption) | with_reducible exact nc_l (by assumption) | with_reducible refine pc_chk (fun _ => ?_) | with_reducible refine pc_if (fun _ => ?_) (fun _ => ?_) | with_reducible refine pc_b2 (nc_ref _ _) (fun _ _ _ => ?_) | with_reducible refine pc_b1 (fx_Sheet_add (X := X3) (S0 := S0) (by omega) _ _ (by assumption)) (fun _ _ => ?_) | with_reducible refine pf_b1 (fun _ => ?_)
    have G : ∀ (w : Int64) (i c g : Int), pc (f_MarkReader_readWord_70 m (f_MarkReader_readWord_11 m n) S w i c g) (NC S0) := by
      intro w i c g
      unfold f_MarkReader_readWord_70
      exact pc_chk (fun _ => xf_lt h (by decide) (fun _ h' => pc_chk (fun _ => ih _ _ _ _ h')))
    unfold f_MarkReader_readWord_11_b f_MarkReader_readWord_69
    repeat' first | with_reducible exact E _ _ | with_reducible exact G _ _ _ _ | with_reducible refine pc_chk (fun _ => ?_) | with_reducible refine pc_if (fun _ => ?_) (fun _ => ?_) | with_reducible refine pf_b1 (fun _ => ?_)
theorem nc_words (S0 : SS) (m : Nat) : ∀ (n : Nat) (S : SS) (v : Int), FX X3 S0 S → pc (f_MarkReader_readWords_2 m n S v) (NC S0) := by
  intro n
  induction n with
  | zero => intro S v _ r e; exact absurd e (by simp [f_MarkReader_readWords_2])
  | succ n ih =>
    intro S v h
    show pc (f_MarkReader_readWords_2_b m (f_MarkReader_readWords_2 m n) S v) _
    have E : ∀ S', pc (f_MarkReader_readWords_47 m S') (NC S0) := by
      intro S'
      unfold f_MarkReader_readWords_47
      exact pc_b2 (nc_ref _ _) (fun _ _ q => pc_chk (fun _ => pc_some (.inl q)))
    have G : ∀ (S' : SS) (v w : Int), FX X3 S0 S' → pc (f_MarkReader_readWords_53 m (f_MarkReader_readWords_2 m n) S' v w) (NC S0) := by
      intro S' v w h'
      unfold f_MarkReader_readWords_53 f_MarkReader_readWord
      refine pc_if (fun _ => pc_chk (fun _ => xf_lt h' (by decide) (fun _ h2 => pc_some (.inr h2)))) (fun _ => pc_b2 (nc_word S0 m FU S' 0 1 _ h') (fun a t q => pc_if (fun _ => pc_some (.inl rfl)) (fun c => pc_chk (fun _ => ih _ _ ?_))))
      rcases q with q | q
      · exact absurd q c
      · exact q
    unfold f_MarkReader_readWords_2_b
    refine pc_if (fun _ => pc_some (.inl rfl)) (fun _ => pc_b1 (fx_MarkReader_skipBlanks (X := X3) (S0 := S0) (by decide) S h) (fun S1 h1 => xf_lt h1 (by decide) (fun S4 h4 => pc_chk (fun _ => pf_b1 (fun b => pc_if (fun _ => E _) (fun _ => pc_if (fun _ => pc_if (fun _ => E _) (fun _ => G _ _ _ h4)) (fun _ => G _ _ _ h4)))))))
theorem nc_line (S : SS) : pc (f_MarkReader_readLine S) (NC S) := by
  have h := FX_refl X3 S
  have R : ∀ (S' : SS) (kd : Int), pc (w_b2 (f_MarkReader_refuse S' kd) (fun r2_z S1_z => w_chk (r2_z = 0 ∨ r2_z = 1) (some (r2_z, S1_z)))) (NC S) := fun S' kd => pc_b2 (nc_ref _ _) (fun _ _ q => pc_chk (fun _ => pc_some (.inl q)))
  have W : ∀ (S' : SS) (m : Nat), FX X3 S S' → pc (f_MarkReader_readLine_132 S' m) (NC S) := by
    intro S' m h'
    unfold f_MarkReader_readLine_132 f_MarkReader_readWords
    exact pf_b1 (fun _ => pc_if (fun _ => R _ _) (fun _ => pc_b2 (nc_words S m FU S' 0 h') (fun _ _ q => pc_chk (fun _ => pc_some q))))
  have N : ∀ (S' : SS) (m : Nat), FX X3 S S' → pc (f_MarkReader_readLine_98 S' m) (NC S) := by
    intro S' m h'
    have n0 : pc (f_MarkReader_readNumbers S' m) (NC S) := by
      unfold f_MarkReader_readNumbers f_MarkReader_readNumbers_18 f_MarkReader_readNumbers_30
      exact pc_if (fun _ => nc_nums S m FU S' _ _ h') (fun _ => pc_if (fun _ => pc_chk (fun _ => nc_nums S m FU S' _ _ h')) (fun _ => nc_nums S m FU S' _ _ h'))
    unfold f_MarkReader_readLine_98
    refine pc_b2 n0 (fun a t q => pc_if (fun _ => pc_some (.inl rfl)) (fun c => ?_))
    have ht : FX X3 S t := by
      rcases q with q | q
      · exact absurd q c
      · exact q
    refine pc_b1 (fj_Mark_place (X := X3) (S0 := S) (jp := m) (by omega) (by omega) (by omega) t ht) (fun S4 h4 => pc_b1 (nc_tok S S4 h4) (fun S6 h6 => pc_if (fun _ => W S6 m h6) (fun _ => pc_if (fun _ => W S6 m h6) (fun _ => pf_b1 (fun x => pc_if (fun _ => pc_b2 (nc_ref _ _) (fun b u q => pc_if (fun _ => pc_some (.inl rfl)) (fun c => absurd q c))) (fun _ => pc_some (.inr h6)))))))
  have K : ∀ (S' : SS) (m : Nat), FX X3 S S' → pc (f_MarkReader_readLine_61 S' m) (NC S) := by
    intro S' m h'
    unfold f_MarkReader_readLine_61 f_MarkReader_readLine_92
    exact pf_b1 (fun _ => xf_lt h' (by omega) (fun S3 h3 => pc_if (fun _ => R _ _) (fun _ => pc_if (fun _ => N S3 m h3) (fun _ => pc_if (fun _ => R _ _) (fun _ => N S3 m h3)))))
  have B : pc (f_Pile_blank S) (fun u => FX X3 S u.2) := by
    unfold f_Pile_blank
    exact pc_chk (fun _ => pf_b1 (fun o => pc_on (pc_some h) (fun j _ => pc_chk (fun _ => pc_b1 (fj_Mark_clear (X := X3) (S0 := S) (jp := j) (by omega) (by omega) (by omega) (by omega) (by omega) (by omega) (by omega) (by omega) (fun k => by omega) (by omega) S h) (fun S7 h7 => pc_some h7)))))
  unfold f_MarkReader_readLine
  exact pf_b1 (fun _ => pc_if (fun _ => R _ _) (fun _ => pc_chk (fun _ => pc_b2 B (fun o S3 h3 => pc_on (R _ _) (fun j _ => pc_chk (fun _ => xf_lt h3 (by omega) (fun S11 h11 => pc_b1 (nc_tok S S11 h11) (fun S12 h12 => pf_b1 (fun _ => pc_if (fun _ => K S12 j h12) (fun _ => xf_lt h12 (by omega) (fun S16 h16 => pc_b1 (nc_tok S S16 h16) (fun S17 h17 => K S17 j h17))))))))))))
theorem fl_line {S S' : SS} {r : Int} (h : f_MarkReader_readLine S = some (r, S')) (hr : r ≠ 0) (k : Nat) : gi S' 3 k = gi S 3 k := by
  rcases nc_line S _ h with q | q
  · exact absurd q hr
  · exact q.1 3 k (fun w => w rfl)
/-- the same of the reference -/
abbrev X14 (r k : Nat) : Prop := ¬ (r = 192 ∧ (k = 14 ∨ k = 15))
def NN {α : Type} (S0 : SS) (u : Option α × SS) : Prop := u.1 = none ∨ fr X14 S0 u.2
theorem nn_b3 {α β : Type} {P : β → Prop} {S0 : SS} {x : Option (Option α × SS)} {t : SS → Option β} {k : α → SS → Option β} (h : pc x (NN S0)) (ht : ∀ s, pc (t s) P) (hk : ∀ a s, fr X14 S0 s → pc (k a s) P) : pc (w_b3 x t k) P := pc_b3 h (fun s _ => ht s) (fun a s q => hk a s (q.elim (fun e => nomatch e) id))
theorem n4_81 (S0 : SS) : ∀ (n : Nat) (S : SS), fr X14 S0 S → pc (f_M_scan_81 n S) (fr X14 S0) := by
  intro n
  induction n with
  | zero => intro S _ r e; exact absurd e (by simp [f_M_scan_81])
  | succ n ih =>
    intro S h
    show pc (f_M_scan_81_b (f_M_scan_81 n) S) _
    unfold f_M_scan_81_b
    exact pf_b1 (fun _ => pc_if (fun _ => pf_lt h (by omega) (fun S5 h5 => pc_some h5)) (fun _ => pc_chk (fun _ => pf_lt h (by omega) (fun S8 h8 => ih S8 h8))))
theorem n4_128 (S0 : SS) : ∀ (n : Nat) (S : SS), fr X14 S0 S → pc (f_M_scan_128 n S) (fr X14 S0) := by
  intro n
  induction n with
  | zero => intro S _ r e; exact absurd e (by simp [f_M_scan_128])
  | succ n ih =>
    intro S h
    show pc (f_M_scan_128_b (f_M_scan_128 n) S) _
    unfold f_M_scan_128_b f_M_scan_178 f_M_scan_210
    repeat' first | with_reducible exact ih _ (by assumption) | with_reducible exact pc_some (by assumption) | with_reducible refine pc_chk (fun _ => ?_) | with_reducible refine pc_if (fun _ => ?_) (fun _ => ?_) | with_reducible refine pf_lt (by assumption) (by omega) (fun _ _ => ?_) | with_reducible refine pf_b1 (fun _ => ?_)
theorem n4_38 (S0 S : SS) (h : fr X14 S0 S) : pc (f_M_scan_38 S) (fr X14 S0) := by
  unfold f_M_scan_38 f_M_scan_235 f_M_scan_240
  repeat' first | with_reducible exact n4_81 S0 _ _ (by assumption) | with_reducible exact n4_128 S0 _ _ (by assumption) | with_reducible exact pc_some (by assumption) | with_reducible refine pc_chk (fun _ => ?_) | with_reducible refine pc_if (fun _ => ?_) (fun _ => ?_) | with_reducible refine pf_lt (by assumption) (by omega) (fun _ _ => ?_) | with_reducible refine pf_b1 (fun _ => ?_)
theorem n4_scan0 (S0 : SS) : ∀ (n : Nat) (S : SS), fr X14 S0 S → pc (f_M_scan_0 n S) (fr X14 S0) := by
  intro n
  induction n with
  | zero => intro S _ r e; exact absurd e (by simp [f_M_scan_0])
  | succ n ih =>
    intro S h
    show pc (f_M_scan_0_b (f_M_scan_0 n) S) _
    unfold f_M_scan_0_b
    exact pc_if (fun _ => n4_38 S0 S h) (fun _ => pf_b1 (fun _ => pc_if (fun _ => n4_38 S0 S h) (fun _ => pc_chk (fun _ => pf_lt h (by omega) (fun S8 h8 => ih S8 h8)))))
theorem n4_scan (S0 T : SS) (h : fr X14 S0 T) : pc (f_M_scan T) (fr X14 S0) := n4_scan0 S0 FU T h
theorem nn_num (S0 T : SS) (a c : Int) (h : fr X14 S0 T) : pc (f_M_number T a c) (NN S0) := by
  unfold f_M_number
  exact pc_if (fun _ => pc_if (fun _ => pc_lt (fun _ _ => pc_some (.inl rfl))) (fun _ => pc_b1 (n4_scan S0 T h) (fun S8 h8 => pc_some (.inr h8)))) (fun _ => pc_lt (fun _ _ => pc_some (.inl rfl)))
theorem nn_move (S0 T : SS) (m : Int) (h : fr X14 S0 T) : pc (f_M_readMove T m) (NN S0) := by
  have n0 : ∀ s : SS, pc (some ((none : Option Unit), s)) (NN S0) := fun s => pc_some (.inl rfl)
  have A : ∀ T', fr X14 S0 T' → pc (f_M_readMove_105 m T') (NN S0) := by
    intro T' h'
    unfold f_M_readMove_105
    exact nn_b3 (nn_num S0 T' _ _ h') n0 (fun a s hs => pc_chk (fun _ => pf_lt hs (by omega) (fun _ h2 => pc_some (.inr h2))))
  have B : ∀ T' a c d, fr X14 S0 T' → pc (f_M_readMove_56 m T' a c d) (NN S0) := by
    intro T' a c d h'
    unfold f_M_readMove_56
    exact nn_b3 (nn_num S0 T' _ _ h') n0 (fun a s hs => pc_chk (fun _ => pf_lt hs (by omega) (fun S5 h5 => pc_if (fun _ => pc_chk (fun _ => pc_chk (fun _ => pc_chk (fun _ => pc_if (fun _ => A _ h5) (fun _ => pc_lt (fun _ _ => n0 _)))))) (fun _ => A _ h5))))
  have C : ∀ a c d, pc (f_M_readMove_23 m T a c d) (NN S0) := by
    intro a c d
    unfold f_M_readMove_23
    exact nn_b3 (nn_num S0 T _ _ h) n0 (fun a s hs => pc_chk (fun _ => pf_lt hs (by omega) (fun S5 h5 => pc_chk (fun _ => pc_chk (fun _ => pc_if (fun _ => pc_chk (fun _ => B _ _ _ _ h5)) (fun _ => B _ _ _ _ h5))))))
  unfold f_M_readMove
  exact pc_chk (fun _ => pc_if (fun _ => C _ _ _) (fun _ => C _ _ _))
theorem nn_w96 (S0 : SS) (m : Int) (kf : SS → Option (Option Unit × SS)) (hk : ∀ s, fr X14 S0 s → pc (kf s) (NN S0)) : ∀ (n : Nat) (S : SS) (g : Int) (w : Int64), fr X14 S0 S → pc (f_M_readWords_96 m kf n S g w) (NN S0) := by
  intro n
  induction n with
  | zero => intro S g w _ r e; exact absurd e (by simp [f_M_readWords_96])
  | succ n ih =>
    intro S g w h
    show pc (f_M_readWords_96_b m kf (f_M_readWords_96 m kf n) S g w) _
    have E : ∀ g w, pc (f_M_readWords_204 m kf S g w) (NN S0) := by
      intro g w
      unfold f_M_readWords_204
      exact pc_if (fun _ => pc_lt (fun _ _ => pc_some (.inl rfl))) (fun _ => pc_chk (fun _ => pc_if (fun _ => pc_lt (fun _ _ => pc_some (.inl rfl))) (fun _ => pc_chk (fun _ => pc_chk (fun _ => pc_chk (fun _ => pc_chk (fun _ => pf_lts h (fun S5 h5 => pc_chk (fun _ => pc_chk (fun _ => pc_chk (fun _ => pf_lt h5 (by omega) (fun S8 h8 => hk S8 h8)))))))))))) 
    have G : ∀ g w, pc (f_M_readWords_191 m kf (f_M_readWords_96 m kf n) S g w) (NN S0) := by
      intro g w
      unfold f_M_readWords_191
      exact pc_chk (fun _ => pf_lt h (by omega) (fun S3 h3 => ih _ _ _ h3))
    unfold f_M_readWords_96_b f_M_readWords_170 f_M_readWords_171
    repeat' first | with_reducible exact E _ _ | with_reducible exact G _ _ | with_reducible refine pc_chk (fun _ => ?_) | with_reducible refine pc_if (fun _ => ?_) (fun _ => ?_) | with_reducible refine pf_b1 (fun _ => ?_)
theorem nn_w19 (S0 : SS) (m : Int) : ∀ (n : Nat) (S : SS), fr X14 S0 S → pc (f_M_readWords_19 m n S) (NN S0) := by
  intro n
  induction n with
  | zero => intro S _ r e; exact absurd e (by simp [f_M_readWords_19])
  | succ n ih =>
    intro S h
    show pc (f_M_readWords_19_b m (f_M_readWords_19 m n) S) _
    have E : ∀ S', fr X14 S0 S' → pc (f_M_readWords_269 m S') (NN S0) := by
      intro S' h'
      unfold f_M_readWords_269
      exact pc_chk (fun _ => pc_if (fun _ => pc_lt (fun _ _ => pc_some (.inl rfl))) (fun _ => pc_b1 (n4_scan S0 S' h') (fun _ h2 => pc_some (.inr h2))))
    have G : pc (f_M_readWords_57 m (f_M_readWords_19 m n) S) (NN S0) := by
      unfold f_M_readWords_57
      exact pf_lt h (by omega) (fun S2 h2 => pc_if (fun _ => E S2 h2) (fun _ => pf_b1 (fun _ => pc_if (fun _ => E S2 h2) (fun _ => nn_w96 S0 m _ ih FU S2 1 0 h2))))
    unfold f_M_readWords_19_b
    exact pc_if (fun _ => G) (fun _ => pf_b1 (fun _ => pc_if (fun _ => G) (fun _ => pc_chk (fun _ => pf_lt h (by omega) (fun S9 h9 => ih S9 h9)))))
theorem nn_line (S : SS) (m : Int) : pc (f_M_readLine S m) (NN S) := by
  have h := fr_refl X14 S
  have n0 : ∀ s : SS, pc (some ((none : Option Unit), s)) (NN S) := fun s => pc_some (.inl rfl)
  have E : ∀ S', fr X14 S S' → pc (f_M_readLine_505 m S') (NN S) := by
    intro S' h'
    unfold f_M_readLine_505
    exact pf_b1 (fun _ => pc_if (fun _ => pc_lt (fun _ _ => n0 _)) (fun _ => pc_b1 (n4_scan S S' h') (fun _ h2 => pc_some (.inr h2))))
  have W : ∀ S', fr X14 S S' → pc (f_M_readLine_480 m S') (NN S) := by
    intro S' h'
    have w0 : pc (f_M_readLine_500 m S') (NN S) := by
      unfold f_M_readLine_500 f_M_readWords
      exact nn_b3 (pf_b1 (fun _ => pc_if (fun _ => pc_lt (fun _ _ => n0 _)) (fun _ => nn_w19 S m FU S' h'))) n0 (fun _ s hs => E s hs)
    unfold f_M_readLine_480
    exact pc_chk (fun _ => pc_if (fun _ => w0) (fun _ => pc_chk (fun _ => pc_if (fun _ => w0) (fun _ => E S' h'))))
  have G : ∀ S' a c d, fr X14 S S' → pc (f_M_readLine_250 m S' a c d) (NN S) := by
    intro S' a c d h'
    have T6 : ∀ s, fr X14 S s → pc (f_M_readLine_466 m s) (NN S) := by
      intro s hs
      unfold f_M_readLine_466
      exact pc_chk (fun _ => nn_b3 (nn_num S s _ _ hs) n0 (fun _ s2 h2 => pc_chk (fun _ => pf_lt h2 (by omega) (fun _ h3 => W _ h3))))
    have T5 : ∀ s, pc (f_M_readLine_456 m s) (NN S) := by
      intro s
      unfold f_M_readLine_456
      exact pc_lt (fun _ _ => n0 _)
    unfold f_M_readLine_250
    repeat' first | with_reducible exact W _ (by assumption) | with_reducible exact T6 _ (by assumption) | with_reducible exact T5 _ | with_reducible exact n0 _ | with_reducible refine pc_chk (fun _ => ?_) | with_reducible refine pc_if (fun _ => ?_) (fun _ => ?_) | with_reducible refine pf_lt (by assumption) (by omega) (fun _ _ => ?_) | with_reducible refine pc_b1 (n4_scan S _ (by assumption)) (fun _ _ => ?_) | with_reducible refine nn_b3 (nn_num S _ _ _ (by assumption)) n0 (fun _ _ _ => ?_) | with_reducible refine nn_b3 (nn_move S _ _ (by assumption)) n0 (fun _ _ _ => ?_) | with_reducible refine pc_lt (fun _ _ => ?_)
  have K : ∀ S', fr X14 S S' → pc (f_M_readLine_150 m S') (NN S) := by
    intro S' h'
    unfold f_M_readLine_150 f_M_readLine_249
    repeat' first | with_reducible exact G _ _ _ _ (by assumption) | with_reducible refine pc_chk (fun _ => ?_) | with_reducible refine pc_if (fun _ => ?_) (fun _ => ?_) | with_reducible refine pf_b1 (fun _ => ?_)
  have H : ∀ v, pc (f_M_readLine_40 m S v) (NN S) := by
    intro v
    unfold f_M_readLine_40
    repeat' first | with_reducible exact K _ (by assumption) | with_reducible exact n0 _ | with_reducible refine pc_chk (fun _ => ?_) | with_reducible refine pc_if (fun _ => ?_) (fun _ => ?_) | with_reducible refine pf_lt (by assumption) (by omega) (fun _ _ => ?_) | with_reducible refine pc_b1 (n4_scan S _ (by assumption)) (fun _ _ => ?_) | with_reducible refine pf_b1 (fun _ => ?_) | with_reducible refine pc_lt (fun _ _ => ?_)
  unfold f_M_readLine
  exact pf_b1 (fun _ => pc_if (fun _ => pf_b1 (fun _ => pc_if (fun _ => pf_b1 (fun _ => pc_if (fun _ => H _) (fun _ => H _))) (fun _ => H _))) (fun _ => H _))
theorem fl_mline {S S' : SS} {m : Int} {u : Unit} (h : f_M_readLine S m = some (some u, S')) : gi S' 192 14 = gi S 192 14 ∧ gi S' 192 15 = gi S 192 15 := by
  rcases nn_line S m _ h with q | q
  · cases q
  · exact ⟨q 192 14 (fun w => w ⟨rfl, .inl rfl⟩), q 192 15 (fun w => w ⟨rfl, .inr rfl⟩)⟩
