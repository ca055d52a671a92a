/-- both sides hold: the class's bounds, the reference's bounds and numbers, and what the part adds -/
def JI (R : SS → SS → Prop) (S T : SS) : Prop := CX 0 S ∧ MX 0 T ∧ NX T ∧ R S T
theorem cs_feed {S : SS} (hC : CX 0 S) (a1 : Int) (a2 : Int) (a3 : Int) (a4 : Int) (a5 : Int) (h1 : i32 a1) (h2 : i32 a2) (h3 : i32 a3) (h4 : i32 a4) (h5 : i32 a5) : okk (f_MP_feed S a1 a2 a3 a4 a5) (fun u => CX 0 u.2) := ok_mono (ok_MP_feed S a1 a2 a3 a4 a5 hC h1 h2 h3 h4 h5) (fun _ h => h.1)
theorem ms_feed_ok {T : SS} (hM : MX 0 T) (hN : NX T) (a1 : Int) (a2 : Int) (a3 : Int) (a4 : Int) (a5 : Int) (h1 : i32 a1) (h2 : i32 a2) (h3 : i32 a3) (h4 : i32 a4) (h5 : i32 a5) : okk (f_M_feed T a1 a2 a3 a4 a5) (fun u => MX 0 u.2 ∧ NX u.2) := ok_mono (ok_and (ok_M_feed T a1 a2 a3 a4 a5 hM) (fz_feed T a1 a2 a3 a4 a5)) (fun _ h => ⟨h.1.1, nx_z hN h.2⟩)
theorem cs_end {S : SS} (hC : CX 0 S) (a1 : Int) (h1 : i32 a1) : okk (f_MP_end S a1) (fun u => CX 0 u.2) := ok_mono (ok_MP_end S a1 hC) (fun _ h => h.1)
theorem ms_end_ok {T : SS} (hM : MX 0 T) (hN : NX T) (a1 : Int) (h1 : i32 a1) : okk (f_M_end T a1) (fun u => MX 0 u.2 ∧ NX u.2) := ok_mono (ok_and (ok_M_end T a1 hM) (fz_end T a1)) (fun _ h => ⟨h.1.1, nx_z hN h.2⟩)
theorem cs_first {S : SS} (hC : CX 0 S)   : okk (f_MP_first S) (fun u => CX 0 u.2) := ok_mono (ok_MP_first S hC) (fun _ h => h.1)
theorem ms_first_ok {T : SS} (hM : MX 0 T) (hN : NX T)   : okk (f_M_first T) (fun u => MX 0 u.2 ∧ NX u.2) := ok_mono (ok_and (ok_M_first T hM) (nx_first T hN)) (fun _ h => ⟨h.1.1, h.2⟩)
theorem cs_second {S : SS} (hC : CX 0 S)   : okk (f_MP_second S) (fun u => CX 0 u.2) := ok_mono (ok_MP_second S hC) (fun _ h => h.1)
theorem ms_second_ok {T : SS} (hM : MX 0 T) (hN : NX T)   : okk (f_M_second T) (fun u => MX 0 u.2 ∧ NX u.2) := ok_mono (ok_and (ok_M_second T hM) (fz_second T)) (fun _ h => ⟨h.1.1, nx_z hN h.2⟩)
theorem cs_marks {S : SS} (hC : CX 0 S)   : okk (f_MP_marks S) (fun u => CX 0 u.2) := ok_mono (ok_MP_marks S hC) (fun _ h => h.1)
theorem ms_marks_ok {T : SS} (hM : MX 0 T) (hN : NX T)   : okk (f_M_marks T) (fun u => MX 0 u.2 ∧ NX u.2) := ok_mono (ok_and (ok_M_marks T hM) (nx_marks T hM hN)) (fun _ h => ⟨h.1.1, h.2⟩)
theorem cs_word {S : SS} (hC : CX 0 S) (a1 : Int) (a2 : Int) (h1 : i32 a1) (h2 : i32 a2) : okk (f_MP_word S a1 a2) (fun _ => True) := ok_mono (ok_MP_word S a1 a2 hC) (fun _ h => trivial)
theorem ms_word_ok {T : SS} (hM : MX 0 T) (hN : NX T) (a1 : Int) (a2 : Int) (h1 : i32 a1) (h2 : i32 a2) : okk (f_M_word T a1 a2) (fun u => MX 0 u.2 ∧ NX u.2) := ok_mono (ok_M_word hM hN a1 a2) (fun _ h => h)
theorem cs_mark {S : SS} (hC : CX 0 S) (a1 : Int) (a2 : Int) (h1 : i32 a1) (h2 : i32 a2) : okk (f_MP_mark S a1 a2) (fun _ => True) := ok_mono (ok_MP_mark S a1 a2 hC h2) (fun _ h => trivial)
theorem ms_mark_ok {T : SS} (hM : MX 0 T) (hN : NX T) (a1 : Int) (a2 : Int) (h1 : i32 a1) (h2 : i32 a2) : okk (f_M_mark T a1 a2) (fun u => MX 0 u.2 ∧ NX u.2) := ok_mono (ok_and (ok_M_mark T a1 a2 hM h2) (fz_mark T a1 a2 hM)) (fun _ h => ⟨h.1.1, nx_z hN h.2⟩)
theorem cs_answer {S : SS} (hC : CX 0 S) (a1 : Int) (a2 : Int) (h1 : i32 a1) (h2 : i32 a2) (h3 : a2 = 0 ∨ a2 = 1) : okk (f_MP_answer S a1 a2) (fun u => CX 0 u.2) := ok_mono (ok_MP_answer S a1 a2 hC) (fun _ h => h.1)
theorem ms_answer_ok {T : SS} (hM : MX 0 T) (hN : NX T) (a1 : Int) (a2 : Int) (h1 : i32 a1) (h2 : i32 a2) (h3 : a2 = 0 ∨ a2 = 1) : okk (f_M_answer T a1 a2) (fun u => MX 0 u.2 ∧ NX u.2) := ok_mono (ok_and (ok_M_answer T a1 a2 hM) (fz_answer T a1 a2 hM)) (fun _ h => ⟨h.1.1, nx_z hN h.2⟩)
theorem cs_rank {S : SS} (hC : CX 0 S) (a1 : Int) (a2 : Int) (h1 : i32 a1) (h2 : i32 a2) : okk (f_MP_rank S a1 a2) (fun u => CX 0 u.2) := ok_mono (ok_MP_rank S a1 a2 hC) (fun _ h => h.1)
theorem ms_rank_ok {T : SS} (hM : MX 0 T) (hN : NX T) (a1 : Int) (a2 : Int) (h1 : i32 a1) (h2 : i32 a2) : okk (f_M_rank T a1 a2) (fun u => MX 0 u.2 ∧ NX u.2) := ok_mono (ok_and (ok_M_rank T a1 a2 hM) (fz_rank T a1 a2)) (fun _ h => ⟨h.1.1, nx_z hN h.2⟩)
theorem cs_meet {S : SS} (hC : CX 0 S) (a1 : Int) (a2 : Int) (h1 : i32 a1) (h2 : i32 a2) : okk (f_MP_meet S a1 a2) (fun _ => True) := ok_mono (ok_MP_meet S a1 a2 hC) (fun _ h => trivial)
theorem ms_meet_ok {T : SS} (hM : MX 0 T) (hN : NX T) (a1 : Int) (a2 : Int) (h1 : i32 a1) (h2 : i32 a2) : okk (f_M_meet T a1 a2) (fun _ => True) := ok_mono (ok_M_meet T a1 a2 hM) (fun _ h => trivial)
theorem cs_within {S : SS} (hC : CX 0 S) (a1 : Int) (a2 : Int) (h1 : i32 a1) (h2 : i32 a2) : okk (f_MP_within S a1 a2) (fun _ => True) := ok_mono (ok_MP_within S a1 a2 hC) (fun _ h => trivial)
theorem ms_within_ok {T : SS} (hM : MX 0 T) (hN : NX T) (a1 : Int) (a2 : Int) (h1 : i32 a1) (h2 : i32 a2) : okk (f_M_within T a1 a2) (fun _ => True) := ok_mono (ok_M_within T a1 a2 hM) (fun _ h => trivial)
theorem cs_costs {S : SS} (hC : CX 0 S) (a1 : Int) (a2 : Int) (h1 : i32 a1) (h2 : i32 a2) : okk (f_MP_costs S a1 a2) (fun u => CX 0 u.2) := ok_mono (ok_MP_costs S a1 a2 hC) (fun _ h => h.1)
theorem ms_costs_ok {T : SS} (hM : MX 0 T) (hN : NX T) (a1 : Int) (a2 : Int) (h1 : i32 a1) (h2 : i32 a2) : okk (f_M_costs T a1 a2) (fun u => MX 0 u.2 ∧ NX u.2) := ok_mono (ok_and (ok_M_costs T a1 a2 hM) (fz_costs T a1 a2)) (fun _ h => ⟨h.1.1, nx_z hN h.2⟩)
theorem cs_hold {S : SS} (hC : CX 0 S)   : okk (f_MP_hold S) (fun u => CX 0 u.2) := ok_mono (ok_MP_hold S hC) (fun _ h => h.1)
theorem ms_hold_ok {T : SS} (hM : MX 0 T) (hN : NX T)   : okk (f_M_hold T) (fun u => MX 0 u.2 ∧ NX u.2) := ok_mono (ok_M_hold hM hN) (fun _ h => h)
theorem cs_held {S : SS} (hC : CX 0 S) (a1 : Int) (h1 : i32 a1) : okk (f_MP_held S a1) (fun _ => True) := ok_mono (ok_MP_held S a1 hC h1) (fun _ h => trivial)
theorem ms_held_ok {T : SS} (hM : MX 0 T) (hN : NX T) (a1 : Int) (h1 : i32 a1) : okk (f_M_held T a1) (fun _ => True) := ok_mono (ok_M_held T a1 hM h1) (fun _ h => trivial)
theorem cs_unasked {S : SS} (hC : CX 0 S) (a1 : Int) (a2 : Int) (h1 : i32 a1) (h2 : i32 a2) : okk (f_MP_unasked S a1 a2) (fun _ => True) := ok_mono (ok_MP_unasked S a1 a2 hC) (fun _ h => trivial)
theorem ms_unasked_ok {T : SS} (hM : MX 0 T) (hN : NX T) (a1 : Int) (a2 : Int) (h1 : i32 a1) (h2 : i32 a2) : okk (f_M_unasked T a1 a2) (fun _ => True) := ok_mono (ok_M_unasked T a1 a2 hM) (fun _ h => trivial)
theorem cs_distance {S : SS} (hC : CX 0 S) (a1 : Int) (a2 : Int) (h1 : i32 a1) (h2 : i32 a2) : okk (f_MP_distance S a1 a2) (fun u => CX 0 u.2) := ok_mono (ok_MP_distance S a1 a2 hC) (fun _ h => h.1)
theorem ms_distance_ok {T : SS} (hM : MX 0 T) (hN : NX T) (a1 : Int) (a2 : Int) (h1 : i32 a1) (h2 : i32 a2) : okk (f_M_distance T a1 a2) (fun u => MX 0 u.2 ∧ NX u.2) := ok_mono (ok_M_distance hM hN a1 a2) (fun _ h => h)
theorem cs_next {S : SS} (hC : CX 0 S)   : okk (f_MP_next S) (fun u => CX 0 u.2) := ok_mono (ok_MP_next S hC) (fun _ h => h.1)
theorem ms_next_ok {T : SS} (hM : MX 0 T) (hN : NX T)   : okk (f_M_next T) (fun u => MX 0 u.2 ∧ NX u.2) := ok_mono (ok_and (ok_M_next T hM) (nx_next T hN)) (fun _ h => ⟨h.1.1, h.2⟩)
theorem cs_error {S : SS} (hC : CX 0 S) (a1 : Int) (a2 : Int) (h1 : i32 a1) (h2 : i32 a2) (h3 : a2 = 0 ∨ a2 = 1) : okk (f_MP_error S a1 a2) (fun u => CX 0 u.2) := ok_mono (ok_MP_error S a1 a2 hC h3) (fun _ h => h.1)
theorem ms_error_ok {T : SS} (hM : MX 0 T) (hN : NX T) (a1 : Int) (a2 : Int) (h1 : i32 a1) (h2 : i32 a2) (h3 : a2 = 0 ∨ a2 = 1) : okk (f_M_error T a1 a2) (fun u => MX 0 u.2 ∧ NX u.2) := ok_mono (ok_and (ok_M_error T a1 a2 hM h3) (fz_error T a1 a2)) (fun _ h => ⟨h.1.1, nx_z hN h.2⟩)
theorem cs_price {S : SS} (hC : CX 0 S) (a1 : Int) (a2 : Int) (h1 : i32 a1) (h2 : i32 a2) : okk (f_MP_price S a1 a2) (fun u => CX 0 u.2) := ok_mono (ok_MP_price S a1 a2 hC) (fun _ h => h.1)
theorem ms_price_ok {T : SS} (hM : MX 0 T) (hN : NX T) (a1 : Int) (a2 : Int) (h1 : i32 a1) (h2 : i32 a2) : okk (f_M_price T a1 a2) (fun u => MX 0 u.2 ∧ NX u.2) := ok_mono (ok_and (ok_M_price T a1 a2 hM) (fz_price T a1 a2)) (fun _ h => ⟨h.1.1, nx_z hN h.2⟩)
theorem cs_pays {S : SS} (hC : CX 0 S) (a1 : Int) (h1 : i32 a1) : okk (f_MP_pays S a1) (fun _ => True) := ok_mono (ok_MP_pays S a1 hC) (fun _ h => trivial)
theorem ms_pays_ok {T : SS} (hM : MX 0 T) (hN : NX T) (a1 : Int) (h1 : i32 a1) : okk (f_M_pays T a1) (fun u => MX 0 u.2 ∧ NX u.2) := ok_mono (ok_M_pays hM hN a1) (fun _ h => h)
theorem cs_count {S : SS} (hC : CX 0 S) (a1 : Int) (h1 : i32 a1) : okk (f_MP_count S a1) (fun _ => True) := ok_mono (ok_MP_count S a1 hC) (fun _ h => trivial)
theorem ms_count_ok {T : SS} (hM : MX 0 T) (hN : NX T) (a1 : Int) (h1 : i32 a1) : okk (f_M_count T a1) (fun u => MX 0 u.2 ∧ NX u.2) := ok_mono (ok_M_count hM hN a1) (fun _ h => h)
theorem tb_bv (x : BitVec 32) (s : Nat) (hs : s ≤ 24) : (x.ushiftRight s).signExtend 8 = (x.sshiftRight s).signExtend 8 := by
  apply BitVec.eq_of_getLsbD_eq
  intro i hi
  have h1 : (x.ushiftRight s).getLsbD i = x.getLsbD (s + i) := BitVec.getLsbD_ushiftRight x s i
  have h2 : (x.sshiftRight s).getLsbD i = x.getLsbD (s + i) := by
    rw [BitVec.getLsbD_sshiftRight]
    have a : ¬ (32 ≤ i) := by omega
    have c : s + i < 32 := by omega
    simp [a, c]
  rw [BitVec.getLsbD_signExtend, BitVec.getLsbD_signExtend]
  have a : i < 32 := by omega
  simp only [a, if_true, h1, h2]
theorem tb_24 (x : Int32) : ((x.toUInt32 >>> ((oi 24).toUInt32 &&& Int32.toUInt32 31)).toInt32).toInt8 = (x >>> (oi 24 &&& 31)).toInt8 := Int8.toBitVec_inj.1 (tb_bv x.toBitVec 24 (by decide))
theorem tb_16 (x : Int32) : ((x.toUInt32 >>> ((oi 16).toUInt32 &&& Int32.toUInt32 31)).toInt32).toInt8 = (x >>> (oi 16 &&& 31)).toInt8 := Int8.toBitVec_inj.1 (tb_bv x.toBitVec 16 (by decide))
theorem tb_8 (x : Int32) : ((x.toUInt32 >>> ((oi 8).toUInt32 &&& Int32.toUInt32 31)).toInt32).toInt8 = (x >>> (oi 8 &&& 31)).toInt8 := Int8.toBitVec_inj.1 (tb_bv x.toBitVec 8 (by decide))
theorem tb_0 (x : Int32) : ((x.toUInt32 >>> ((oi 0).toUInt32 &&& Int32.toUInt32 31)).toInt32).toInt8 = (x >>> (oi 0 &&& 31)).toInt8 := Int8.toBitVec_inj.1 (tb_bv x.toBitVec 0 (by decide))
theorem tb_eq (v s : Int) (hs : s = 24 ∨ s = 16 ∨ s = 8 ∨ s = 0) : tob (ushri v s) = tob (shri v s) := by
  have k : ∀ a c : Int32, a.toInt8 = c.toInt8 → tob a.toInt = tob c.toInt := by
    intro a c h
    unfold tob
    rw [oi_to rfl, oi_to rfl, h]
  rcases hs with e | e | e | e <;> subst e
  · exact k _ _ (tb_24 (oi v))
  · exact k _ _ (tb_16 (oi v))
  · exact k _ _ (tb_8 (oi v))
  · exact k _ _ (tb_0 (oi v))
/-- the tapes are alike -/
def TR (S T : SS) : Prop := gi S 1 1 = gi T 192 8 ∧ ∀ k : Nat, (k : Int) < gi S 1 1 → gi S 2 k = gi T 197 k
theorem sim4 (v : Int) : ∀ (n1 n2 : Nat) (S T : SS) (s : Int), TR S T → 0 ≤ gi S 1 1 → (s = 24 ∨ s = 16 ∨ s = 8 ∨ s = 0 ∨ s = -8) → 8 * gi S 1 1 + s + 8 ≤ 16000 → ∀ S1 T1, f_Tape_addFour_3 v n1 S s = some S1 → f_M_lay_3 v n2 T s = some T1 → TR S1 T1 ∧ 8 * gi S1 1 1 = 8 * gi S 1 1 + s + 8 := by
  intro n1
  induction n1 with
  | zero => intro n2 S T s _ _ _ _ S1 T1 h1 _; exact absurd h1 (by simp [f_Tape_addFour_3])
  | succ n1 ih =>
    intro n2 S T s hR h0 hs hb S1 T1 h1 h2
    cases n2 with
    | zero => exact absurd h2 (by simp [f_M_lay_3])
    | succ n2 =>
      have h1 : f_Tape_addFour_3_b v (f_Tape_addFour_3 v n1) S s = some S1 := h1
      have h2 : f_M_lay_3_b v (f_M_lay_3 v n2) T s = some T1 := h2
      unfold f_Tape_addFour_3_b at h1
      unfold f_M_lay_3_b at h2
      by_cases c : s < 0
      · rw [if_pos c] at h1 h2
        cases h1
        cases h2
        exact ⟨hR, by omega⟩
      · rw [if_neg c] at h2
        rw [if_neg c, if_neg (by omega), if_neg (by omega)] at h1
        obtain ⟨_, h1⟩ := w_chkE h1
        obtain ⟨_, h2⟩ := w_chkE h2
        unfold w_lt at h1 h2
        obtain ⟨_, h1⟩ := w_chkE h1
        obtain ⟨_, h2⟩ := w_chkE h2
        unfold f_Tape_addFour_49 at h1
        obtain ⟨_, h1⟩ := w_chkE h1
        obtain ⟨_, h2⟩ := w_chkE h2
        have a1 : gi (si S 2 (gi S 1 1).toNat (tob (tob (ushri v s)))) 1 1 = gi S 1 1 := gi_off (by omega)
        have a2 : gi (si T 197 (gi T 192 8).toNat (tob (tob (shri v s)))) 192 8 = gi T 192 8 := gi_off (by omega)
        rw [a1] at h1
        rw [a2] at h2
        have TR' : TR (si (si S 2 (gi S 1 1).toNat (tob (tob (ushri v s)))) 1 1 (gi S 1 1 + 1)) (si (si T 197 (gi T 192 8).toNat (tob (tob (shri v s)))) 192 8 (gi T 192 8 + 1)) := by
          refine ⟨by rw [gi_at, gi_at, hR.1], fun k hk => ?_⟩
          rw [gi_at] at hk
          have l1 : gi (si (si S 2 (gi S 1 1).toNat (tob (tob (ushri v s)))) 1 1 (gi S 1 1 + 1)) 2 k = gi (si S 2 (gi S 1 1).toNat (tob (tob (ushri v s)))) 2 k := gi_off (by omega)
          have l2 : gi (si (si T 197 (gi T 192 8).toNat (tob (tob (shri v s)))) 192 8 (gi T 192 8 + 1)) 197 k = gi (si T 197 (gi T 192 8).toNat (tob (tob (shri v s)))) 197 k := gi_off (by omega)
          rw [l1, l2, gi_si, gi_si, tb_eq v s (by omega), ← hR.1]
          by_cases e : k = (gi S 1 1).toNat
          · rw [if_pos ⟨rfl, e⟩, if_pos ⟨rfl, e⟩]
          · rw [if_neg (fun q => e q.2), if_neg (fun q => e q.2)]
            exact hR.2 k (by omega)
        have R := ih n2 _ _ (s + (-8)) TR' (by rw [gi_at]; omega) (by omega) (by rw [gi_at]; omega) S1 T1 h1 h2
        rw [gi_at] at R
        exact ⟨R.1, by omega⟩
theorem sim_feed (S T : SS) (a1 a2 a3 a4 a5 r t : Int) (S1 T1 : SS) (hR : TR S T) (h0 : 0 ≤ gi S 1 1) (h1 : f_MP_feed S a1 a2 a3 a4 a5 = some (r, S1)) (h2 : f_M_feed T a1 a2 a3 a4 a5 = some (t, T1)) : r = t ∧ TR S1 T1 := by
  unfold f_MP_feed f_Tape_addFour at h1
  unfold f_M_feed f_M_lay at h2
  obtain ⟨_, h1⟩ := w_chkE h1
  obtain ⟨_, h2⟩ := w_chkE h2
  rw [← hR.1] at h2
  by_cases c : gi S 1 1 + 20 ≤ 2000
  · rw [if_pos c] at h1 h2
    obtain ⟨Sa, ea, h1⟩ := w_b1E h1
    obtain ⟨Sb, eb, h1⟩ := w_b1E h1
    obtain ⟨Sc, ec, h1⟩ := w_b1E h1
    obtain ⟨Sd, ed, h1⟩ := w_b1E h1
    obtain ⟨Se, ee, h1⟩ := w_b1E h1
    obtain ⟨Ta, fa, h2⟩ := w_b1E h2
    obtain ⟨Tb, fb, h2⟩ := w_b1E h2
    obtain ⟨Tc, fc, h2⟩ := w_b1E h2
    obtain ⟨Td, fd, h2⟩ := w_b1E h2
    obtain ⟨Te, fe, h2⟩ := w_b1E h2
    have Ra := sim4 a1 FU FU S T 24 hR h0 (.inl rfl) (by omega) Sa Ta ea fa
    have Rb := sim4 a2 FU FU Sa Ta 24 Ra.1 (by omega) (.inl rfl) (by omega) Sb Tb eb fb
    have Rc := sim4 a3 FU FU Sb Tb 24 Rb.1 (by omega) (.inl rfl) (by omega) Sc Tc ec fc
    have Rd := sim4 a4 FU FU Sc Tc 24 Rc.1 (by omega) (.inl rfl) (by omega) Sd Td ed fd
    have Re := sim4 a5 FU FU Sd Td 24 Rd.1 (by omega) (.inl rfl) (by omega) Se Te ee fe
    cases h1
    cases h2
    exact ⟨Re.1.1, Re.1⟩
  · rw [if_neg c] at h1 h2
    cases h1
    cases h2
    exact ⟨rfl, hR⟩
theorem sim_end (S T : SS) (a1 r t : Int) (S1 T1 : SS) (hR : TR S T) (h1 : f_MP_end S a1 = some (r, S1)) (h2 : f_M_end T a1 = some (t, T1)) : r = t ∧ TR S1 T1 := by
  unfold f_MP_end at h1
  unfold f_M_end at h2
  have i := in01 T a1 0 (gi T 192 8)
  rw [← hR.1] at h2 i
  by_cases c : 0 ≤ a1 ∧ a1 ≤ gi S 1 1
  · rw [if_neg (by omega), if_pos (by omega)] at h1
    rw [if_neg (by omega)] at h2
    cases h1
    cases h2
    refine ⟨rfl, by rw [gi_at, gi_at], fun k hk => ?_⟩
    rw [gi_at] at hk
    rw [gi_off (by omega), gi_off (by omega)]
    exact hR.2 k (by omega)
  · rw [if_pos (by omega)] at h2
    cases h2
    by_cases d : a1 < 0
    · rw [if_pos d] at h1; cases h1; exact ⟨rfl, hR⟩
    · rw [if_neg d, if_neg (by omega)] at h1; cases h1; exact ⟨rfl, hR⟩
theorem ow_all : ∀ n : Nat, n < 256 → f_MP_isOfWord SZ (n : Int) = some (f_M_isOfWord SZ (n : Int)) := by decide +kernel
theorem ioc_S (S : SS) (i0 : Nat) (v1 v2 v3 : Int) : ∀ (n : Nat) (a c : Int), f_indexOfChar_7 S i0 v1 v2 v3 n a c = f_indexOfChar_7 SZ i0 v1 v2 v3 n a c := by
  intro n
  induction n with
  | zero => intro a c; rfl
  | succ n ih =>
    intro a c
    show f_indexOfChar_7_b S i0 v1 v2 v3 (f_indexOfChar_7 S i0 v1 v2 v3 n) a c = f_indexOfChar_7_b SZ i0 v1 v2 v3 (f_indexOfChar_7 SZ i0 v1 v2 v3 n) a c
    unfold f_indexOfChar_7_b
    rw [ih]
theorem idx_S (S : SS) (i0 : Nat) (v : Int) : f_indexOf S i0 v = f_indexOf SZ i0 v := by
  unfold f_indexOf f_indexOf2 f_l1indexOf f_indexOfChar
  simp only [ioc_S S]
  rfl
theorem ow_eq (S T : SS) (v : Int) (h : 0 ≤ v ∧ v ≤ 255) : f_MP_isOfWord S v = some (f_M_isOfWord T v) := by
  have e := ow_all v.toNat (by omega)
  rw [show ((v.toNat : Nat) : Int) = v by omega] at e
  have e1 : f_MP_isOfWord S v = f_MP_isOfWord SZ v := by
    unfold f_MP_isOfWord f_MP_isOfWord_28
    rw [idx_S S]
    rfl
  rw [e1]
  exact e
theorem cby {S : SS} {i : Int} (h0 : 0 ≤ i) (h1 : i < gi S 1 1) (h2 : gi S 1 1 ≤ 2000) : f_Tape_byteAt S i = some (andi (gi S 2 i.toNat) 255) := by
  unfold f_Tape_byteAt
  rw [if_neg (by omega), if_neg (by omega), if_pos (by omega), w_chkP (by omega)]
theorem mby {T : SS} {i : Int} (h0 : 0 ≤ i) (h1 : i < gi T 192 9) (h2 : gi T 192 9 ≤ 2000) : f_M_byteAt T i = some (andi (gi T 197 i.toNat) 255) := by
  unfold f_M_byteAt
  rw [if_neg (by omega), w_chkP (by omega)]
theorem sh_add {S S1 : SS} {q : Nat} {w : Int64} (h : f_Sheet_add S q w = some S1) (h0 : 0 ≤ gi S q 1) (h1 : gi S q 1 < cap q) : S1 = si (sl S (q + 1) (gi S q 1).toNat w) q 1 (gi S q 1 + 1) := by
  unfold f_Sheet_add at h
  rw [if_neg (by omega), if_neg (by omega)] at h
  obtain ⟨_, h⟩ := w_chkE h
  unfold w_lt at h
  obtain ⟨_, h⟩ := w_chkE h
  cases h
  rfl
/-- the tape that is being read is alike -/
def TB (S T : SS) : Prop := gi S 1 1 = gi T 192 9 ∧ gi S 1 1 ≤ 2000 ∧ ∀ k : Nat, (k : Int) < gi S 1 1 → gi S 2 k = gi T 197 k
def FE (S T : SS) : Prop := gi S 3 0 = gi T 192 14 ∧ gi S 3 1 = gi T 192 15
/-- the sheet that is being read is alike, its last word still open when len is above 0 -/
def SR (S T : SS) (w : Int64) (len cnt most : Int) : Prop := 0 ≤ gi S 175 1 ∧ 0 ≤ len ∧ ((len = 0 ∧ w = 0 ∧ cnt = gi S 175 1) ∨ (0 < len ∧ cnt = gi S 175 1 + 1 ∧ w = gl T 198 (gi S 175 1).toNat)) ∧ cnt ≤ most ∧ ∀ k : Nat, (k : Int) < gi S 175 1 → gl S 176 k = gl T 198 k
theorem sr_add {S S1 T : SS} {w : Int64} {len cnt most : Int} (hm : most ≤ 150) (h : SR S T w len cnt most) (e : f_SheetReader_addWord S w len = some S1) : gi S1 175 1 = cnt ∧ (∀ k : Nat, (k : Int) < cnt → gl S1 176 k = gl T 198 k) ∧ (∀ r k, ¬ (r = 175 ∧ k = 1) → gi S1 r k = gi S r k) := by
  obtain ⟨s1, s2, s3, s4, s5⟩ := h
  unfold f_SheetReader_addWord at e
  rcases s3 with ⟨a, _, c⟩ | ⟨a, c, d⟩
  · rw [if_pos (by omega)] at e
    cases e
    exact ⟨c.symm, fun k hk => s5 k (by omega), fun _ _ _ => rfl⟩
  · rw [if_neg (by omega)] at e
    obtain ⟨S2, e2, e⟩ := w_b1E e
    cases e
    have cp : cap 175 = 150 := by decide
    have q := sh_add e2 s1 (by omega)
    rw [q]
    refine ⟨by rw [gi_at]; omega, fun k hk => ?_, fun r k hrk => ?_⟩
    · show gl (sl S 176 _ w) 176 k = _
      rw [gl_slN]
      by_cases e : k = (gi S 175 1).toNat
      · rw [if_pos ⟨rfl, e⟩, d, e]
      · rw [if_neg (fun q => e q.2)]
        exact s5 k (by omega)
    · rw [gi_off hrk]; rfl
theorem sim_rp (most : Int) (hm : 0 ≤ most ∧ most ≤ 150) : ∀ (n1 n2 : Nat) (S T : SS) (w : Int64) (len i cnt : Int), TB S T → FE S T → SR S T w len cnt most → 0 ≤ i → ∀ r S1 o T1, f_SheetReader_readProof_20 most n1 S w len i = some (r, S1) → f_M_readProof_7 most n2 T cnt len i = some (o, T1) → FE S1 T1 ∧ ((r = 1 ∧ o = some (gi S1 175 1) ∧ 0 ≤ gi S1 175 1 ∧ gi S1 175 1 ≤ most ∧ ∀ k : Nat, (k : Int) < gi S1 175 1 → gl S1 176 k = gl T1 198 k) ∨ (r = 0 ∧ o = none)) := by
  intro n1
  induction n1 with
  | zero => intro n2 S T w len i cnt _ _ _ _ r S1 o T1 h1 _; exact absurd h1 (by simp [f_SheetReader_readProof_20])
  | succ n1 ih =>
    intro n2 S T w len i cnt hB hF hR h0 r S1 o T1 h1 h2
    cases n2 with
    | zero => exact absurd h2 (by simp [f_M_readProof_7])
    | succ n2 =>
      have h1 : f_SheetReader_readProof_20_b most (f_SheetReader_readProof_20 most n1) S w len i = some (r, S1) := h1
      have h2 : f_M_readProof_7_b most (f_M_readProof_7 most n2) T cnt len i = some (o, T1) := h2
      unfold f_SheetReader_readProof_20_b at h1
      unfold f_M_readProof_7_b at h2
      rw [← hB.1] at h2
      by_cases c : gi S 1 1 ≤ i
      · rw [if_pos c] at h1 h2
        obtain ⟨S2, e2, h1⟩ := w_b1E h1
        have A := sr_add hm.2 hR e2
        cases h1
        cases h2
        refine ⟨⟨by rw [A.2.2 3 0 (by omega)]; exact hF.1, by rw [A.2.2 3 1 (by omega)]; exact hF.2⟩, .inl ⟨rfl, by rw [A.1], ?_, by rw [A.1]; exact hR.2.2.2.1, fun k hk => A.2.1 k (by rw [← A.1]; exact hk)⟩⟩
        rw [A.1]
        obtain ⟨s1, s2, s3, s4, s5⟩ := hR
        omega
      · rw [if_neg c] at h1 h2
        have hx := hB.2.2 i.toNat (by omega)
        rw [w_b1_is (cby h0 (by omega) hB.2.1)] at h1
        rw [w_b1_is (mby h0 (by rw [← hB.1]; omega) (by rw [← hB.1]; exact hB.2.1)), ← hx] at h2
        have b255 := andi255 (gi S 2 i.toNat)
        generalize andi (gi S 2 i.toNat) 255 = ch at h1 h2 b255
        have ebl : f_M_isBlank T ch = f_MP_isBlank S ch := rfl
        rw [ebl] at h2
        by_cases c2 : f_MP_isBlank S ch = 0
        · rw [if_pos c2] at h1 h2
          rw [w_b1_is (ow_eq S T ch b255)] at h1
          have hp : 0 ≤ i + 1 := by omega
          have bad : ∀ kd : Int, (w_b2 (f_Fault_tellOf S kd i) (fun r2_z S1_z => w_chk (r2_z = 0 ∨ r2_z = 1) (some (r2_z, S1_z)))) = some (r, S1) → w_lt (f_M_wrong T kd i) (fun S1_z => some ((none : Option Int), S1_z)) = some (o, T1) → FE S1 T1 ∧ ((r = 1 ∧ o = some (gi S1 175 1) ∧ 0 ≤ gi S1 175 1 ∧ gi S1 175 1 ≤ most ∧ ∀ k : Nat, (k : Int) < gi S1 175 1 → gl S1 176 k = gl T1 198 k) ∨ (r = 0 ∧ o = none)) := by
            intro kd g1 g2
            obtain ⟨a, t, e, g1⟩ := w_b2E g1
            unfold f_Fault_tellOf at e
            cases e
            obtain ⟨_, g1⟩ := w_chkE g1
            cases g1
            cases g2
            refine ⟨⟨?_, ?_⟩, .inr ⟨rfl, rfl⟩⟩
            · show gi (si (si S 3 0 kd) 3 1 i) 3 0 = gi (si (si T 192 14 kd) 192 15 i) 192 14
              rw [gi_off (by omega), gi_at, gi_off (by omega), gi_at]
            · show gi (si (si S 3 0 kd) 3 1 i) 3 1 = gi (si (si T 192 14 kd) 192 15 i) 192 15
              rw [gi_at, gi_at]
          by_cases c3 : f_M_isOfWord T ch = 0
          · rw [if_pos c3] at h1 h2
            unfold f_SheetReader_readProof_77 at h1
            unfold f_M_readProof_51 at h2
            exact bad 1 h1 h2
          · rw [if_neg c3] at h1 h2
            by_cases c4 : len = 8
            · rw [if_pos c4] at h1 h2
              unfold f_SheetReader_readProof_77 at h1
              unfold f_M_readProof_51 at h2
              exact bad 1 h1 h2
            · rw [if_neg c4] at h1 h2
              obtain ⟨s1, s2, s3, s4, s5⟩ := hR
              by_cases c5 : len = 0
              · rw [if_pos c5] at h1 h2
                have s3 : w = 0 ∧ cnt = gi S 175 1 := by
                  rcases s3 with s3 | s3
                  · exact s3.2
                  · omega
                by_cases c6 : gi S 175 1 < most
                · rw [if_pos c6] at h1
                  rw [if_neg (by omega)] at h2
                  unfold f_SheetReader_readProof_109 f_SheetReader_readProof_123 at h1
                  obtain ⟨_, h1⟩ := w_chkE h1
                  obtain ⟨_, h1⟩ := w_chkE h1
                  obtain ⟨_, h2⟩ := w_chkE h2
                  unfold w_lt f_M_readProof_86 at h2
                  obtain ⟨_, h2⟩ := w_chkE h2
                  obtain ⟨_, h2⟩ := w_chkE h2
                  obtain ⟨_, h2⟩ := w_chkE h2
                  obtain ⟨_, h2⟩ := w_chkE h2
                  obtain ⟨_, h2⟩ := w_chkE h2
                  unfold w_lt f_M_readProof_112 at h2
                  obtain ⟨_, h2⟩ := w_chkE h2
                  obtain ⟨_, h2⟩ := w_chkE h2
                  rw [show cnt + 1 - 1 = cnt by omega] at h2
                  refine ih n2 S (sl (sl T 198 cnt.toNat 0) 198 cnt.toNat (lsh (gl (sl T 198 cnt.toNat 0) 198 cnt.toNat) 8 ||| i2l ch)) _ (len + 1) (i + 1) (cnt + 1) hB hF ⟨s1, by omega, .inr ⟨by omega, by omega, ?_⟩, by omega, fun k hk => ?_⟩ hp r S1 o T1 h1 h2
                  · rw [gl_slN, if_pos ⟨rfl, by rw [s3.2]⟩, gl_slN, if_pos ⟨rfl, rfl⟩, s3.1]
                  · rw [gl_slN, if_neg (fun q => by omega), gl_slN, if_neg (fun q => by omega)]
                    exact s5 k hk
                · rw [if_neg c6] at h1
                  rw [if_pos (by omega)] at h2
                  exact bad 3 h1 h2
              · rw [if_neg c5] at h1 h2
                have s3 : cnt = gi S 175 1 + 1 ∧ w = gl T 198 (gi S 175 1).toNat := by
                  rcases s3 with s3 | s3
                  · omega
                  · exact s3.2
                unfold f_SheetReader_readProof_109 f_SheetReader_readProof_123 at h1
                obtain ⟨_, h1⟩ := w_chkE h1
                obtain ⟨_, h1⟩ := w_chkE h1
                unfold f_M_readProof_86 at h2
                obtain ⟨_, h2⟩ := w_chkE h2
                obtain ⟨_, h2⟩ := w_chkE h2
                obtain ⟨_, h2⟩ := w_chkE h2
                obtain ⟨_, h2⟩ := w_chkE h2
                unfold w_lt f_M_readProof_112 at h2
                obtain ⟨_, h2⟩ := w_chkE h2
                obtain ⟨_, h2⟩ := w_chkE h2
                rw [show cnt - 1 = gi S 175 1 by omega] at h2
                refine ih n2 S (sl T 198 (gi S 175 1).toNat (lsh (gl T 198 (gi S 175 1).toNat) 8 ||| i2l ch)) _ (len + 1) (i + 1) cnt hB hF ⟨s1, by omega, .inr ⟨by omega, by omega, ?_⟩, by omega, fun k hk => ?_⟩ hp r S1 o T1 h1 h2
                · rw [gl_slN, if_pos ⟨rfl, rfl⟩, s3.2]
                · rw [gl_slN, if_neg (fun q => by omega)]
                  exact s5 k hk
        · rw [if_neg c2] at h1 h2
          obtain ⟨S2, e2, h1⟩ := w_b1E h1
          have A := sr_add hm.2 hR e2
          unfold f_SheetReader_readProof_123 at h1
          unfold f_M_readProof_112 at h2
          obtain ⟨_, h1⟩ := w_chkE h1
          obtain ⟨_, h2⟩ := w_chkE h2
          obtain ⟨s1, s2, s3, s4, s5⟩ := hR
          refine ih n2 S2 T 0 0 (i + 1) cnt ⟨by rw [A.2.2 1 1 (by omega)]; exact hB.1, by rw [A.2.2 1 1 (by omega)]; exact hB.2.1, fun k hk => ?_⟩ ⟨by rw [A.2.2 3 0 (by omega)]; exact hF.1, by rw [A.2.2 3 1 (by omega)]; exact hF.2⟩ ⟨by rw [A.1]; omega, Int.le_refl _, .inl ⟨rfl, rfl, A.1.symm⟩, s4, fun k hk => A.2.1 k (by rw [← A.1]; exact hk)⟩ (by omega) r S1 o T1 h1 h2
          rw [A.2.2 1 1 (by omega)] at hk
          rw [A.2.2 2 k (by omega)]; exact hB.2.2 k hk
theorem sim_readProof (most : Int) (hm : 0 ≤ most ∧ most ≤ 150) (S T : SS) (hR : TR S T) (hb : 0 ≤ gi S 1 1 ∧ gi S 1 1 ≤ 2000) (r : Int) (S1 : SS) (o : Option Int) (T1 : SS) (h1 : f_SheetReader_readProof S most = some (r, S1)) (h2 : f_M_readProof (f_M_begin T) most = some (o, T1)) : FE S1 T1 ∧ ((r = 1 ∧ o = some (gi S1 175 1) ∧ 0 ≤ gi S1 175 1 ∧ gi S1 175 1 ≤ most ∧ ∀ k : Nat, (k : Int) < gi S1 175 1 → gl S1 176 k = gl T1 198 k) ∨ (r = 0 ∧ o = none)) := by
  unfold f_SheetReader_readProof at h1
  unfold f_M_readProof at h2
  unfold w_lt at h1
  have e175 : gi (f_Fault_clear (f_Sheet_clear S 175)) 175 1 = 0 := by
    show gi (si (si (si S 175 1 0) 3 0 0) 3 1 (-1)) 175 1 = 0
    rw [gi_off (by omega), gi_off (by omega), gi_at]
  have eo : ∀ r k, r ≠ 3 → r ≠ 175 → gi (f_Fault_clear (f_Sheet_clear S 175)) r k = gi S r k := by
    intro r k a c
    show gi (si (si (si S 175 1 0) 3 0 0) 3 1 (-1)) r k = gi S r k
    rw [gi_off (by omega), gi_off (by omega), gi_off (by omega)]
  have mo : ∀ r k, r ≠ 192 → gi (f_M_begin T) r k = gi T r k := by
    intro r k a
    show gi (si (si (si (si (si T 192 9 (gi T 192 8)) 192 8 0) 192 11 0) 192 14 0) 192 15 (-1)) r k = gi T r k
    rw [gi_off (by omega), gi_off (by omega), gi_off (by omega), gi_off (by omega), gi_off (by omega)]
  refine sim_rp most hm FU FU _ _ 0 0 0 0 ⟨?_, by rw [eo 1 1 (by decide) (by decide)]; exact hb.2, fun k hk => ?_⟩ ⟨?_, ?_⟩ ⟨by rw [e175]; exact Int.le_refl _, Int.le_refl _, .inl ⟨rfl, rfl, e175.symm⟩, hm.1, fun k hk => by rw [e175] at hk; omega⟩ (Int.le_refl _) r S1 o T1 h1 h2
  · rw [eo 1 1 (by decide) (by decide), hR.1]
    show gi T 192 8 = gi (si (si (si (si (si T 192 9 (gi T 192 8)) 192 8 0) 192 11 0) 192 14 0) 192 15 (-1)) 192 9
    rw [gi_off (by omega), gi_off (by omega), gi_off (by omega), gi_off (by omega), gi_at]
  · rw [eo 1 1 (by decide) (by decide)] at hk
    rw [eo 2 k (by decide) (by decide), mo 197 k (by decide)]
    exact hR.2 k hk
  · show gi (si (si (si S 175 1 0) 3 0 0) 3 1 (-1)) 3 0 = gi (si (si (si (si (si T 192 9 (gi T 192 8)) 192 8 0) 192 11 0) 192 14 0) 192 15 (-1)) 192 14
    rw [gi_off (by omega), gi_at, gi_off (by omega), gi_at]
  · show gi (si (si (si S 175 1 0) 3 0 0) 3 1 (-1)) 3 1 = gi (si (si (si (si (si T 192 9 (gi T 192 8)) 192 8 0) 192 11 0) 192 14 0) 192 15 (-1)) 192 15
    rw [gi_at, gi_at]
/-- all words of sheet q1 from i on put behind those of q0 -/
theorem sh_all {q0 q1 : Nat} (hne : q0 ≠ q1) (hn2 : q0 + 1 ≠ q1 + 1) : ∀ (n : Nat) (S S1 : SS) (i b0 : Int), f_Sheet_addAll_2 q0 q1 n S i = some S1 → 0 ≤ i → i ≤ gi S q1 1 → 0 ≤ b0 → gi S q0 1 = b0 + i → b0 + gi S q1 1 ≤ cap q0 → gi S q1 1 ≤ cap q1 → gi S1 q0 1 = b0 + gi S q1 1 ∧ (∀ r k, ¬ (r = q0 ∧ k = 1) → gi S1 r k = gi S r k) ∧ (∀ r k, r ≠ q0 + 1 → gl S1 r k = gl S r k) ∧ S1.2.2 = S.2.2 ∧ (∀ k : Nat, (k : Int) < b0 + i → gl S1 (q0 + 1) k = gl S (q0 + 1) k) ∧ (∀ k : Nat, i ≤ (k : Int) → (k : Int) < gi S q1 1 → gl S1 (q0 + 1) (b0.toNat + k) = gl S (q1 + 1) k) := by
  intro n
  induction n with
  | zero => intro S S1 i b0 h; exact absurd h (by simp [f_Sheet_addAll_2])
  | succ n ih =>
    intro S S1 i b0 h h0 h1 h2 h3 h4 h5
    have h : f_Sheet_addAll_2_b q0 q1 (f_Sheet_addAll_2 q0 q1 n) S i = some S1 := h
    unfold f_Sheet_addAll_2_b at h
    by_cases c : gi S q1 1 ≤ i
    · rw [if_pos c] at h
      cases h
      exact ⟨by omega, fun _ _ _ => rfl, fun _ _ _ => rfl, rfl, fun _ _ => rfl, fun k a d => by omega⟩
    · rw [if_neg c] at h
      obtain ⟨w, ew, h⟩ := w_b1E h
      obtain ⟨S4, e4, h⟩ := w_b1E h
      obtain ⟨_, h⟩ := w_chkE h
      unfold f_Sheet_wordAt at ew
      rw [if_neg (by omega), if_neg (by omega), if_pos (by omega), w_chkP (by omega)] at ew
      have ew := Option.some.inj ew
      rw [← ew] at e4
      have q := sh_add e4 (by omega) (by omega)
      have z1 : gi S4 q1 1 = gi S q1 1 := by rw [q, gi_off (fun w => hne w.1.symm)]; rfl
      have z0 : gi S4 q0 1 = b0 + (i + 1) := by rw [q, gi_at]; omega
      have I := ih S4 S1 (i + 1) b0 h (by omega) (by omega) h2 z0 (by omega) (by omega)
      have g4 : ∀ r k, gl S4 r k = if r = q0 + 1 ∧ k = (gi S q0 1).toNat then gl S (q1 + 1) i.toNat else gl S r k := by
        intro r k; rw [q]; show gl (sl S (q0 + 1) _ _) r k = _; rw [gl_slN]
      refine ⟨by rw [I.1, z1], fun r k a => ?_, fun r k a => ?_, ?_, fun k a => ?_, fun k a d => ?_⟩
      · rw [I.2.1 r k a, q, gi_off a]; rfl
      · rw [I.2.2.1 r k a, g4, if_neg (fun w => a w.1)]
      · rw [I.2.2.2.1, q]; rfl
      · rw [I.2.2.2.2.1 k (by omega), g4, if_neg (fun w => by omega)]
      · by_cases e : (k : Int) = i
        · rw [I.2.2.2.2.1 (b0.toNat + k) (by omega), g4, if_pos ⟨rfl, by omega⟩, show i.toNat = k by omega]
        · rw [I.2.2.2.2.2 k (by omega) (by omega), g4, if_neg (fun w => hn2 w.1.symm)]
theorem sh_copy {q0 q1 : Nat} (hne : q0 ≠ q1) (hn2 : q0 + 1 ≠ q1 + 1) (hn3 : q1 + 1 ≠ q0) {S S1 : SS} (h : f_Sheet_copyFrom S q0 q1 = some S1) (h0 : 0 ≤ gi S q1 1) (h1 : gi S q1 1 ≤ cap q0) (h2 : gi S q1 1 ≤ cap q1) : gi S1 q0 1 = gi S q1 1 ∧ (∀ r k, ¬ (r = q0 ∧ k = 1) → gi S1 r k = gi S r k) ∧ (∀ r k, r ≠ q0 + 1 → gl S1 r k = gl S r k) ∧ S1.2.2 = S.2.2 ∧ (∀ k : Nat, (k : Int) < gi S q1 1 → gl S1 (q0 + 1) k = gl S (q1 + 1) k) := by
  unfold f_Sheet_copyFrom f_Sheet_addAll at h
  unfold w_lt at h
  obtain ⟨S3, e3, h⟩ := w_b1E h
  cases h
  have z1 : gi (f_Sheet_clear S q0) q1 1 = gi S q1 1 := gi_off (fun w => hne w.1.symm)
  have z0 : gi (f_Sheet_clear S q0) q0 1 = 0 := gi_at S q0 1 0
  have A := sh_all hne hn2 FU (f_Sheet_clear S q0) S1 0 0 e3 (Int.le_refl _) (by omega) (Int.le_refl _) (by omega) (by omega) (by omega)
  refine ⟨by rw [A.1, z1]; omega, fun r k a => by rw [A.2.1 r k a]; exact gi_off a, fun r k a => by rw [A.2.2.1 r k a]; rfl, A.2.2.2.1, fun k hk => ?_⟩
  have := A.2.2.2.2.2 k (by omega) (by omega)
  rw [show (0 : Int).toNat + k = k by omega] at this
  rw [this]; rfl
/-- alike: tapes, sizes of both proofs, ranks, prices, costs -/
def RBX (S T : SS) : Prop := TR S T ∧ gi S 4 1 = gi T 192 3 ∧ gi S 6 1 = gi T 192 4 ∧ (∀ k, gi S 12 k = gi T 209 k ∨ 3 ≤ k) ∧ (∀ k, gi S 191 k = gi T 210 k ∨ 5 ≤ k) ∧ gi S 183 5 = gi T 211 0 ∧ gi S 183 6 = gi T 211 1
abbrev PCB (r k : Nat) : Prop := (r = 1 ∧ k = 1) ∨ r = 2 ∨ (r = 4 ∧ k = 1) ∨ (r = 6 ∧ k = 1) ∨ r = 12 ∨ r = 191 ∨ (r = 183 ∧ (k = 5 ∨ k = 6))
abbrev PRB (r k : Nat) : Prop := r = 197 ∨ r = 209 ∨ r = 210 ∨ r = 211 ∨ (r = 192 ∧ (k = 3 ∨ k = 4 ∨ k = 8))
theorem RBX_keep {S T S1 T1 : SS} (h : RBX S T) (hs : ∀ r k, PCB r k → gi S1 r k = gi S r k) (ht : ∀ r k, PRB r k → gi T1 r k = gi T r k) : RBX S1 T1 := by
  obtain ⟨⟨a1, a2⟩, b, c, d, e, f, g⟩ := h
  refine ⟨⟨by rw [hs 1 1 (by omega), ht 192 8 (by omega)]; exact a1, fun k hk => ?_⟩, by rw [hs 4 1 (by omega), ht 192 3 (by omega)]; exact b, by rw [hs 6 1 (by omega), ht 192 4 (by omega)]; exact c, fun k => by rw [hs 12 k (by omega), ht 209 k (by omega)]; exact d k, fun k => by rw [hs 191 k (by omega), ht 210 k (by omega)]; exact e k, by rw [hs 183 5 (by omega), ht 211 0 (by omega)]; exact f, by rw [hs 183 6 (by omega), ht 211 1 (by omega)]; exact g⟩
  rw [hs 1 1 (by omega)] at hk
  rw [hs 2 k (by omega), ht 197 k (by omega)]; exact a2 k hk
theorem RBX_0 : RBX SZ SZ := by
  refine ⟨⟨rfl, fun k hk => absurd hk (by show ¬ (k : Int) < 0; omega)⟩, rfl, rfl, fun k => ?_, fun k => ?_, rfl, rfl⟩
  · by_cases h : 3 ≤ k
    · exact .inr h
    · left
      have : k = 0 ∨ k = 1 ∨ k = 2 := by omega
      rcases this with e | e | e <;> subst e <;> rfl
  · by_cases h : 5 ≤ k
    · exact .inr h
    · left
      have : k = 0 ∨ k = 1 ∨ k = 2 ∨ k = 3 ∨ k = 4 := by omega
      rcases this with e | e | e | e | e <;> subst e <;> rfl
theorem keep_fr {X : Nat → Nat → Prop} {S S1 : SS} (h : fr X S S1) (P : Nat → Nat → Prop) (hd : ∀ r k, P r k → ¬ X r k) : ∀ r k, P r k → gi S1 r k = gi S r k := fun r k p => h r k (hd r k p)
theorem keep_refl {S : SS} (P : Nat → Nat → Prop) : ∀ r k, P r k → gi S r k = gi S r k := fun _ _ _ => rfl
/-- the reference: these commands keep all but what judging and making write -/
abbrev XM (r k : Nat) : Prop := XH r k ∨ r = 205 ∨ r = 208
theorem fm_word {T : SS} (hM : MX 0 T) (hN : NX T) (a1 a2 : Int) : pc (f_M_word T a1 a2) (fun u => fr XM T u.2) := by
  unfold f_M_word
  refine pc_b1 (ok_true (ok_M_isText T a1 hM)) (fun r1 h1 => pc_if (fun c => pc_some (fr_refl _ T)) (fun c => pc_b2 (ok_true (ok_M_wordsOf hM hN a1 (by omega))) (fun r5 S4 h4 => ?_)))
  have f4 : fr XM T S4 := fr_mono h4.2.1 (fun r k q => .inl q)
  exact pc_chk (fun _ => pc_if (fun _ => pc_some f4) (fun _ => pf_b1 (fun _ => pc_some f4)))
theorem fm_distance {T : SS} (hM : MX 0 T) (hN : NX T) (a1 a2 : Int) : pc (f_M_distance T a1 a2) (fun u => fr XM T u.2) := by
  unfold f_M_distance
  refine pc_b1 (ok_true (ok_M_isText T a1 hM)) (fun r1 h1 => pc_if (fun c => pc_some (fr_refl _ T)) (fun c => pc_b1 (ok_true (ok_M_isText T a2 hM)) (fun r3 h3 => pc_if (fun c2 => pc_some (fr_refl _ T)) (fun c2 => pc_b2 (ok_true (ok_M_wordsOf hM hN a1 (by omega))) (fun r6 S5 h5 => ?_)))))
  have n5 : NX S5 := nx_fr hN h5.2.1 (fun k => by omega) (by omega) (by omega)
  refine pc_b2 (ok_true (ok_M_wordsOf h5.1 n5 a2 (by omega))) (fun r9 S8 h8 => pc_b2 (ok_true (ok_M_apart S8 a1 r6 a2 r9 h8.1 h5.2.2.1 h8.2.2.1)) (fun r12 S11 h11 => pc_some ?_))
  exact fr_trans (fr_mono (fr_trans h5.2.1 h8.2.1) (fun r k q => .inl q)) (fun r k a => h11.2.1 r k (by omega))
theorem fm_mark {T : SS} (hM : MX 0 T) (a1 a2 : Int) : pc (f_M_mark T a1 a2) (fun u => fr XM T u.2) := by
  unfold f_M_mark
  have h0 := fr_refl XM T
  have hj : pc (f_M_judge T) (fr XM T) := pc_mono (pc_judge T hM) (fun S1 h r k a => h.1.2 r k (by omega) (by omega))
  repeat' first | with_reducible exact pc_some (by assumption) | with_reducible refine pc_b1 hj (fun _ _ => ?_) | with_reducible refine pc_chk (fun _ => ?_) | with_reducible refine pc_if (fun _ => ?_) (fun _ => ?_) | with_reducible refine pf_b1 (fun _ => ?_)
theorem fm_answer {T : SS} (hM : MX 0 T) (a1 a2 : Int) : pc (f_M_answer T a1 a2) (fun u => fr XM T u.2) := by
  unfold f_M_answer f_M_answer_42
  have h0 := fr_refl XM T
  have hj : pc (f_M_judge T) (fr XM T) := pc_mono (pc_judge T hM) (fun S1 h r k a => h.1.2 r k (by omega) (by omega))
  repeat' first | with_reducible exact pc_some (by assumption) | with_reducible refine pc_b1 hj (fun _ _ => ?_) | with_reducible refine pc_chk (fun _ => ?_) | with_reducible refine pc_if (fun _ => ?_) (fun _ => ?_) | with_reducible refine pf_lt (by assumption) (by omega) (fun _ _ => ?_) | with_reducible refine pf_b1 (fun _ => ?_)
theorem fm_error {T : SS} (a1 a2 : Int) : pc (f_M_error T a1 a2) (fun u => fr XM T u.2) := by
  unfold f_M_error
  have h0 := fr_refl XM T
  repeat' first | with_reducible exact pc_some (by assumption) | with_reducible refine pc_chk (fun _ => ?_) | with_reducible refine pc_if (fun _ => ?_) (fun _ => ?_) | with_reducible refine pf_lt (by assumption) (by omega) (fun _ _ => ?_) | with_reducible refine pf_b1 (fun _ => ?_)
theorem fm_hold {T : SS} (hM : MX 0 T) (hN : NX T) : pc (f_M_hold T) (fun u => fr XM T u.2) := by
  have b27 := mx_192_27 hM
  unfold f_M_hold
  exact pc_b1 (ok_true (HI_judge hM)) (fun S1 h1 => pc_mono (ok_true (okl_M_hold_8 T hN FU S1 0 h1 (by omega) (by unfold FU; omega))) (fun u hu => fr_mono hu.2 (fun r k q => .inl q)))
theorem fm_count {T : SS} (hM : MX 0 T) (hN : NX T) (a1 : Int) : pc (f_M_count T a1) (fun u => fr XM T u.2) := by
  have h0 := fr_refl XM T
  have i1 := in01 T a1 0 2
  have i3 := in01 T a1 4 8
  unfold f_M_count
  refine pc_if (fun c1 => pc_if (fun c2 => pc_if (fun _ => pc_some h0) (fun _ => pc_if (fun _ => pc_some h0) (fun _ => pc_if (fun _ => pc_some h0) (fun c3 => ?_)))) (fun c2 => pc_chk (fun _ => pc_chk (fun _ => pc_some h0)))) (fun c1 => pc_b2 (ok_true (ok_M_wordsOf hM hN a1 (by omega))) (fun r S13 h => pc_some (fr_mono h.2.1 (fun r k q => .inl q))))
  refine pc_b1 (ok_true (HI_judge hM)) (fun S7 h7 => pc_mono (ok_true (okl_M_count a1 (by omega) S7 h7.1 FU 0 0 (by omega) (by unfold FU; omega))) (fun u e => ?_))
  rw [e]; exact fr_mono h7.2.1 (fun r k q => .inl q)
theorem fm_pays {T : SS} (hM : MX 0 T) (hN : NX T) (a1 : Int) : pc (f_M_pays T a1) (fun u => fr XM T u.2) := by
  unfold f_M_pays
  refine pc_if (fun _ => pc_some (fr_refl _ T)) (fun _ => pc_b1 (ok_true (HI_judge hM)) (fun S3 h3 => pc_mono (ok_true (okl_M_pays a1 T S3 hN h3 FU 0 0 (by omega) (by omega) (by unfold FU; omega))) (fun u e => ?_)))
  rw [e]; exact fr_mono h3.2.1 (fun r k q => .inl q)
theorem XM_PRB : ∀ r k, PRB r k → ¬ XM r k := fun r k p => by omega
theorem pfx_lay {X : Nat → Nat → Prop} (h197 : ∀ k, X 197 k) (h8 : X 192 8) (S0 : SS) (v1 : Int) : ∀ (n : Nat) (S : SS) (v2 : Int), fr X S0 S → pc (f_M_lay_3 v1 n S v2) (fr X S0) := by
  intro n
  induction n with
  | zero => intro S v2 h r e; exact absurd e (by simp [f_M_lay_3])
  | succ n ih =>
    intro S v2 h
    show pc (f_M_lay_3_b v1 (f_M_lay_3 v1 n) S v2) _
    unfold f_M_lay_3_b
    exact pc_if (fun _ => pc_some h) (fun _ => pc_chk (fun _ => pf_lt h (h197 _) (fun _ h => pc_chk (fun _ => pf_lt h h8 (fun _ h => pc_chk (fun _ => ih _ _ h))))))
abbrev XTP (r k : Nat) : Prop := r = 197 ∨ (r = 192 ∧ k = 8)
theorem fm_feed (S : SS) (v1 v2 v3 v4 v5 : Int) : pc (f_M_feed S v1 v2 v3 v4 v5) (fun u => fr XTP S u.2) := by
  have L := fun v S' (h : fr XTP S S') => pfx_lay (X := XTP) (fun k => .inl rfl) (.inr ⟨rfl, rfl⟩) S v FU S' 24 h
  unfold f_M_feed f_M_lay
  exact pc_chk (fun _ => pc_if (fun _ => pc_b1 (L _ _ (fr_refl _ S)) (fun _ h => pc_b1 (L _ _ h) (fun _ h => pc_b1 (L _ _ h) (fun _ h => pc_b1 (L _ _ h) (fun _ h => pc_b1 (L _ _ h) (fun _ h => pc_some h)))))) (fun _ => pc_some (fr_refl _ S)))
theorem fm_end (S : SS) (v1 : Int) : pc (f_M_end S v1) (fun u => fr XTP S u.2) := by
  unfold f_M_end
  exact pc_if (fun _ => pc_some (fr_refl _ S)) (fun _ => pf_lt (fr_refl _ S) (.inr ⟨rfl, rfl⟩) (fun _ h => pc_some h))
theorem RBX_tape {S T S1 T1 : SS} (h : RBX S T) (hR : TR S1 T1) (hs : ∀ r k, PCB r k → r ≠ 1 → r ≠ 2 → gi S1 r k = gi S r k) (ht : ∀ r k, PRB r k → ¬ XTP r k → gi T1 r k = gi T r k) : RBX S1 T1 := by
  obtain ⟨_, b, c, d, e, f, g⟩ := h
  exact ⟨hR, by rw [hs 4 1 (by omega) (by omega) (by omega), ht 192 3 (by omega) (by omega)]; exact b, by rw [hs 6 1 (by omega) (by omega) (by omega), ht 192 4 (by omega) (by omega)]; exact c, fun k => by rw [hs 12 k (by omega) (by omega) (by omega), ht 209 k (by omega) (by omega)]; exact d k, fun k => by rw [hs 191 k (by omega) (by omega) (by omega), ht 210 k (by omega) (by omega)]; exact e k, by rw [hs 183 5 (by omega) (by omega) (by omega), ht 211 0 (by omega) (by omega)]; exact f, by rw [hs 183 6 (by omega) (by omega) (by omega), ht 211 1 (by omega) (by omega)]; exact g⟩
abbrev XCT (r k : Nat) : Prop := r = 2 ∨ (r = 1 ∧ k = 1)
theorem RBX_feed {S T S1 T1 : SS} {a1 a2 a3 a4 a5 r t : Int} (hC : CX 0 S) (h : RBX S T) (h1 : f_MP_feed S a1 a2 a3 a4 a5 = some (r, S1)) (h2 : f_M_feed T a1 a2 a3 a4 a5 = some (t, T1)) : RBX S1 T1 ∧ r = t := by
  have q := sim_feed S T a1 a2 a3 a4 a5 r t S1 T1 h.1 (cx_1_1 hC).1 h1 h2
  have f1 := fx_MP_feed (X := XCT) (S0 := S) (x_2 := fun k => .inl rfl) (x_1_1 := .inr ⟨rfl, rfl⟩) S a1 a2 a3 a4 a5 (FX_refl _ S) _ h1
  have f2 := fm_feed T a1 a2 a3 a4 a5 _ h2
  exact ⟨RBX_tape h q.2 (fun r k p a c => f1.1 r k (by omega)) (fun r k p a => f2 r k a), q.1⟩
theorem RBX_end {S T S1 T1 : SS} {a1 r t : Int} (h : RBX S T) (h1 : f_MP_end S a1 = some (r, S1)) (h2 : f_M_end T a1 = some (t, T1)) : RBX S1 T1 ∧ r = t := by
  have q := sim_end S T a1 r t S1 T1 h.1 h1 h2
  have f1 := fx_MP_end (X := XCT) (S0 := S) (x_1_1 := .inr ⟨rfl, rfl⟩) S a1 (FX_refl _ S) _ h1
  have f2 := fm_end T a1 _ h2
  exact ⟨RBX_tape h q.2 (fun r k p a c => f1.1 r k (by omega)) (fun r k p a => f2 r k a), q.1⟩
theorem pfx_readProof {X : Nat → Nat → Prop} (h14 : X 192 14) (h15 : X 192 15) (S0 : SS) (v1 : Int) : ∀ (n : Nat) (S : SS) (v2 v3 v4 : Int), fr X S0 S → pc (f_M_readProof_7 v1 n S v2 v3 v4) (fun u => fr X S0 u.2) := by
  intro n
  induction n with
  | zero => intro S v2 v3 v4 h r e; exact absurd e (by simp [f_M_readProof_7])
  | succ n ih =>
    intro S v2 v3 v4 h
    show pc (f_M_readProof_7_b v1 (f_M_readProof_7 v1 n) S v2 v3 v4) _
    unfold f_M_readProof_7_b f_M_readProof_86 f_M_readProof_112 f_M_readProof_51
    repeat' first | with_reducible exact ih _ _ _ _ (by assumption) | with_reducible exact pc_some (by assumption) | with_reducible refine pc_chk (fun _ => ?_) | with_reducible refine pc_if (fun _ => ?_) (fun _ => ?_) | with_reducible refine pf_wr (by assumption) h14 h15 (fun _ _ => ?_) | with_reducible refine pf_lts (by assumption) (fun _ _ => ?_) | with_reducible refine pf_b1 (fun _ => ?_)
/-- what reading a proof changes in the reference's ints -/
abbrev XRP (r k : Nat) : Prop := r = 192 ∧ (k = 9 ∨ k = 11 ∨ k = 14 ∨ k = 15)
theorem m_begin_is (T : SS) : gi (f_M_begin T) 192 8 = 0 ∧ ∀ r k, ¬ XRP r k → ¬ (r = 192 ∧ k = 8) → gi (f_M_begin T) r k = gi T r k := by
  refine ⟨?_, fun r k a c => ?_⟩
  · show gi (si (si (si (si (si T 192 9 (gi T 192 8)) 192 8 0) 192 11 0) 192 14 0) 192 15 (-1)) 192 8 = 0
    rw [gi_off (by omega), gi_off (by omega), gi_off (by omega), gi_at]
  · show gi (si (si (si (si (si T 192 9 (gi T 192 8)) 192 8 0) 192 11 0) 192 14 0) 192 15 (-1)) r k = gi T r k
    rw [gi_off (by omega), gi_off (by omega), gi_off (by omega), gi_off (by omega), gi_off (by omega)]
theorem m_rp_is {T T1 : SS} {most : Int} {o : Option Int} (h : f_M_readProof (f_M_begin T) most = some (o, T1)) : gi T1 192 8 = 0 ∧ ∀ r k, ¬ XRP r k → ¬ (r = 192 ∧ k = 8) → gi T1 r k = gi T r k := by
  have f := pfx_readProof (X := XRP) (by omega) (by omega) (f_M_begin T) most FU (f_M_begin T) 0 0 0 (fr_refl _ _) _ h
  have b := m_begin_is T
  exact ⟨by rw [f 192 8 (by omega)]; exact b.1, fun r k a c => by rw [f r k a]; exact b.2 r k a c⟩
theorem m_first_is : ∀ (n : Nat) (S S1 : SS) (v1 v2 t : Int), f_M_first_19 n S v1 v2 = some (t, S1) → 0 ≤ v2 → t = v1 ∧ gi S1 192 3 = v1 ∧ (∀ r k, ¬ (r = 192 ∧ (k = 3 ∨ k = 27)) → gi S1 r k = gi S r k) ∧ gi S1 192 27 = 0 ∧ (∀ r k, r ≠ 193 → gl S1 r k = gl S r k) ∧ (∀ k : Nat, (k : Int) < v2 → gl S1 193 k = gl S 193 k) ∧ (∀ k : Nat, v2 ≤ (k : Int) → (k : Int) < v1 → gl S1 193 k = gl S 198 k) := by
  intro n
  induction n with
  | zero => intro S S1 v1 v2 t h; exact absurd h (by simp [f_M_first_19])
  | succ n ih =>
    intro S S1 v1 v2 t h h0
    have h : f_M_first_19_b (f_M_first_19 n) S v1 v2 = some (t, S1) := h
    unfold f_M_first_19_b at h
    by_cases c : v1 ≤ v2
    · rw [if_pos c] at h
      unfold w_lt at h
      cases h
      exact ⟨rfl, by rw [gi_off (by omega), gi_at], fun r k a => by rw [gi_off (by omega), gi_off (by omega)], gi_at _ _ _ _, fun _ _ _ => rfl, fun _ _ => rfl, fun k a d => by omega⟩
    · rw [if_neg c] at h
      obtain ⟨_, h⟩ := w_chkE h
      obtain ⟨_, h⟩ := w_chkE h
      unfold w_lt at h
      obtain ⟨_, h⟩ := w_chkE h
      have I := ih _ S1 v1 (v2 + 1) t h (by omega)
      refine ⟨I.1, I.2.1, fun r k a => I.2.2.1 r k a, I.2.2.2.1, fun r k a => ?_, fun k a => ?_, fun k a d => ?_⟩
      · rw [I.2.2.2.2.1 r k a, gl_slN, if_neg (fun q => a q.1)]
      · rw [I.2.2.2.2.2.1 k (by omega), gl_slN, if_neg (fun q => by omega)]
      · by_cases e : (k : Int) = v2
        · rw [I.2.2.2.2.2.1 k (by omega), gl_slN, if_pos ⟨rfl, by omega⟩, show v2.toNat = k by omega]
        · rw [I.2.2.2.2.2.2 k (by omega) d, gl_slN, if_neg (fun q => absurd q.1 (by decide))]
theorem m_second_is : ∀ (n : Nat) (S S1 : SS) (v1 v2 t : Int), f_M_second_20 n S v1 v2 = some (t, S1) → 0 ≤ v2 → t = v1 ∧ gi S1 192 4 = v1 ∧ (∀ r k, ¬ (r = 192 ∧ k = 4) → gi S1 r k = gi S r k) ∧ (∀ r k, r ≠ 194 → gl S1 r k = gl S r k) ∧ (∀ k : Nat, (k : Int) < v2 → gl S1 194 k = gl S 194 k) ∧ (∀ k : Nat, v2 ≤ (k : Int) → (k : Int) < v1 → gl S1 194 k = gl S 198 k) := by
  intro n
  induction n with
  | zero => intro S S1 v1 v2 t h; exact absurd h (by simp [f_M_second_20])
  | succ n ih =>
    intro S S1 v1 v2 t h h0
    have h : f_M_second_20_b (f_M_second_20 n) S v1 v2 = some (t, S1) := h
    unfold f_M_second_20_b at h
    by_cases c : v1 ≤ v2
    · rw [if_pos c] at h
      unfold w_lt at h
      cases h
      exact ⟨rfl, gi_at _ _ _ _, fun r k a => gi_off a, fun _ _ _ => rfl, fun _ _ => rfl, fun k a d => by omega⟩
    · rw [if_neg c] at h
      obtain ⟨_, h⟩ := w_chkE h
      obtain ⟨_, h⟩ := w_chkE h
      unfold w_lt at h
      obtain ⟨_, h⟩ := w_chkE h
      have I := ih _ S1 v1 (v2 + 1) t h (by omega)
      refine ⟨I.1, I.2.1, fun r k a => I.2.2.1 r k a, fun r k a => ?_, fun k a => ?_, fun k a d => ?_⟩
      · rw [I.2.2.2.1 r k a, gl_slN, if_neg (fun q => a q.1)]
      · rw [I.2.2.2.2.1 k (by omega), gl_slN, if_neg (fun q => by omega)]
      · by_cases e : (k : Int) = v2
        · rw [I.2.2.2.2.1 k (by omega), gl_slN, if_pos ⟨rfl, by omega⟩, show v2.toNat = k by omega]
        · rw [I.2.2.2.2.2 k (by omega) d, gl_slN, if_neg (fun q => absurd q.1 (by decide))]
theorem m_next_is : ∀ (n : Nat) (S S1 : SS) (v1 t : Int), f_M_next_20 n S v1 = some (t, S1) → 0 ≤ v1 → t = gi S 192 4 ∧ gi S1 192 3 = gi S 192 4 ∧ gi S1 192 4 = 0 ∧ gi S1 192 27 = 0 ∧ (∀ r k, ¬ (r = 192 ∧ (k = 3 ∨ k = 4 ∨ k = 27)) → gi S1 r k = gi S r k) ∧ (∀ r k, r ≠ 193 → gl S1 r k = gl S r k) ∧ (∀ k : Nat, (k : Int) < v1 → gl S1 193 k = gl S 193 k) ∧ (∀ k : Nat, v1 ≤ (k : Int) → (k : Int) < gi S 192 4 → gl S1 193 k = gl S 194 k) := by
  intro n
  induction n with
  | zero => intro S S1 v1 t h; exact absurd h (by simp [f_M_next_20])
  | succ n ih =>
    intro S S1 v1 t h h0
    have h : f_M_next_20_b (f_M_next_20 n) S v1 = some (t, S1) := h
    unfold f_M_next_20_b at h
    by_cases c : gi S 192 4 ≤ v1
    · rw [if_pos c] at h
      unfold w_lt at h
      cases h
      refine ⟨by rw [gi_off (by omega), gi_off (by omega), gi_at], by rw [gi_off (by omega), gi_off (by omega), gi_at], by rw [gi_off (by omega), gi_at], gi_at _ _ _ _, fun r k a => by rw [gi_off (by omega), gi_off (by omega), gi_off (by omega)], fun _ _ _ => rfl, fun _ _ => rfl, fun k a d => by omega⟩
    · rw [if_neg c] at h
      obtain ⟨_, h⟩ := w_chkE h
      obtain ⟨_, h⟩ := w_chkE h
      unfold w_lt at h
      obtain ⟨_, h⟩ := w_chkE h
      have I := ih _ S1 (v1 + 1) t h (by omega)
      refine ⟨I.1, I.2.1, I.2.2.1, I.2.2.2.1, fun r k a => I.2.2.2.2.1 r k a, fun r k a => ?_, fun k a => ?_, fun k a d => ?_⟩
      · rw [I.2.2.2.2.2.1 r k a, gl_slN, if_neg (fun q => a q.1)]
      · rw [I.2.2.2.2.2.2.1 k (by omega), gl_slN, if_neg (fun q => by omega)]
      · by_cases e : (k : Int) = v1
        · rw [I.2.2.2.2.2.2.1 k (by omega), gl_slN, if_pos ⟨rfl, by omega⟩, show v1.toNat = k by omega]
        · rw [I.2.2.2.2.2.2.2 k (by omega) d, gl_slN, if_neg (fun q => absurd q.1 (by decide))]
/-- alike after both tapes are emptied, with new sizes -/
theorem RBX_sizes {S T S1 T1 : SS} (h : RBX S T) (z1 : gi S1 1 1 = 0) (z2 : gi T1 192 8 = 0) (e4 : gi S1 4 1 = gi T1 192 3) (e6 : gi S1 6 1 = gi T1 192 4) (hs : ∀ r k, PCB r k → r ≠ 1 → r ≠ 2 → r ≠ 4 → r ≠ 6 → gi S1 r k = gi S r k) (ht : ∀ r k, PRB r k → r ≠ 197 → r ≠ 192 → gi T1 r k = gi T r k) : RBX S1 T1 := by
  obtain ⟨_, b, c, d, e, f, g⟩ := h
  exact ⟨⟨by rw [z1, z2], fun k hk => by omega⟩, e4, e6, fun k => by rw [hs 12 k (by omega) (by omega) (by omega) (by omega) (by omega), ht 209 k (by omega) (by omega) (by omega)]; exact d k, fun k => by rw [hs 191 k (by omega) (by omega) (by omega) (by omega) (by omega), ht 210 k (by omega) (by omega) (by omega)]; exact e k, by rw [hs 183 5 (by omega) (by omega) (by omega) (by omega) (by omega), ht 211 0 (by omega) (by omega) (by omega)]; exact f, by rw [hs 183 6 (by omega) (by omega) (by omega) (by omega) (by omega), ht 211 1 (by omega) (by omega) (by omega)]; exact g⟩
abbrev XSR (r k : Nat) : Prop := r = 3 ∨ r = 175
theorem RBX_first {S T S1 T1 : SS} {r t : Int} (hC : CX 0 S) (h : RBX S T) (h1 : f_MP_first S = some (r, S1)) (h2 : f_M_first T = some (t, T1)) : RBX S1 T1 ∧ r = t := by
  unfold f_MP_first at h1
  unfold f_M_first at h2
  unfold w_lt at h1 h2
  obtain ⟨r2, S2, e2, h1⟩ := w_b2E h1
  have f2 := fx_SheetReader_readProof (X := XSR) (S0 := S) (x_3_0 := .inl rfl) (x_3_1 := .inl rfl) (x_175_1 := .inr rfl) S 60 (FX_refl _ S) _ e2
  have g11 : ∀ r k, ¬ (r = 1 ∧ k = 1) → gi (si S2 1 1 0) r k = gi S2 r k := fun r k a => gi_off a
  rcases w_b3E h2 with ⟨n, T2, e3, h2⟩ | ⟨T2, e3, h2⟩
  · have q := sim_readProof 60 (by decide) S T h.1 (cx_1_1 hC) r2 S2 (some n) T2 e2 e3
    have m2 := m_rp_is e3
    rcases q.2 with ⟨qr, qo, q0, q1, _⟩ | ⟨_, qo⟩
    · cases qo
      dsimp only at h1
      rw [if_neg (show ¬ r2 = 0 by omega)] at h1
      obtain ⟨S5, e5, h1⟩ := w_b1E h1
      obtain ⟨S9, e9, h1⟩ := w_b1E h1
      cases h1
      have k1 : gi (si S2 1 1 0) 175 1 = gi S2 175 1 := gi_off (by omega)
      have c4 : cap 4 = 60 := by decide
      have c175 : cap 175 = 150 := by decide
      have cp := sh_copy (by decide) (by decide) (by decide) e5 (by omega) (by omega) (by omega)
      have st := fs_settle (X := XT) (fun _ _ q => q) (f_Pile_clear S5) (f_Pile_clear S5) (fr_refl _ _) _ e9
      have pcl : ∀ r k, r ≠ 10 → gi (f_Pile_clear S5) r k = gi S5 r k := by
        intro r k a
        show gi (si (si (si S5 10 3 0) 10 4 0) 10 5 0) r k = _
        rw [gi_off (by omega), gi_off (by omega), gi_off (by omega)]
      have all : ∀ r k, ¬ XT r k → r ≠ 10 → ¬ (r = 4 ∧ k = 1) → ¬ (r = 1 ∧ k = 1) → ¬ XSR r k → gi S1 r k = gi S r k := by
        intro r k a1 a2 a3 a4 a5
        rw [st r k a1, pcl r k a2, cp.2.1 r k a3, g11 r k a4]; exact f2.1 r k a5
      have e4 : gi S1 4 1 = gi S2 175 1 := by
        rw [st 4 1 (by omega), pcl 4 1 (by omega), cp.1]; exact k1
      have F := m_first_is FU T2 T1 (gi S2 175 1) 0 t h2 (Int.le_refl _)
      refine ⟨RBX_sizes h ?_ ?_ (e4.trans F.2.1.symm) ?_ (fun r k p a1 a2 a3 a4 => all r k (by omega) (by omega) (by omega) (by omega) (by omega)) (fun r k p a1 a2 => ?_), e4.trans F.1.symm⟩
      · rw [st 1 1 (by omega), pcl 1 1 (by omega), cp.2.1 1 1 (by omega), gi_at]
      · rw [F.2.2.1 192 8 (by omega)]; exact m2.1
      · rw [all 6 1 (by omega) (by omega) (by omega) (by omega) (by omega), F.2.2.1 192 4 (by omega), m2.2 192 4 (by omega) (by omega)]
        exact h.2.2.1
      · rw [F.2.2.1 r k (by omega), m2.2 r k (by omega) (by omega)]
    · cases qo
  · have q := sim_readProof 60 (by decide) S T h.1 (cx_1_1 hC) r2 S2 none T2 e2 e3
    have m2 := m_rp_is e3
    rcases q.2 with ⟨_, qo, _⟩ | ⟨qr, _⟩
    · cases qo
    · dsimp only at h1
      rw [if_pos qr] at h1
      cases h1
      cases h2
      refine ⟨RBX_sizes h (gi_at _ _ _ _) m2.1 ?_ ?_ (fun r k p a1 a2 a3 a4 => by rw [g11 r k (by omega)]; exact f2.1 r k (by omega)) (fun r k p a1 a2 => m2.2 r k (by omega) (by omega)), rfl⟩
      · rw [g11 4 1 (by omega), f2.1 4 1 (by omega), m2.2 192 3 (by omega) (by omega)]; exact h.2.1
      · rw [g11 6 1 (by omega), f2.1 6 1 (by omega), m2.2 192 4 (by omega) (by omega)]; exact h.2.2.1
theorem RBX_second {S T S1 T1 : SS} {r t : Int} (hC : CX 0 S) (h : RBX S T) (h1 : f_MP_second S = some (r, S1)) (h2 : f_M_second T = some (t, T1)) : RBX S1 T1 ∧ r = t := by
  unfold f_MP_second at h1
  unfold f_M_second at h2
  unfold w_lt at h1 h2
  obtain ⟨r2, S2, e2, h1⟩ := w_b2E h1
  have f2 := fx_SheetReader_readProof (X := XSR) (S0 := S) (x_3_0 := .inl rfl) (x_3_1 := .inl rfl) (x_175_1 := .inr rfl) S 150 (FX_refl _ S) _ e2
  have g11 : ∀ r k, ¬ (r = 1 ∧ k = 1) → gi (si S2 1 1 0) r k = gi S2 r k := fun r k a => gi_off a
  rcases w_b3E h2 with ⟨n, T2, e3, h2⟩ | ⟨T2, e3, h2⟩
  · have q := sim_readProof 150 (by decide) S T h.1 (cx_1_1 hC) r2 S2 (some n) T2 e2 e3
    have m2 := m_rp_is e3
    rcases q.2 with ⟨qr, qo, q0, q1, _⟩ | ⟨_, qo⟩
    · cases qo
      dsimp only at h1
      rw [if_neg (show ¬ r2 = 0 by omega)] at h1
      obtain ⟨S5, e5, h1⟩ := w_b1E h1
      cases h1
      have k1 : gi (si S2 1 1 0) 175 1 = gi S2 175 1 := gi_off (by omega)
      have c6 : cap 6 = 150 := by decide
      have c175 : cap 175 = 150 := by decide
      have cp := sh_copy (by decide) (by decide) (by decide) e5 (by omega) (by omega) (by omega)
      have F := m_second_is FU T2 T1 (gi S2 175 1) 0 t h2 (Int.le_refl _)
      have e6 : gi S1 6 1 = gi S2 175 1 := cp.1.trans k1
      have all : ∀ r k, ¬ (r = 6 ∧ k = 1) → ¬ (r = 1 ∧ k = 1) → ¬ XSR r k → gi S1 r k = gi S r k := by
        intro r k a3 a4 a5
        rw [cp.2.1 r k a3, g11 r k a4]; exact f2.1 r k a5
      refine ⟨RBX_sizes h ?_ ?_ ?_ (e6.trans F.2.1.symm) (fun r k p a1 a2 a3 a4 => all r k (by omega) (by omega) (by omega)) (fun r k p a1 a2 => ?_), e6.trans F.1.symm⟩
      · rw [cp.2.1 1 1 (by omega), gi_at]
      · rw [F.2.2.1 192 8 (by omega)]; exact m2.1
      · rw [all 4 1 (by omega) (by omega) (by omega), F.2.2.1 192 3 (by omega), m2.2 192 3 (by omega) (by omega)]
        exact h.2.1
      · rw [F.2.2.1 r k (by omega), m2.2 r k (by omega) (by omega)]
    · cases qo
  · have q := sim_readProof 150 (by decide) S T h.1 (cx_1_1 hC) r2 S2 none T2 e2 e3
    have m2 := m_rp_is e3
    rcases q.2 with ⟨_, qo, _⟩ | ⟨qr, _⟩
    · cases qo
    · dsimp only at h1
      rw [if_pos qr] at h1
      cases h1
      cases h2
      refine ⟨RBX_sizes h (gi_at _ _ _ _) m2.1 ?_ ?_ (fun r k p a1 a2 a3 a4 => by rw [g11 r k (by omega)]; exact f2.1 r k (by omega)) (fun r k p a1 a2 => m2.2 r k (by omega) (by omega)), rfl⟩
      · rw [g11 4 1 (by omega), f2.1 4 1 (by omega), m2.2 192 3 (by omega) (by omega)]; exact h.2.1
      · rw [g11 6 1 (by omega), f2.1 6 1 (by omega), m2.2 192 4 (by omega) (by omega)]; exact h.2.2.1
theorem RBX_next {S T S1 T1 : SS} {r t : Int} (hC : CX 0 S) (h : RBX S T) (h1 : f_MP_next S = some (r, S1)) (h2 : f_M_next T = some (t, T1)) : RBX S1 T1 ∧ r = t := by
  have b6 := cx_sh hC (show shOk 6 by decide)
  have i := in01 T (gi T 192 4) 1 60
  unfold f_MP_next at h1
  unfold f_M_next at h2
  rw [← h.2.2.1] at h2 i
  by_cases c : 1 ≤ gi S 6 1 ∧ gi S 6 1 ≤ 60
  · rw [if_neg (by omega), if_pos (by omega)] at h1
    rw [if_neg (by omega)] at h2
    obtain ⟨S3, e3, h1⟩ := w_b1E h1
    unfold w_lt at h1
    obtain ⟨S9, e9, h1⟩ := w_b1E h1
    cases h1
    have c4 : cap 4 = 60 := by decide
    have c6 : cap 6 = 150 := by decide
    have cp := sh_copy (by decide) (by decide) (by decide) e3 (by omega) (by omega) (by omega)
    have st := fs_settle (X := XT) (fun _ _ q => q) _ _ (fr_refl _ _) _ e9
    have pcl : ∀ r k, r ≠ 10 → ¬ (r = 6 ∧ k = 1) → gi (f_Pile_clear (f_Sheet_clear S3 6)) r k = gi S3 r k := by
      intro r k a a2
      show gi (si (si (si (si S3 6 1 0) 10 3 0) 10 4 0) 10 5 0) r k = _
      rw [gi_off (by omega), gi_off (by omega), gi_off (by omega), gi_off (by omega)]
    have z6 : gi (f_Pile_clear (f_Sheet_clear S3 6)) 6 1 = 0 := by
      show gi (si (si (si (si S3 6 1 0) 10 3 0) 10 4 0) 10 5 0) 6 1 = _
      rw [gi_off (by omega), gi_off (by omega), gi_off (by omega), gi_at]
    have all : ∀ r k, ¬ XT r k → r ≠ 10 → ¬ (r = 4 ∧ k = 1) → ¬ (r = 6 ∧ k = 1) → gi S1 r k = gi S r k := by
      intro r k a1 a2 a3 a4
      rw [st r k a1, pcl r k a2 a4, cp.2.1 r k a3]
    have e4 : gi S1 4 1 = gi S 6 1 := by rw [st 4 1 (by omega), pcl 4 1 (by omega) (by omega), cp.1]
    have N := m_next_is FU T T1 0 t h2 (Int.le_refl _)
    obtain ⟨a, b, c', d, e, f, g⟩ := h
    have n8 : gi T1 192 8 = gi T 192 8 := N.2.2.2.2.1 192 8 (by omega)
    refine ⟨⟨⟨by rw [all 1 1 (by omega) (by omega) (by omega) (by omega), n8]; exact a.1, fun k hk => ?_⟩, by rw [e4, N.2.1]; exact c', by rw [st 6 1 (by omega), z6, N.2.2.1], fun k => by rw [all 12 k (by omega) (by omega) (by omega) (by omega), N.2.2.2.2.1 209 k (by omega)]; exact d k, fun k => by rw [all 191 k (by omega) (by omega) (by omega) (by omega), N.2.2.2.2.1 210 k (by omega)]; exact e k, by rw [all 183 5 (by omega) (by omega) (by omega) (by omega), N.2.2.2.2.1 211 0 (by omega)]; exact f, by rw [all 183 6 (by omega) (by omega) (by omega) (by omega), N.2.2.2.2.1 211 1 (by omega)]; exact g⟩, by rw [e4, N.1]; exact c'⟩
    rw [all 1 1 (by omega) (by omega) (by omega) (by omega)] at hk
    rw [all 2 k (by omega) (by omega) (by omega) (by omega), N.2.2.2.2.1 197 k (by omega)]
    exact a.2 k hk
  · rw [if_pos (by omega)] at h2
    cases h2
    by_cases d : gi S 6 1 = 0
    · rw [if_pos d] at h1; cases h1; exact ⟨h, rfl⟩
    · rw [if_neg d, if_neg (by omega)] at h1; cases h1; exact ⟨h, rfl⟩
theorem RBX_rank {S T S1 T1 : SS} {a1 a2 r t : Int} (h : RBX S T) (h1 : f_MP_rank S a1 a2 = some (r, S1)) (h2 : f_M_rank T a1 a2 = some (t, T1)) : RBX S1 T1 ∧ r = t := by
  have i1 := in01 T a1 0 2
  have i2 := in01 T a2 0 9
  unfold f_MP_rank at h1
  unfold f_M_rank at h2
  by_cases c : 0 ≤ a1 ∧ a1 ≤ 2 ∧ 0 ≤ a2 ∧ a2 ≤ 9
  · rw [if_neg (by omega), if_neg (by omega), if_neg (by omega), if_pos (by omega)] at h1
    rw [if_neg (by omega), if_neg (by omega)] at h2
    obtain ⟨_, h2⟩ := w_chkE h2
    obtain ⟨_, h2⟩ := w_chkE h2
    unfold w_lt at h1 h2
    cases h2
    obtain ⟨r1, er, h1⟩ := w_b1E h1
    obtain ⟨_, h1⟩ := w_chkE h1
    obtain ⟨S4, e4, h1⟩ := w_b1E h1
    cases h1
    unfold f_Pile_rankOf at er
    rw [if_neg (by omega), if_pos (by omega), w_chkP (by omega)] at er
    cases er
    have st := fs_settle (X := XT) (fun _ _ q => q) _ _ (fr_refl _ _) _ e4
    obtain ⟨a, b, c', d, e, f, g⟩ := h
    have ek : gi S 12 a1.toNat = gi T 209 a1.toNat := by
      rcases d a1.toNat with q | q
      · exact q
      · omega
    have all : ∀ r k, ¬ XT r k → r ≠ 12 → gi S1 r k = gi S r k := fun r k a1 a2 => by rw [st r k a1, gi_off (fun q => a2 q.1)]
    refine ⟨⟨⟨by rw [all 1 1 (by omega) (by omega), gi_off (by omega)]; exact a.1, fun k hk => ?_⟩, by rw [all 4 1 (by omega) (by omega), gi_off (by omega)]; exact b, by rw [all 6 1 (by omega) (by omega), gi_off (by omega)]; exact c', fun k => ?_, fun k => by rw [all 191 k (by omega) (by omega), gi_off (by omega)]; exact e k, by rw [all 183 5 (by omega) (by omega), gi_off (by omega)]; exact f, by rw [all 183 6 (by omega) (by omega), gi_off (by omega)]; exact g⟩, ek⟩
    · rw [all 1 1 (by omega) (by omega)] at hk
      rw [all 2 k (by omega) (by omega), gi_off (by omega)]; exact a.2 k hk
    · rw [st 12 k (by omega), gi_si, gi_si]
      by_cases e : k = a1.toNat
      · left; rw [if_pos ⟨rfl, e⟩, if_pos ⟨rfl, e⟩]
      · rw [if_neg (fun q => e q.2), if_neg (fun q => e q.2)]; exact d k
  · have q2 : t = -2 ∧ T1 = T := by
      by_cases d : 0 ≤ a1 ∧ a1 ≤ 2
      · rw [if_neg (by omega), if_pos (by omega)] at h2; cases h2; exact ⟨rfl, rfl⟩
      · rw [if_pos (by omega)] at h2; cases h2; exact ⟨rfl, rfl⟩
    have q1 : r = -2 ∧ S1 = S := by
      by_cases d1 : a1 < 0
      · rw [if_pos d1] at h1; cases h1; exact ⟨rfl, rfl⟩
      rw [if_neg d1] at h1
      by_cases d2 : 3 ≤ a1
      · rw [if_pos d2] at h1; cases h1; exact ⟨rfl, rfl⟩
      rw [if_neg d2] at h1
      by_cases d3 : a2 < 0
      · rw [if_pos d3] at h1; cases h1; exact ⟨rfl, rfl⟩
      rw [if_neg d3, if_neg (by omega)] at h1; cases h1; exact ⟨rfl, rfl⟩
    rw [q1.1, q2.1, q1.2, q2.2]
    exact ⟨h, rfl⟩
theorem RBX_price {S T S1 T1 : SS} {a1 a2 r t : Int} (h : RBX S T) (h1 : f_MP_price S a1 a2 = some (r, S1)) (h2 : f_M_price T a1 a2 = some (t, T1)) : RBX S1 T1 ∧ r = t := by
  have i1 := in01 T a1 0 4
  have i2 := in01 T a2 0 999
  unfold f_MP_price at h1
  unfold f_M_price at h2
  by_cases c : 0 ≤ a1 ∧ a1 ≤ 4 ∧ 0 ≤ a2 ∧ a2 ≤ 999
  · rw [if_neg (by omega), if_neg (by omega), if_neg (by omega), if_pos (by omega)] at h1
    rw [if_neg (by omega), if_neg (by omega)] at h2
    obtain ⟨_, h2⟩ := w_chkE h2
    obtain ⟨_, h2⟩ := w_chkE h2
    unfold w_lt at h2
    cases h2
    obtain ⟨r1, S2, er, h1⟩ := w_b2E h1
    cases h1
    unfold f_Bill_setPrice at er
    obtain ⟨p, ep, er⟩ := w_b1E er
    rw [if_neg (by omega), if_neg (by omega)] at er
    obtain ⟨_, er⟩ := w_chkE er
    unfold w_lt at er
    cases er
    unfold f_Bill_priceOf at ep
    rw [if_neg (by omega), if_pos (by omega), w_chkP (by omega)] at ep
    cases ep
    obtain ⟨a, b, c', d, e, f, g⟩ := h
    have ek : gi S 191 a1.toNat = gi T 210 a1.toNat := by
      rcases e a1.toNat with q | q
      · exact q
      · omega
    refine ⟨⟨⟨by rw [gi_off (by omega), gi_off (by omega)]; exact a.1, fun k hk => ?_⟩, by rw [gi_off (by omega), gi_off (by omega)]; exact b, by rw [gi_off (by omega), gi_off (by omega)]; exact c', fun k => by rw [gi_off (by omega), gi_off (by omega)]; exact d k, fun k => ?_, by rw [gi_off (by omega), gi_off (by omega)]; exact f, by rw [gi_off (by omega), gi_off (by omega)]; exact g⟩, ek⟩
    · rw [gi_off (by omega)] at hk
      rw [gi_off (by omega), gi_off (by omega)]; exact a.2 k hk
    · rw [gi_si, gi_si]
      by_cases e' : k = a1.toNat
      · left; rw [if_pos ⟨rfl, e'⟩, if_pos ⟨rfl, e'⟩]
      · rw [if_neg (fun q => e' q.2), if_neg (fun q => e' q.2)]; exact e k
  · have q2 : t = -2 ∧ T1 = T := by
      by_cases d : 0 ≤ a1 ∧ a1 ≤ 4
      · rw [if_neg (by omega), if_pos (by omega)] at h2; cases h2; exact ⟨rfl, rfl⟩
      · rw [if_pos (by omega)] at h2; cases h2; exact ⟨rfl, rfl⟩
    have q1 : r = -2 ∧ S1 = S := by
      by_cases d1 : a1 < 0
      · rw [if_pos d1] at h1; cases h1; exact ⟨rfl, rfl⟩
      rw [if_neg d1] at h1
      by_cases d2 : 5 ≤ a1
      · rw [if_pos d2] at h1; cases h1; exact ⟨rfl, rfl⟩
      rw [if_neg d2] at h1
      by_cases d3 : a2 < 0
      · rw [if_pos d3] at h1; cases h1; exact ⟨rfl, rfl⟩
      rw [if_neg d3, if_neg (by omega)] at h1; cases h1; exact ⟨rfl, rfl⟩
    rw [q1.1, q2.1, q1.2, q2.2]
    exact ⟨h, rfl⟩
theorem RBX_costs {S T S1 T1 : SS} {a1 a2 r t : Int} (h : RBX S T) (h1 : f_MP_costs S a1 a2 = some (r, S1)) (h2 : f_M_costs T a1 a2 = some (t, T1)) : RBX S1 T1 ∧ r = t := by
  have i1 := in01 T a1 1 9
  have i2 := in01 T a2 1 9
  unfold f_MP_costs at h1
  unfold f_M_costs at h2
  by_cases c : 1 ≤ a1 ∧ a1 ≤ 9 ∧ 1 ≤ a2 ∧ a2 ≤ 9
  · rw [if_neg (by omega), if_neg (by omega), if_neg (by omega), if_pos (by omega)] at h1
    rw [if_neg (by omega), if_neg (by omega)] at h2
    unfold w_lt at h1 h2
    obtain ⟨_, h2⟩ := w_chkE h2
    obtain ⟨_, h2⟩ := w_chkE h2
    cases h1
    cases h2
    obtain ⟨a, b, c', d, e, f, g⟩ := h
    refine ⟨⟨⟨by rw [gi_off (by omega), gi_off (by omega), gi_off (by omega), gi_off (by omega)]; exact a.1, fun k hk => ?_⟩, by rw [gi_off (by omega), gi_off (by omega), gi_off (by omega), gi_off (by omega)]; exact b, by rw [gi_off (by omega), gi_off (by omega), gi_off (by omega), gi_off (by omega)]; exact c', fun k => by rw [gi_off (by omega), gi_off (by omega), gi_off (by omega), gi_off (by omega)]; exact d k, fun k => by rw [gi_off (by omega), gi_off (by omega), gi_off (by omega), gi_off (by omega)]; exact e k, ?_, ?_⟩, rfl⟩
    · rw [gi_off (by omega), gi_off (by omega)] at hk
      rw [gi_off (by omega), gi_off (by omega), gi_off (by omega), gi_off (by omega)]; exact a.2 k hk
    · rw [gi_off (by omega), gi_at, gi_off (by decide)]; exact (gi_at T 211 0 a1).symm
    · rw [gi_at]; exact (gi_at _ 211 1 a2).symm
  · have q2 : t = -2 ∧ T1 = T := by
      by_cases d : 1 ≤ a1 ∧ a1 ≤ 9
      · rw [if_neg (by omega), if_pos (by omega)] at h2; cases h2; exact ⟨rfl, rfl⟩
      · rw [if_pos (by omega)] at h2; cases h2; exact ⟨rfl, rfl⟩
    have q1 : r = -2 ∧ S1 = S := by
      by_cases d1 : a1 < 1
      · rw [if_pos d1] at h1; cases h1; exact ⟨rfl, rfl⟩
      rw [if_neg d1] at h1
      by_cases d2 : 9 < a1
      · rw [if_pos d2] at h1; cases h1; exact ⟨rfl, rfl⟩
      rw [if_neg d2] at h1
      by_cases d3 : a2 < 1
      · rw [if_pos d3] at h1; cases h1; exact ⟨rfl, rfl⟩
      rw [if_neg d3, if_neg (by omega)] at h1; cases h1; exact ⟨rfl, rfl⟩
    rw [q1.1, q2.1, q1.2, q2.2]
    exact ⟨h, rfl⟩
theorem RBX_marks {S T S1 T1 : SS} {r t : Int} (hM : MX 0 T) (h : RBX S T) (h1 : f_MP_marks S = some (r, S1)) (h2 : f_M_marks T = some (t, T1)) : RBX S1 T1 := by
  have f1 := fs_marks S _ h1
  have f2 := fm_marks T hM _ h2
  refine RBX_sizes h f1.2 f2.1 ?_ ?_ (fun r k p a1 a2 a3 a4 => f1.1 r k (by omega)) (fun r k p a1 a2 => f2.2 r k (by omega) (by omega))
  · rw [f1.1 4 1 (by omega), f2.2 192 3 (by omega) (by omega)]; exact h.2.1
  · rw [f1.1 6 1 (by omega), f2.2 192 4 (by omega) (by omega)]; exact h.2.2.1
theorem RBX_answer {S T S1 T1 : SS} {a1 a2 r t : Int} (hM : MX 0 T) (h : RBX S T) (h1 : f_MP_answer S a1 a2 = some (r, S1)) (h2 : f_M_answer T a1 a2 = some (t, T1)) : RBX S1 T1 := by
  have f1 := fs_answer S a1 a2 _ h1
  have f2 := fm_answer hM a1 a2 _ h2
  exact RBX_keep h (fun r k p => f1 r k (by omega)) (fun r k p => f2 r k (by omega))
theorem RBX_hold {S T S1 T1 : SS} {r t : Int} (hM : MX 0 T) (hN : NX T) (h : RBX S T) (h1 : f_MP_hold S = some (r, S1)) (h2 : f_M_hold T = some (t, T1)) : RBX S1 T1 := by
  have f1 := fs_hold S _ h1
  have f2 := fm_hold hM hN _ h2
  exact RBX_keep h (fun r k p => f1 r k (by omega)) (fun r k p => f2 r k (by omega))
theorem RBX_distance {S T S1 T1 : SS} {a1 a2 r t : Int} (hM : MX 0 T) (hN : NX T) (h : RBX S T) (h1 : f_MP_distance S a1 a2 = some (r, S1)) (h2 : f_M_distance T a1 a2 = some (t, T1)) : RBX S1 T1 := by
  have f1 := fx_MP_distance (X := fun r _ => r = 182) (S0 := S) (x_182 := fun k => rfl) S a1 a2 (FX_refl _ S) _ h1
  have f2 := fm_distance hM hN a1 a2 _ h2
  exact RBX_keep h (fun r k p => f1.1 r k (by omega)) (fun r k p => f2 r k (by omega))
theorem RBX_error {S T S1 T1 : SS} {a1 a2 r t : Int} (h : RBX S T) (h1 : f_MP_error S a1 a2 = some (r, S1)) (h2 : f_M_error T a1 a2 = some (t, T1)) : RBX S1 T1 := by
  have f1 := fx_MP_error (X := fun r _ => 14 ≤ r ∧ r < 174) (S0 := S) (x_m_9 := fun j hj => by omega) S a1 a2 (FX_refl _ S) _ h1
  have f2 := fm_error (T := T) a1 a2 _ h2
  exact RBX_keep h (fun r k p => f1.1 r k (by omega)) (fun r k p => f2 r k (by omega))
theorem RBX_ref {S T T1 : SS} (h : RBX S T) (f2 : fr XM T T1) : RBX S T1 := RBX_keep h (keep_refl PCB) (fun r k p => f2 r k (by omega))
