theorem pfl_trace (S0 : SS) : ∀ (n : Nat) (S : SS) (v1 v2 v3 : Int), fr XH S0 S → pc (f_M_trace_24 n S v1 v2 v3) (fr XH S0) := by
  intro n
  induction n with
  | zero => intro S v1 v2 v3 h r e; exact absurd e (by simp [f_M_trace_24])
  | succ n ih =>
    have b258 : ∀ S a c d e, fr XH S0 S → pc (f_M_trace_258 (f_M_trace_24 n) S a c d e) (fr XH S0) := fun S a c d e h => by
      unfold f_M_trace_258; exact pc_chk (fun _ => ih _ _ _ _ h)
    have b245 : ∀ S a c d e f, fr XH S0 S → pc (f_M_trace_245 (f_M_trace_24 n) S a c d e f) (fr XH S0) := fun S a c d e f h => by
      unfold f_M_trace_245; exact pc_chk (fun _ => pc_if (fun _ => b258 _ _ _ _ _ h) (fun _ => b258 _ _ _ _ _ h))
    have b240 : ∀ S a c d e, fr XH S0 S → pc (f_M_trace_240 (f_M_trace_24 n) S a c d e) (fr XH S0) := fun S a c d e h => by
      unfold f_M_trace_240; exact b245 _ _ _ _ _ _ h
    have b195 : ∀ S a c d e f g i, fr XH S0 S → pc (f_M_trace_195 (f_M_trace_24 n) S a c d e f g i) (fr XH S0) := fun S a c d e f g i h => by
      unfold f_M_trace_195
      exact pc_chk (fun _ => pf_lt h (by omega) (fun _ h => pc_chk (fun _ => pf_lt h (by omega) (fun _ h => pc_chk (fun _ => pf_lt h (by omega) (fun _ h => pc_chk (fun _ => pf_lt h (by omega) (fun _ h => pc_chk (fun _ => pc_if (fun _ => pc_if (fun _ => b245 _ _ _ _ _ _ h) (fun _ => b240 _ _ _ _ _ h)) (fun _ => b240 _ _ _ _ _ h))))))))))
    have b166 : ∀ S a c d e f, fr XH S0 S → pc (f_M_trace_166 (f_M_trace_24 n) S a c d e f) (fr XH S0) := fun S a c d e f h => by
      unfold f_M_trace_166; exact pc_if (fun _ => pc_if (fun _ => b195 _ _ _ _ _ _ _ _ h) (fun _ => b195 _ _ _ _ _ _ _ _ h)) (fun _ => b195 _ _ _ _ _ _ _ _ h)
    have b165 : ∀ S a c d e, fr XH S0 S → pc (f_M_trace_165 (f_M_trace_24 n) S a c d e) (fr XH S0) := fun S a c d e h => by
      unfold f_M_trace_165; exact b166 _ _ _ _ _ _ h
    have b128 : ∀ S a c d e, fr XH S0 S → pc (f_M_trace_128 (f_M_trace_24 n) S a c d e) (fr XH S0) := fun S a c d e h => by
      unfold f_M_trace_128
      exact pc_if (fun _ => pc_if (fun _ => b165 _ _ _ _ _ h) (fun _ => pc_chk (fun _ => pf_b1 (fun _ => pc_chk (fun _ => pc_chk (fun _ => pc_if (fun _ => b166 _ _ _ _ _ _ h) (fun _ => b165 _ _ _ _ _ h))))))) (fun _ => b165 _ _ _ _ _ h)
    have b127 : ∀ S a c d, fr XH S0 S → pc (f_M_trace_127 (f_M_trace_24 n) S a c d) (fr XH S0) := fun S a c d h => by
      unfold f_M_trace_127; exact b128 _ _ _ _ _ h
    have b87 : ∀ S a c d, fr XH S0 S → pc (f_M_trace_87 (f_M_trace_24 n) S a c d) (fr XH S0) := fun S a c d h => by
      unfold f_M_trace_87
      exact pc_if (fun _ => b127 _ _ _ _ h) (fun _ => pc_if (fun _ => b127 _ _ _ _ h) (fun _ => pc_chk (fun _ => pc_chk (fun _ => pf_b1 (fun _ => pc_chk (fun _ => pc_chk (fun _ => pc_if (fun _ => b128 _ _ _ _ _ h) (fun _ => b127 _ _ _ _ h))))))))
    intro S v1 v2 v3 h
    show pc (f_M_trace_24_b (f_M_trace_24 n) S v1 v2 v3) _
    unfold f_M_trace_24_b
    exact pc_if (fun _ => pc_some h) (fun _ => pc_if (fun _ => b87 _ _ _ _ h) (fun _ => pc_if (fun _ => b87 _ _ _ _ h) (fun _ => pc_chk (fun _ => pc_chk (fun _ => pc_if (fun _ => pc_chk (fun _ => pc_chk (fun _ => pf_b1 (fun _ => pc_chk (fun _ => pc_if (fun _ => pc_chk (fun _ => pc_chk (fun _ => ih _ _ _ _ h))) (fun _ => b87 _ _ _ _ h)))))) (fun _ => b87 _ _ _ _ h))))))
theorem cpt2 {S : SS} (hC : MX 0 S) : cpt 2 (gi S 192 5) ∧ cpt 1 (gi S 192 4) := by
  have b5 := mx_192_5 hC
  have b4 := mx_192_4 hC
  unfold cpt
  omega
theorem fh_trace {S0 S : SS} (hC : MX 0 S) (h : fr XH S0 S) : pc (f_M_trace S) (fr XH S0) := by
  unfold f_M_trace
  have c := cpt2 hC
  refine pc_b2 (ok_true (ok_M_apart S 2 (gi S 192 5) 1 (gi S 192 4) hC c.1 c.2)) (fun r S3 h3 => ?_)
  have h3' : fr XH S0 S3 := fr_trans h (fun r k a => h3.2.1 r k (by omega))
  exact pf_lt h3' (by omega) (fun S6 h6 => pfl_trace S0 FU S6 _ _ _ h6)
theorem m_dn_lt (st : Nat → Int) (k : Nat) (h : st k = 0) : ∀ n, k < n → m_dn st k < m_dn st n := by
  have mono : ∀ n, k ≤ n → m_dn st k ≤ m_dn st n := by
    intro n
    induction n with
    | zero => intro hk; rw [show k = 0 by omega]; exact Nat.le_refl _
    | succ n ih =>
      intro hk
      by_cases e : k = n + 1
      · rw [e]; exact Nat.le_refl _
      · have := ih (by omega)
        rw [m_dn]; omega
  intro n hk
  obtain ⟨n, rfl⟩ : ∃ n', n = n' + 1 := ⟨n - 1, by omega⟩
  by_cases e : k = n
  · rw [m_dn, ← e, if_pos h]; omega
  · have h1 : m_dn st (k + 1) = m_dn st k + 1 := by rw [m_dn, if_pos h]
    have m2 : ∀ n, k + 1 ≤ n → m_dn st (k + 1) ≤ m_dn st n := by
      intro n
      induction n with
      | zero => intro hk; omega
      | succ n ih =>
        intro hk
        by_cases e : k + 1 = n + 1
        · rw [e]; exact Nat.le_refl _
        · have := ih (by omega)
          show _ ≤ m_dn st n + _
          omega
    have := m2 (n + 1) (by omega)
    omega
theorem okl_M_hold_182 (T0 : SS) (hN : NX T0) (hd : m_dn (m_st T0) (gi T0 192 27).toNat ≤ 8) (v2 v3 : Int) : ∀ (n : Nat) (S : SS) (k : Nat), HI T0 S → (k : Int) ≤ gi T0 192 27 → gi S 192 36 ≤ (m_dn (m_st T0) k : Int) → gi T0 192 27 - (k : Int) < (n : Int) → okk (f_M_hold_182 n S v2 v3 (m_dn (m_st T0) k : Int) (k : Int)) (fun u => MX 0 u.2 ∧ fr XH T0 u.2) := by
  intro n
  induction n with
  | zero => intro S k h h1 h2 h3; exfalso; omega
  | succ n ih =>
    intro S k h h1 h2 h3
    have b27 := mx_192_27 h.1
    have b36 := mx_192_36 h.1
    have e27 : gi S 192 27 = gi T0 192 27 := h.2.1 192 27 (by omega)
    have dle : ∀ j, m_dn (m_st T0) j ≤ j := by
      intro j
      induction j with
      | zero => exact Nat.le_refl _
      | succ j ih => rw [m_dn]; split <;> omega
    have g238 : ∀ S', HI T0 S' → ∀ d : Nat, d = m_dn (m_st T0) (k + 1) → gi S' 192 36 ≤ (d : Int) → (k : Int) < gi T0 192 27 → okk (f_M_hold_238 (f_M_hold_182 n) S' v2 v3 (d : Int) (k : Int)) (fun u => MX 0 u.2 ∧ fr XH T0 u.2) := by
      intro S' h' d ed hle hlt
      unfold f_M_hold_238
      refine ok_chk (by omega) ?_
      rw [show (k : Int) + 1 = ((k + 1 : Nat) : Int) by omega, ed]
      exact ih S' (k + 1) h' (by omega) (by omega) (by omega)
    show okk (f_M_hold_182_b (f_M_hold_182 n) S v2 v3 (m_dn (m_st T0) k : Int) (k : Int)) _
    unfold f_M_hold_182_b
    rw [Int.toNat_natCast]
    refine ok_if (fun c => ?_) (fun c => ok_chk (by omega) (ok_if (fun c2 => ?_) (fun c2 => ?_)))
    · refine ok_b1 (HI_make hN h.1 h.2.1 v2) (fun S2 hS2 => ok_b1 (ok_and (ok_M_trace S2 hS2.1) (fh_trace hS2.1 hS2.2.1)) (fun S4 h4 => ok_some ⟨h4.1.1, h4.2⟩))
    · have st : m_st T0 k = 0 := by rw [← h.2.2 k (by omega)]; exact c2
      have dl := m_dn_lt (m_st T0) k st (gi T0 192 27).toNat (by omega)
      have ed : m_dn (m_st T0) k + 1 = m_dn (m_st T0) (k + 1) := by
        show _ = m_dn (m_st T0) k + _
        rw [if_pos st]
      have g235 : ∀ S', HI T0 S' → gi S' 192 36 ≤ (m_dn (m_st T0) k : Int) + 1 → okk (f_M_hold_235 (f_M_hold_182 n) S' v2 v3 (m_dn (m_st T0) k : Int) (k : Int)) (fun u => MX 0 u.2 ∧ fr XH T0 u.2) := by
        intro S' h' hle
        unfold f_M_hold_235
        refine ok_chk (by omega) ?_
        rw [show (m_dn (m_st T0) k : Int) + 1 = ((m_dn (m_st T0) k + 1 : Nat) : Int) by omega]
        exact g238 S' h' _ ed (by omega) (by omega)
      refine ok_if (fun c3 => ok_chk (by omega) (ok_lt (fun S10 e10 => ?_))) (fun c3 => g235 S h (by omega))
      have h10 : HI T0 S10 := by rw [e10]; exact HI_si h (by omega) (by omega) (ms_216 h.1 (by omega) (by omega))
      have e36 : gi S10 192 36 = gi S 192 36 := by rw [e10, gi_off (by omega)]
      refine ok_chk (by omega) (ok_lt (fun S13 e13 => g235 S13 ?_ ?_))
      · rw [e13]; exact HI_si h10 (by omega) (by omega) (ms_192_36 h10.1 (by omega) (by omega))
      · rw [e13, gi_at]; omega
    · have st : m_st T0 k ≠ 0 := by rw [← h.2.2 k (by omega)]; exact c2
      have ed : m_dn (m_st T0) k = m_dn (m_st T0) (k + 1) := by
        show _ = m_dn (m_st T0) k + _
        rw [if_neg st]; rfl
      exact g238 S h _ ed h2 (by omega)
theorem mul9 {a c : Int} (ha : 0 ≤ a ∧ a ≤ 9) (hc : 0 ≤ c ∧ c ≤ 450) : 0 ≤ a * c ∧ a * c ≤ 4050 := by
  refine ⟨Int.mul_nonneg ha.1 hc.1, ?_⟩
  have h1 : a * c ≤ 9 * c := Int.mul_le_mul_of_nonneg_right ha.2 hc.1
  omega
theorem okl_M_hold_55 (T0 : SS) (hN : NX T0) (d : Int) (hd0 : 0 ≤ d ∧ d ≤ 8) (hd : m_dn (m_st T0) (gi T0 192 27).toNat ≤ 8) : ∀ (n : Nat) (S : SS) (v2 v3 v4 : Int), HI T0 S → (-2147483648 ≤ v2 ∧ v2 ≤ 2147483647) → (0 ≤ v4 ∧ v4 ≤ 256) → 256 - v4 < (n : Int) → okk (f_M_hold_55 n S d v2 v3 v4) (fun u => MX 0 u.2 ∧ fr XH T0 u.2) := by
  intro n
  induction n with
  | zero => intro S v2 v3 v4 h h2 h3 h4; exfalso; omega
  | succ n ih =>
    intro S v2 v3 v4 h h2 h3 h4
    have sh := shl1 d hd0
    show okk (f_M_hold_55_b (f_M_hold_55 n) S d v2 v3 v4) _
    unfold f_M_hold_55_b
    refine ok_if (fun c => ok_lt (fun S2 e2 => ok_lt (fun S3 e3 => ok_lt (fun S4 e4 => ?_)))) (fun c => ok_b1 (HI_make hN h.1 h.2.1 v4) (fun S5 h5 => ?_))
    · have H2 : HI T0 S2 := by rw [e2]; exact HI_si h (by omega) (by omega) (ms_192_38 h.1 (by decide) (by decide))
      have H3 : HI T0 S3 := by rw [e3]; exact HI_si H2 (by omega) (by omega) (ms_192_35 H2.1 h2.1 h2.2)
      have H4 : HI T0 S4 := by rw [e4]; exact HI_si H3 (by omega) (by omega) (ms_192_36 H3.1 (by decide) (by decide))
      have b27 := mx_192_27 H4.1
      have e27 : gi S4 192 27 = gi T0 192 27 := H4.2.1 192 27 (by omega)
      exact okl_M_hold_182 T0 hN hd v2 v3 FU S4 0 H4 (by omega) (by rw [e4, gi_at]; exact Int.le_refl _) (by unfold FU; omega)
    · have cc := cpt2 h5.1
      have b5 := mx_192_5 h5.1
      have b4 := mx_192_4 h5.1
      refine ok_b2 (ok_M_apart S5 2 (gi S5 192 5) 1 (gi S5 192 4) h5.1 cc.1 cc.2) (fun r11 S10 h10 => ?_)
      have H10 : HI T0 S10 := HI_FF h5 h10.1 h10.2.1
      have hr : 0 ≤ r11 ∧ r11 ≤ gi S5 192 5 + gi S5 192 4 := ⟨h10.2.2.1, h10.2.2.2⟩
      have m1 := mul9 (mx_211 h5.1 0) (show 0 ≤ r11 ∧ r11 ≤ 450 by omega)
      refine ok_chk (by omega) (ok_b1 (ok_M_bits S10 v4 H10.1) (fun r15 h15 => ?_))
      have m2 := mul9 (mx_211 H10.1 1) (show 0 ≤ r15 ∧ r15 ≤ 450 by omega)
      have g155 : ∀ a c, -2147483648 ≤ a ∧ a ≤ 2147483647 → okk (f_M_hold_155 (f_M_hold_55 n) S10 d a c v4) (fun u => MX 0 u.2 ∧ fr XH T0 u.2) := by
        intro a c' ha
        unfold f_M_hold_155
        exact ok_chk (by omega) (ih S10 a c' (v4 + 1) H10 ha (by omega) (by omega))
      have g139 : ∀ e f, okk (f_M_hold_139 (f_M_hold_55 n) S10 d v2 v3 v4 e f) (fun u => MX 0 u.2 ∧ fr XH T0 u.2) := by
        intro e f
        unfold f_M_hold_139
        exact ok_if (fun _ => g155 _ _ h2) (fun _ => g155 _ _ (by omega))
      have g134 : ∀ e, okk (f_M_hold_134 (f_M_hold_55 n) S10 d v2 v3 v4 e) (fun u => MX 0 u.2 ∧ fr XH T0 u.2) := fun e => by unfold f_M_hold_134; exact g139 _ _
      have g138 : ∀ e, okk (f_M_hold_138 (f_M_hold_55 n) S10 d v2 v3 v4 e) (fun u => MX 0 u.2 ∧ fr XH T0 u.2) := fun e => by unfold f_M_hold_138; exact g139 _ _
      refine ok_chk (by omega) (ok_chk (by omega) (ok_if (fun _ => g134 _) (fun _ => ok_if (fun _ => g134 _) (fun _ => ok_if (fun _ => ok_b1 (ok_M_bits S10 v4 H10.1) (fun r19 _ => ok_b1 (ok_M_bits S10 v2 H10.1) (fun r21 _ => ok_if (fun _ => g138 _) (fun _ => g134 _)))) (fun _ => g138 _)))))
theorem okl_M_hold_8 (T0 : SS) (hN : NX T0) : ∀ (n : Nat) (S : SS) (k : Nat), HI T0 S → (k : Int) ≤ gi T0 192 27 → gi T0 192 27 - (k : Int) < (n : Int) → okk (f_M_hold_8 n S (m_dn (m_st T0) k : Int) (k : Int)) (fun u => MX 0 u.2 ∧ fr XH T0 u.2) := by
  intro n
  induction n with
  | zero => intro S k h h1 h2; exfalso; omega
  | succ n ih =>
    intro S k h h1 h2
    have b27 := mx_192_27 h.1
    have e27 : gi S 192 27 = gi T0 192 27 := h.2.1 192 27 (by omega)
    have dle : ∀ j, m_dn (m_st T0) j ≤ j := by
      intro j
      induction j with
      | zero => exact Nat.le_refl _
      | succ j ih => rw [m_dn]; split <;> omega
    have dk := dle k
    show okk (f_M_hold_8_b (f_M_hold_8 n) S (m_dn (m_st T0) k : Int) (k : Int)) _
    unfold f_M_hold_8_b f_M_hold_31
    rw [Int.toNat_natCast]
    refine ok_if (fun c => ok_if (fun c2 => ?_) (fun _ => ok_some ⟨h.1, h.2.1⟩)) (fun c => ok_chk (by omega) (ok_if (fun c2 => ?_) (fun c2 => ?_)))
    · have ek : (gi T0 192 27).toNat = k := by omega
      exact okl_M_hold_55 T0 hN (m_dn (m_st T0) k : Int) (by omega) (by rw [ek]; omega) FU S (-1) 0 0 h (by omega) (by omega) (by unfold FU; omega)
    · have st : m_st T0 k = 0 := by rw [← h.2.2 k (by omega)]; exact c2
      have ed : (m_dn (m_st T0) k : Int) + 1 = (m_dn (m_st T0) (k + 1) : Int) := by
        rw [m_dn, if_pos st]; omega
      refine ok_chk (by omega) (ok_chk (by omega) ?_)
      rw [ed, show (k : Int) + 1 = ((k + 1 : Nat) : Int) by omega]
      exact ih S (k + 1) h (by omega) (by omega)
    · have st : m_st T0 k ≠ 0 := by rw [← h.2.2 k (by omega)]; exact c2
      have ed : (m_dn (m_st T0) k : Int) + 0 = (m_dn (m_st T0) (k + 1) : Int) := by
        rw [m_dn, if_neg st]; omega
      refine ok_chk (by omega) (ok_chk (by omega) ?_)
      rw [ed, show (k : Int) + 1 = ((k + 1 : Nat) : Int) by omega]
      exact ih S (k + 1) h (by omega) (by omega)
theorem ok_M_hold {S : SS} (hC : MX 0 S) (hN : NX S) : okk (f_M_hold S) (fun u => MX 0 u.2 ∧ NX u.2) := by
  have b27 := mx_192_27 hC
  unfold f_M_hold
  refine ok_b1 (HI_judge hC) (fun S1 h1 => ok_mono (okl_M_hold_8 S hN FU S1 0 h1 (by omega) (by unfold FU; omega)) (fun u hu => ⟨hu.1, nx_fr hN hu.2 (fun k => by omega) (by omega) (by omega)⟩))
