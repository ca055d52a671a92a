def q_sc (M : q_MK) (i : Int) (j : Nat) : Prop := q_us M j = 1 ∧ (q_kd M j = 0 ∨ q_kd M j = 2) ∧ q_lo M j ≤ i ∧ i ≤ q_hi M j
theorem ok_lw13 {b : Nat} (S : SS) (hC : MX b S) (i mv : Int) (hi : 0 ≤ i ∧ i < 60) (X : SS) (hX : ((∀ j, j < (gi S 192 27).toNat → ¬ q_sc (q_md S) i j) ∧ gi S 192 5 + 1 ≤ 300 ∧ X = m_tok S i.toNat) ∨ (∃ m, m < (gi S 192 27).toNat ∧ q_sc (q_md S) i m ∧ (∀ j, j < (gi S 192 27).toNat → q_sc (q_md S) i j → j = m) ∧ ((q_kd (q_md S) m = 2 ∧ i = q_lo (q_md S) m ∧ gi S 192 5 + (q_W S (60 + m) : Int) ≤ 300 ∧ X = m_tok S (60 + m)) ∨ (¬ (q_kd (q_md S) m = 2 ∧ i = q_lo (q_md S) m) ∧ X = S)))) :
    ∀ (c k n : Nat), k + c = (gi S 192 27).toNat → c < n → (∀ j, j < k → ¬ q_sc (q_md S) i j) → f_M_layWord_13 i mv n S (k : Int) = some X := by
  have b27 := mx_192_27 hC
  intro c
  induction c with
  | zero =>
    intro k n hk hn hj
    obtain ⟨n, rfl⟩ : ∃ n', n = n' + 1 := ⟨n - 1, by omega⟩
    show f_M_layWord_13_b i mv (f_M_layWord_13 i mv n) S (k : Int) = _
    unfold f_M_layWord_13_b
    rw [if_pos (by omega), w_chkP (by omega)]
    rcases hX with ⟨h0, h1, h2⟩ | ⟨m, hm, h1, _⟩
    · rw [w_b1_is (ok_put hC _ h1), h2]
      unfold m_tok
      rw [if_pos (by omega)]
    · exact absurd h1 (hj m (by omega))
  | succ c ih =>
    intro k n hk hn hj
    obtain ⟨n, rfl⟩ : ∃ n', n = n' + 1 := ⟨n - 1, by omega⟩
    have b214 := mx_214 hC k
    have next : ¬ q_sc (q_md S) i k → f_M_layWord_100 i mv (f_M_layWord_13 i mv n) S (k : Int) = some X := by
      intro hn'
      unfold f_M_layWord_100
      rw [w_chkP (by omega), show (k : Int) + 1 = ((k + 1 : Nat) : Int) by omega]
      refine ih (k + 1) n (by omega) (by omega) (fun j hjk => ?_)
      by_cases e : j = k
      · rw [e]; exact hn'
      · exact hj j (by omega)
    have hit : gi S 214 k ≠ 0 → (gi S 199 k = 0 ∨ gi S 199 k = 2) → f_M_layWord_49 i mv (f_M_layWord_13 i mv n) S (k : Int) = some X := by
      intro hu hkd
      have el : q_lo (q_md S) k = gi S 201 k := md_lo1 (by omega)
      have eh : q_hi (q_md S) k = gi S 202 k := md_hi2 (by omega) (by omega)
      have i01 := in01 S i (gi S 201 k) (gi S 202 k)
      unfold f_M_layWord_49
      rw [w_chkP (by omega), w_chkP (by omega), Int.toNat_natCast]
      by_cases c1 : f_M_in S i (gi S 201 k) (gi S 202 k) = 0
      · rw [if_pos c1]
        refine next (fun q => ?_)
        have := q.2.2
        omega
      · rw [if_neg c1, w_chkP (by omega)]
        have sc : q_sc (q_md S) i k := ⟨by rw [md_us]; omega, hkd, by omega, by omega⟩
        rcases hX with ⟨h0, _⟩ | ⟨m, hm, h1, h2, h3⟩
        · exact absurd sc (h0 k (by omega))
        · have e := h2 k (by omega) sc
          subst e
          by_cases c2 : gi S 199 k = 2
          · rw [if_pos c2, w_chkP (by omega)]
            by_cases c3 : i = gi S 201 k
            · rw [if_pos c3]
              rcases h3 with h3 | h3
              · have T := (m_tok_ok hC (t := 60 + k) (by omega) h3.2.2.1).2.2.2 (by omega)
                rw [show 60 + k - 60 = k by omega] at T
                rw [w_b1_is T, h3.2.2.2]
              · exact absurd ⟨c2, by omega⟩ h3.1
            · rw [if_neg c3]
              rcases h3 with h3 | h3
              · exact absurd h3.2.1 (by omega)
              · rw [h3.2]
          · rw [if_neg c2]
            rcases h3 with h3 | h3
            · exact absurd h3.1 c2
            · rw [h3.2]
    show f_M_layWord_13_b i mv (f_M_layWord_13 i mv n) S (k : Int) = _
    unfold f_M_layWord_13_b
    rw [if_neg (by omega), w_chkP (by omega), Int.toNat_natCast]
    by_cases c1 : gi S 214 k = 0
    · rw [if_pos c1]
      exact next (fun q => by have := q.1; rw [md_us] at this; omega)
    · rw [if_neg c1, w_chkP (by omega)]
      by_cases c2 : gi S 199 k = 0
      · rw [if_pos c2]; exact hit c1 (.inl c2)
      · rw [if_neg c2, w_chkP (by omega)]
        by_cases c3 : gi S 199 k = 2
        · rw [if_pos c3]; exact hit c1 (.inr c3)
        · rw [if_neg c3]
          exact next (fun q => by have := q.2.1; rw [md_kd] at this; omega)
theorem q_sc_one {M : q_MK} {n : Nat} {F i : Int} (G : q_good M n F) {k m : Nat} (hk : k < n) (hm : m < n) (sk : q_sc M i k) (sm : q_sc M i m) : k = m := by
  by_cases e : k = m
  · exact e
  · exfalso
    obtain ⟨s1, s2, s3, s4⟩ := sk
    obtain ⟨t1, t2, t3, t4⟩ := sm
    rcases G.2 k m hk hm e s1 t1 with p | p | p
    · omega
    · omega
    · exact p.1 ⟨by omega, by omega, by omega, by omega⟩
theorem q_bel_lt {M : q_MK} {n : Nat} {a b : Int} {t : Nat} (hn : n ≤ 40) (h : q_bel M n a b t) : t < 101 := by
  rcases h with h | ⟨k, e, hk, _⟩ <;> omega
theorem q_mv_turn {M : q_MK} {n : Nat} {F low high mv : Int} (R : q_reg M n F low high mv) {t : Nat} (h : q_kd M t ≠ 4) : (t : Int) ≠ mv := by
  intro q
  rcases R.2.2.2.2 with r5 | ⟨m', m1, m2, m3, m4, m5, m6⟩
  · omega
  · have q : m' = t := by omega
    subst q; exact h m4
