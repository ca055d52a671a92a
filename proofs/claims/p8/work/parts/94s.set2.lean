/-- what outermostAt has found among the marks below k -/
def c_bst (M : q_MK) (u : Nat → Int) (high mv i : Int) (k : Nat) (best far : Int) : Prop := (q_om M high mv i k = -1 ∧ best = -1 ∧ far = -1) ∨ (∃ m, m < k ∧ u m = 1 ∧ q_om M high mv i k = (m : Int) ∧ best = (c_dn u m : Int) ∧ far = q_hi M m)
theorem cset_om {q : Nat} {S0 S : SS} {u : Nat → Int} {n : Nat} {F low high mv i : Int} (H : CSET q S0 u n F) (R : q_reg (cu S0 u) n F low high mv) (hl : low ≤ i) (hh : i ≤ high) (hT : CT q S0 S) (hO : OPS S0 S u n low high mv) : ∀ (c k n2 : Nat) (best far : Int), k + c = n → c_bst (cu S0 u) u high mv i k best far → pc (f_Setter_outermostAt_7 S i n2 best far (c_dn u k : Int)) (fun r => (q_om (cu S0 u) high mv i n = -1 ∧ r = -1) ∨ (∃ m, m < n ∧ u m = 1 ∧ q_om (cu S0 u) high mv i n = (m : Int) ∧ r = (c_dn u m : Int))) := by
  obtain ⟨G, hn, hF0, hF, h4, h6, h7, h8, h9, hq, hW⟩ := id H
  intro c
  induction c with
  | zero =>
    intro k n2 best far hk hb
    cases n2 with
    | zero => intro r e; exact absurd e (by simp [f_Setter_outermostAt_7])
    | succ n2 =>
      have e : gi S 178 2 = (c_dn u n : Int) := by rw [hT.1 178 2 (by omega) (by omega)]; exact h6
      have hk : k = n := by omega
      subst hk
      show pc (f_Setter_outermostAt_7_b S i (f_Setter_outermostAt_7 S i n2) best far (c_dn u k : Int)) _
      unfold f_Setter_outermostAt_7_b
      rw [if_pos (by rw [e]; exact Int.le_refl _)]
      refine pc_some ?_
      rcases hb with w | ⟨m, m1, m2, m3, m4, m5⟩
      · exact .inl ⟨w.1, w.2.1⟩
      · exact .inr ⟨m, m1, m2, m3, m4⟩
  | succ c ih =>
    intro k n2 best far hk hb
    have us : q_us (cu S0 u) k = u k := rfl
    by_cases uk : u k = 1
    · cases n2 with
      | zero => intro r e; exact absurd e (by simp [f_Setter_outermostAt_7])
      | succ n2 =>
        have tk := c_taken H hT (show k < n by omega) uk
        have vk := G.1 k (by omega) uk
        unfold q_val at vk
        have cd := q_op_cand G R hl hh (show k < n by omega) uk
        have ek : gi S (14 + 4 * k) 2 = q_kd (cu S0 u) k := hT.1 _ 2 (by omega) (by omega)
        have el : gi S (14 + 4 * k) 4 = q_lo (cu S0 u) k := hT.1 _ 4 (by omega) (by omega)
        have eh : gi S (14 + 4 * k) 5 = q_hi (cu S0 u) k := hT.1 _ 5 (by omega) (by omega)
        have go : ∀ best' far', c_bst (cu S0 u) u high mv i (k + 1) best' far' → pc (f_Setter_outermostAt_95 S i (f_Setter_outermostAt_7 S i n2) best' far' (c_dn u k : Int)) (fun r => (q_om (cu S0 u) high mv i n = -1 ∧ r = -1) ∨ (∃ m, m < n ∧ u m = 1 ∧ q_om (cu S0 u) high mv i n = (m : Int) ∧ r = (c_dn u m : Int))) := by
          intro best' far' h'
          unfold f_Setter_outermostAt_95
          refine pc_chk (fun _ => ?_)
          rw [show (c_dn u k : Int) + 1 = ((c_dn u (k + 1) : Nat) : Int) by rw [c_dn_1 uk]; omega]
          exact ih (k + 1) n2 best' far' (by omega) h'
        have keep : ¬ (q_cand (cu S0 u) high mv i k ∧ (q_om (cu S0 u) high mv i k = -1 ∨ q_hi (cu S0 u) (q_om (cu S0 u) high mv i k).toNat < q_hi (cu S0 u) k ∨ (q_hi (cu S0 u) (q_om (cu S0 u) high mv i k).toNat = q_hi (cu S0 u) k ∧ q_kd (cu S0 u) k = 4))) → c_bst (cu S0 u) u high mv i (k + 1) best far := by
          intro hno
          unfold c_bst
          rw [q_om_succ, if_neg hno]
          rcases hb with w | ⟨m, m1, m2, m3, m4, m5⟩
          · exact .inl w
          · exact .inr ⟨m, by omega, m2, m3, m4, m5⟩
        have take : (q_cand (cu S0 u) high mv i k ∧ (q_om (cu S0 u) high mv i k = -1 ∨ q_hi (cu S0 u) (q_om (cu S0 u) high mv i k).toNat < q_hi (cu S0 u) k ∨ (q_hi (cu S0 u) (q_om (cu S0 u) high mv i k).toNat = q_hi (cu S0 u) k ∧ q_kd (cu S0 u) k = 4))) → c_bst (cu S0 u) u high mv i (k + 1) (c_dn u k : Int) (q_hi (cu S0 u) k) := by
          intro hyes
          unfold c_bst
          rw [q_om_succ, if_pos hyes]
          exact .inr ⟨k, by omega, uk, rfl, rfl, rfl⟩
        show pc (f_Setter_outermostAt_7_b S i (f_Setter_outermostAt_7 S i n2) best far (c_dn u k : Int)) _
        unfold f_Setter_outermostAt_7_b
        rw [if_neg (by omega), w_b1_is tk.1]
        show pc (w_chk (k < 40) _) _
        refine pc_chk (fun _ => ?_)
        obtain ⟨r5, e5, h5⟩ := c_isOpen hn hO (show k < n by omega) uk
        rw [w_b1_is e5, ek, el, eh]
        refine pc_if (fun c1 => pc_if (fun c2 => go _ _ (keep (fun w => w.1.2.1 c2))) (fun c2 => pc_if (fun c3 => ?_) (fun c3 => go _ _ (keep (fun w => c3 w.1.2.2.2.1))))) (fun c1 => go _ _ (keep (fun w => c1 (h5.2 (cd.2 w.1).1))))
        have cn : q_cand (cu S0 u) high mv i k := cd.1 ⟨h5.1 c1, c2, c3⟩
        have fr0 : (q_om (cu S0 u) high mv i k = -1 ∧ far = -1) ∨ (q_om (cu S0 u) high mv i k ≠ -1 ∧ far = q_hi (cu S0 u) (q_om (cu S0 u) high mv i k).toNat) := by
          rcases hb with w | ⟨m, m1, m2, m3, m4, m5⟩
          · exact .inl ⟨w.1, w.2.2⟩
          · right
            rw [m3, Int.toNat_natCast]
            exact ⟨by omega, m5⟩
        unfold f_Setter_outermostAt_86
        rw [eh]
        refine pc_if (fun c4 => go _ _ (take ⟨cn, ?_⟩)) (fun c4 => pc_if (fun c5 => pc_if (fun c6 => go _ _ (take ⟨cn, ?_⟩)) (fun c6 => go _ _ (keep (fun w => ?_)))) (fun c5 => go _ _ (keep (fun w => ?_))))
        · rcases fr0 with w | w
          · exact .inl w.1
          · exact .inr (.inl (by omega))
        · rcases fr0 with w | w
          · exact .inl w.1
          · exact .inr (.inr ⟨by omega, c6⟩)
        · rcases fr0 with z | z
          · omega
          · rcases w.2 with y | y | y
            · exact z.1 y
            · omega
            · exact c6 y.2
        · rcases fr0 with z | z
          · omega
          · rcases w.2 with y | y | y
            · exact z.1 y
            · omega
            · omega
    · have hb' : c_bst (cu S0 u) u high mv i (k + 1) best far := by
        unfold c_bst
        rw [q_om_succ, if_neg (fun w => uk w.1.1)]
        rcases hb with w | ⟨m, m1, m2, m3, m4, m5⟩
        · exact .inl w
        · exact .inr ⟨m, by omega, m2, m3, m4, m5⟩
      have := ih (k + 1) n2 best far (by omega) hb'
      rw [c_dn_0 uk] at this
      exact this
