/-- the marks that the class takes: done, and not left out by a bit of w -/
def c_us (w : Int) (st : Nat → Int) (k : Nat) : Int := if st k = 0 ∧ ¬ (m_dn st k < 8 ∧ andi (shri w (m_dn st k : Int)) 1 = 1) then 1 else 0
theorem c_us_1 {w : Int} {st : Nat → Int} {k : Nat} (h : c_us w st k = 1) : st k = 0 ∧ ¬ (m_dn st k < 8 ∧ andi (shri w (m_dn st k : Int)) 1 = 1) := by
  unfold c_us at h
  by_cases c : st k = 0 ∧ ¬ (m_dn st k < 8 ∧ andi (shri w (m_dn st k : Int)) 1 = 1)
  · exact c
  · rw [if_neg c] at h; exact absurd h (by decide)
/-- what taking changes -/
def TKF (S0 S : SS) : Prop := (∀ r k, r ≠ 180 → ¬ (r = 178 ∧ k = 2) → gi S r k = gi S0 r k) ∧ S.2.1 = S0.2.1 ∧ ∀ r k, r ≠ 179 → gq S r k = gq S0 r k
theorem TKF_refl (S : SS) : TKF S S := ⟨fun _ _ _ _ => rfl, rfl, fun _ _ _ => rfl⟩
theorem m_dn_le (st : Nat → Int) : ∀ k, m_dn st k ≤ k := by
  intro k
  induction k with
  | zero => exact Nat.le_refl _
  | succ k ih => rw [m_dn]; split <;> omega
theorem ctake_loop (S0 : SS) (w : Int) (st : Nat → Int) (n : Nat) (hn : n ≤ 40) (hq : ∀ k, k < 40 → gq S0 11 k = some k) (h3 : gi S0 10 3 = (n : Int)) (h5 : gi S0 10 5 = (m_dn st n : Int)) (hd : ∀ j, j < n → st j = 0 → gi S0 13 (m_dn st j) = (j : Int)) : ∀ (c k n2 : Nat) (S : SS), k + c = n → TKF S0 S → gi S 178 2 = (c_dn (c_us w st) k : Int) → (∀ j, j < k → c_us w st j = 1 → gq S 179 (c_dn (c_us w st) j) = some j ∧ gi S 180 (c_dn (c_us w st) j) = 0) → pc (f_Setter_takeDone_7 w n2 S (m_dn st k : Int)) (fun S1 => TKF S0 S1 ∧ TKN S1 (c_us w st) n) := by
  intro c
  induction c with
  | zero =>
    intro k n2 S hk hF h2 hj
    cases n2 with
    | zero => intro r e; exact absurd e (by simp [f_Setter_takeDone_7])
    | succ n2 =>
      have hk : k = n := by omega
      subst hk
      show pc (f_Setter_takeDone_7_b w (f_Setter_takeDone_7 w n2) S (m_dn st k : Int)) _
      unfold f_Setter_takeDone_7_b
      rw [if_pos (by rw [hF.1 10 5 (by omega) (by omega), h5]; exact Int.le_refl _)]
      exact pc_some ⟨hF, h2, hj⟩
  | succ c ih =>
    intro k n2 S hk hF h2 hj
    by_cases s0 : st k = 0
    · have dn : m_dn st (k + 1) = m_dn st k + 1 := by rw [m_dn, if_pos s0]
      cases n2 with
      | zero => intro r e; exact absurd e (by simp [f_Setter_takeDone_7])
      | succ n2 =>
        have lt := m_dn_lt st k s0 n (by omega)
        have lk := m_dn_le st k
        have e5 : gi S 10 5 = (m_dn st n : Int) := by rw [hF.1 10 5 (by omega) (by omega)]; exact h5
        have e3 : gi S 10 3 = (n : Int) := by rw [hF.1 10 3 (by omega) (by omega)]; exact h3
        have dnr : f_Pile_doneNumber S (m_dn st k : Int) = some (k : Int) := by
          unfold f_Pile_doneNumber
          rw [if_neg (by omega), if_neg (by omega), if_pos (by omega), w_chkP (by omega), Int.toNat_natCast, hF.1 13 _ (by omega) (by omega), hd k (by omega) s0]
        have fnd : f_Pile_find S (k : Int) = some (some k) := c_find (fun k hk => by rw [hF.2.2 11 k (by omega)]; exact hq k hk) (by omega) (by omega)
        have next : ∀ S', TKF S0 S' → gi S' 178 2 = (c_dn (c_us w st) (k + 1) : Int) → (∀ j, j < k + 1 → c_us w st j = 1 → gq S' 179 (c_dn (c_us w st) j) = some j ∧ gi S' 180 (c_dn (c_us w st) j) = 0) → pc (f_Setter_takeDone_101 w (f_Setter_takeDone_7 w n2) S' (m_dn st k : Int)) (fun S1 => TKF S0 S1 ∧ TKN S1 (c_us w st) n) := by
          intro S' a b d
          unfold f_Setter_takeDone_101
          refine pc_chk (fun _ => ?_)
          rw [show (m_dn st k : Int) + 1 = ((m_dn st (k + 1) : Nat) : Int) by rw [dn]; omega]
          exact ih (k + 1) n2 S' (by omega) a b d
        have skip : c_us w st k ≠ 1 → pc (f_Setter_takeDone_101 w (f_Setter_takeDone_7 w n2) S (m_dn st k : Int)) (fun S1 => TKF S0 S1 ∧ TKN S1 (c_us w st) n) := by
          intro hu
          refine next S hF (by rw [c_dn_0 hu]; exact h2) (fun j hj' uj => ?_)
          by_cases e : j = k
          · rw [e] at uj; exact absurd uj hu
          · exact hj j (by omega) uj
        have take : c_us w st k = 1 → pc (f_Setter_takeDone_34 w (f_Setter_takeDone_7 w n2) S (m_dn st k : Int)) (fun S1 => TKF S0 S1 ∧ TKN S1 (c_us w st) n) := by
          intro hu
          have cl := c_dn_le (c_us w st) k
          unfold f_Setter_takeDone_34 f_Setter_takeDone_35
          rw [w_b1_is dnr, w_b1_is fnd, if_pos rfl]
          show pc (w_chk (k < 40) _) _
          refine pc_chk (fun _ => ?_)
          rw [if_neg (by omega)]
          refine pc_chk (fun _ => pc_lt (fun S8 e8 => pc_chk (fun _ => pc_lt (fun S10 e10 => pc_chk (fun _ => pc_lt (fun S13 e13 => ?_))))))
          have a8 : gi S8 178 2 = (c_dn (c_us w st) k : Int) := by rw [e8]; exact h2
          have a10 : gi S10 178 2 = (c_dn (c_us w st) k : Int) := by rw [e10, gi_off (by omega)]; exact a8
          have t8 : (gi S 178 2).toNat = c_dn (c_us w st) k := by rw [h2]; omega
          have t8' : (gi S8 178 2).toNat = c_dn (c_us w st) k := by rw [a8]; omega
          rw [t8] at e8
          rw [t8'] at e10
          refine next S13 ⟨fun r i a d => ?_, ?_, fun r i a => ?_⟩ ?_ (fun j hj' uj => ?_)
          · rw [e13, gi_off (by omega), e10, gi_off (by omega), e8]; exact hF.1 r i a d
          · rw [e13, e10, e8]; exact hF.2.1
          · rw [e13, e10, e8]
            show gq (sq S 179 (c_dn (c_us w st) k) (some k)) r i = _
            rw [gq_off (by omega)]; exact hF.2.2 r i a
          · rw [e13, gi_at, a10, c_dn_1 hu]; omega
          · have gS : gq S13 179 (c_dn (c_us w st) j) = gq (sq S 179 (c_dn (c_us w st) k) (some k)) 179 (c_dn (c_us w st) j) := by rw [e13, e10, e8]; rfl
            have iS : gi S13 180 (c_dn (c_us w st) j) = gi (si S8 180 (c_dn (c_us w st) k) 0) 180 (c_dn (c_us w st) j) := by rw [e13, gi_off (by omega), e10]
            rw [gS, iS]
            by_cases e : j = k
            · rw [e, gq_at, gi_at]; exact ⟨rfl, rfl⟩
            · have ne : c_dn (c_us w st) j ≠ c_dn (c_us w st) k := fun z => e (c_dn_inj (n := n) uj hu z)
              have := hj j (by omega) uj
              rw [gq_off (by omega), gi_off (by omega), e8]
              exact this
        show pc (f_Setter_takeDone_7_b w (f_Setter_takeDone_7 w n2) S (m_dn st k : Int)) _
        unfold f_Setter_takeDone_7_b
        rw [if_neg (by omega)]
        refine pc_if (fun c8 => take ?_) (fun c8 => pc_if (fun cb => ?_) (fun cb => take ?_))
        · unfold c_us
          rw [if_pos ⟨s0, fun z => by omega⟩]
        · unfold f_Setter_takeDone_35
          rw [w_b1_is dnr, w_b1_is fnd, if_neg (by decide)]
          refine skip (fun hu => ?_)
          exact (c_us_1 hu).2 ⟨by omega, cb⟩
        · unfold c_us
          rw [if_pos ⟨s0, fun z => cb z.2⟩]
    · have dn : m_dn st (k + 1) = m_dn st k := by rw [m_dn, if_neg s0]; rfl
      have hu : c_us w st k ≠ 1 := fun z => s0 (c_us_1 z).1
      rw [← dn]
      refine ih (k + 1) n2 S (by omega) hF (by rw [c_dn_0 hu]; exact h2) (fun j hj' uj => ?_)
      by_cases e : j = k
      · rw [e] at uj; exact absurd uj hu
      · exact hj j (by omega) uj
theorem pc_take (S : SS) (w : Int) (st : Nat → Int) (n : Nat) (hn : n ≤ 40) (hq : ∀ k, k < 40 → gq S 11 k = some k) (h3 : gi S 10 3 = (n : Int)) (h5 : gi S 10 5 = (m_dn st n : Int)) (hd : ∀ j, j < n → st j = 0 → gi S 13 (m_dn st j) = (j : Int)) : pc (f_Setter_takeDone S w) (fun S1 => TKF S S1 ∧ TKN S1 (c_us w st) n) := by
  unfold f_Setter_takeDone
  refine pc_lt (fun S1 e1 => ?_)
  exact ctake_loop S w st n hn hq h3 h5 hd n 0 FU S1 (by omega) ⟨fun r k a d => by rw [e1, gi_off d], by rw [e1]; rfl, fun r k _ => by rw [e1]; rfl⟩ (by rw [e1, gi_at]; rfl) (fun j hj => absurd hj (Nat.not_lt_zero j))
