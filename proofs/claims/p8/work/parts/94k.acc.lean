/-- some STET of n0 .. j - 1 tells mark k -/
def sv (T : SS) (n0 j k : Nat) : Prop := ∃ s : Nat, n0 ≤ s ∧ s < j ∧ gi T 199 s = 5 ∧ gi T 201 s = (k : Int)
/-- accept changes the marks' VOID alone -/
abbrev XAC (r k : Nat) : Prop := (r = 10 ∧ (k = 3 ∨ k = 4)) ∨ (14 ≤ r ∧ r < 174 ∧ r % 4 = 2 ∧ (k = 8 ∨ k = 10))
theorem ac_loop (S0 T : SS) (n0 m : Nat) (came : Int) (hm : m ≤ 40) (hq : ∀ k, k < 40 → gq S0 11 k = some k) (h3 : gi S0 10 3 = (m : Int)) (hK : ∀ k, k < m → gi S0 (14 + 4 * k) 2 = gi T 199 k ∧ gi S0 (14 + 4 * k + 1) 0 = gi T 201 k) (hv : ∀ k, k < m → gi T 199 k = 5 → 0 ≤ gi T 201 k ∧ gi T 201 k < (k : Int)) : ∀ (n : Nat) (S : SS) (j : Nat), n0 ≤ j → j ≤ m → S.2 = S0.2 → fr XAC S0 S → gi S 10 3 = (m : Int) → (∀ k, k < m → (gi S (14 + 4 * k) 8 ≠ 0 ↔ (gi S0 (14 + 4 * k) 8 ≠ 0 ∨ sv T n0 j k))) → pc (f_Pile_accept_30 n S came (j : Int)) (fun u => u.1 = came ∧ u.2.2 = S0.2 ∧ fr XAC S0 u.2 ∧ gi u.2 10 3 = (m : Int) ∧ gi u.2 10 4 = gi S 10 4 ∧ ∀ k, k < m → (gi u.2 (14 + 4 * k) 8 ≠ 0 ↔ (gi S0 (14 + 4 * k) 8 ≠ 0 ∨ sv T n0 m k))) := by
  intro n
  induction n with
  | zero => intro S j _ _ _ _ _ _ r e; exact absurd e (by simp [f_Pile_accept_30])
  | succ n ih =>
    intro S j hj hjm l f e3 hb
    have hq' : ∀ k, k < 40 → gq S 11 k = some k := fun k hk => by unfold gq; rw [l]; exact hq k hk
    show pc (f_Pile_accept_30_b (f_Pile_accept_30 n) S came (j : Int)) _
    unfold f_Pile_accept_30_b
    rw [e3]
    refine pc_if (fun c => ?_) (fun c => ?_)
    · have : j = m := by omega
      subst this
      exact pc_some ⟨rfl, l, f, e3, rfl, hb⟩
    · rw [w_b1_is (c_find hq' (by omega) (by omega))]
      show pc (w_chk (j < 40) _) _
      refine pc_chk (fun _ => ?_)
      have kj : gi S (14 + 4 * j) 2 = gi T 199 j := by rw [f (14 + 4 * j) 2 (by omega)]; exact (hK j (by omega)).1
      have nj : gi S (14 + 4 * j + 1) 0 = gi T 201 j := by rw [f (14 + 4 * j + 1) 0 (by omega)]; exact (hK j (by omega)).2
      have go : ∀ S1, S1.2 = S0.2 → fr XAC S0 S1 → gi S1 10 3 = (m : Int) → gi S1 10 4 = gi S 10 4 → (∀ k, k < m → (gi S1 (14 + 4 * k) 8 ≠ 0 ↔ (gi S0 (14 + 4 * k) 8 ≠ 0 ∨ sv T n0 (j + 1) k))) → pc (f_Pile_accept_81 (f_Pile_accept_30 n) S1 came (j : Int)) (fun u => u.1 = came ∧ u.2.2 = S0.2 ∧ fr XAC S0 u.2 ∧ gi u.2 10 3 = (m : Int) ∧ gi u.2 10 4 = gi S 10 4 ∧ ∀ k, k < m → (gi u.2 (14 + 4 * k) 8 ≠ 0 ↔ (gi S0 (14 + 4 * k) 8 ≠ 0 ∨ sv T n0 m k))) := by
        intro S1 l1 f1 e31 e41 b1
        unfold f_Pile_accept_81
        refine pc_chk (fun _ => ?_)
        rw [show (j : Int) + 1 = ((j + 1 : Nat) : Int) by omega]
        exact pc_mono (ih S1 (j + 1) (by omega) (by omega) l1 f1 e31 b1) (fun u q => ⟨q.1, q.2.1, q.2.2.1, q.2.2.2.1, q.2.2.2.2.1.trans e41, q.2.2.2.2.2⟩)
      rw [kj]
      refine pc_if (fun c5 => ?_) (fun c5 => ?_)
      · have v := hv j (by omega) c5
        have en : f_Mark_number S j 0 = some (gi T 201 j) := by
          rw [c_num (by omega), ← nj]; rfl
        have ef : f_Pile_find S (gi T 201 j) = some (some (gi T 201 j).toNat) := by
          have := c_find hq' (k := (gi T 201 j).toNat) (by omega) (by omega)
          rw [show (((gi T 201 j).toNat : Nat) : Int) = gi T 201 j by omega] at this
          exact this
        rw [w_b1_is en, w_b1_is ef]
        show pc (w_chk ((gi T 201 j).toNat < 40) _) _
        refine pc_chk (fun _ => ?_)
        have key : ∀ k, k < m → (sv T n0 (j + 1) k ↔ (sv T n0 j k ∨ k = (gi T 201 j).toNat)) := by
          intro k hk
          constructor
          · rintro ⟨s, a1, a2, a3, a4⟩
            by_cases e : s = j
            · right; rw [e] at a4; omega
            · exact .inl ⟨s, a1, by omega, a3, a4⟩
          · rintro (⟨s, a1, a2, a3, a4⟩ | e)
            · exact ⟨s, a1, by omega, a3, a4⟩
            · exact ⟨j, hj, by omega, c5, by omega⟩
        unfold f_Mark_voidByStet
        by_cases c8 : gi S (14 + 4 * (gi T 201 j).toNat) 8 = 0
        · rw [if_pos c8]
          refine pc_lt (fun S1 e1 => ?_)
          have e1 : S1 = si (si S (14 + 4 * (gi T 201 j).toNat) 8 1) (14 + 4 * (gi T 201 j).toNat) 10 (j : Int) := e1
          have f1 : ∀ r k, ¬ (r = 14 + 4 * (gi T 201 j).toNat ∧ (k = 8 ∨ k = 10)) → gi S1 r k = gi S r k := fun r k a => by rw [e1, gi_off (by omega), gi_off (by omega)]
          refine go S1 (by rw [e1]; exact l) (fun r k a => by rw [f1 r k (by omega)]; exact f r k a) (by rw [f1 10 3 (by omega)]; exact e3) (f1 10 4 (by omega)) (fun k hk => ?_)
          rw [key k hk]
          by_cases e : k = (gi T 201 j).toNat
          · rw [e, e1, gi_off (by omega), gi_at]
            exact ⟨fun _ => .inr (.inr rfl), fun _ => by decide⟩
          · rw [f1 _ 8 (by omega), hb k hk]
            exact ⟨fun q => q.elim .inl (fun w => .inr (.inl w)), fun q => q.elim .inl (fun w => w.elim .inr (fun w => absurd w e))⟩
        · rw [if_neg c8]
          refine pc_lt (fun S1 e1 => ?_)
          rw [e1]
          refine go S l f e3 rfl (fun k hk => ?_)
          rw [key k hk]
          by_cases e : k = (gi T 201 j).toNat
          · have := (hb k hk).1 (by rw [e]; exact c8)
            exact ⟨fun _ => this.elim .inl (fun w => .inr (.inl w)), fun _ => by rw [e]; exact c8⟩
          · rw [hb k hk]
            exact ⟨fun q => q.elim .inl (fun w => .inr (.inl w)), fun q => q.elim .inl (fun w => w.elim .inr (fun w => absurd w e))⟩
      · refine go S l f e3 rfl (fun k hk => ?_)
        have key : sv T n0 (j + 1) k ↔ sv T n0 j k := by
          constructor
          · rintro ⟨s, a1, a2, a3, a4⟩
            by_cases e : s = j
            · rw [e] at a3; exact absurd a3 c5
            · exact ⟨s, a1, by omega, a3, a4⟩
          · rintro ⟨s, a1, a2, a3, a4⟩
            exact ⟨s, a1, by omega, a3, a4⟩
        rw [key]; exact hb k hk
theorem ac_is {S0 T : SS} {n0 m : Nat} (hm : m ≤ 40) (hn : n0 ≤ m) (hq : ∀ k, k < 40 → gq S0 11 k = some k) (h3 : gi S0 10 3 = (n0 : Int)) (h4 : gi S0 10 4 = (m : Int) - (n0 : Int)) (hK : ∀ k, k < m → gi S0 (14 + 4 * k) 2 = gi T 199 k ∧ gi S0 (14 + 4 * k + 1) 0 = gi T 201 k) (hv : ∀ k, k < m → gi T 199 k = 5 → 0 ≤ gi T 201 k ∧ gi T 201 k < (k : Int)) : pc (f_Pile_accept S0) (fun u => u.1 = (m : Int) - (n0 : Int) ∧ u.2.2 = S0.2 ∧ fr XAC S0 u.2 ∧ gi u.2 10 3 = (m : Int) ∧ gi u.2 10 4 = 0 ∧ ∀ k, k < m → (gi u.2 (14 + 4 * k) 8 ≠ 0 ↔ (gi S0 (14 + 4 * k) 8 ≠ 0 ∨ sv T n0 m k))) := by
  unfold f_Pile_accept
  refine pc_chk (fun _ => pc_lt (fun S5 e5 => pc_lt (fun S6 e6 => pc_chk (fun _ => ?_))))
  have s3 : gi S6 10 3 = (m : Int) := by rw [e6, gi_off (by omega), e5, gi_at]; omega
  have s4 : gi S6 10 4 = 0 := by rw [e6, gi_at]
  have f6 : ∀ r k, ¬ (r = 10 ∧ (k = 3 ∨ k = 4)) → gi S6 r k = gi S0 r k := fun r k a => by rw [e6, gi_off (by omega), e5, gi_off (by omega)]
  have l6 : S6.2 = S0.2 := by rw [e6, e5]; rfl
  rw [s3, h4, show (m : Int) - ((m : Int) - (n0 : Int)) = (n0 : Int) by omega]
  refine pc_mono (ac_loop S6 T n0 m ((m : Int) - (n0 : Int)) hm (fun k hk => by unfold gq; rw [l6]; exact hq k hk) s3 (fun k hk => by rw [f6 _ 2 (by omega), f6 _ 0 (by omega)]; exact hK k hk) hv FU S6 n0 (Nat.le_refl _) hn rfl (fr_refl _ _) s3 (fun k hk => ⟨fun q => .inl q, fun q => q.elim id (fun w => by obtain ⟨s, a1, a2, _⟩ := w; omega)⟩)) (fun u q => ?_)
  obtain ⟨q1, q2, q3, q4, q5, q6⟩ := q
  refine ⟨q1, q2.trans l6, fun r k a => by rw [q3 r k a]; exact f6 r k (by omega), q4, by rw [q5]; exact s4, fun k hk => ?_⟩
  rw [q6 k hk, f6 _ 8 (by omega)]
