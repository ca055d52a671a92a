def q_ci (S : SS) (v1 v2 : Int) (j : Nat) : Prop := gi S 214 j = 1 ∧ gi S 199 j = 4 ∧ gi S 201 j + v2 ≤ v1 ∧ v1 ≤ gi S 202 j
def q_cm (S : SS) (t j : Nat) : Prop := gi S 214 j = 1 ∧ gi S 199 j = 4 ∧ gi S 201 j ≤ gi S 201 t ∧ gi S 203 t ≤ gi S 202 j
def q_ln (S : SS) (j : Nat) : Int := gi S 202 j - gi S 201 j
def q_ct (S : SS) (v1 v2 v3 : Int) (j : Nat) : Prop := gi S 214 j = 1 ∧ gi S 199 j = 3 ∧ gi S 201 j = v1 ∧ gi S 203 j ≤ v2 ∧ f_M_moveOf S (j : Int) = some v3
theorem pcl_innermost {b : Nat} (S : SS) (hC : MX b S) (v1 v2 : Int) (h1 : i32 v1) (h2 : v2 = 0 ∨ v2 = 1) : ∀ (n : Nat) (best : Int) (k : Nat), q_best k (q_ci S v1 v2) (q_ln S) best → (k : Int) ≤ gi S 192 27 → pc (f_M_innermost_5 S v1 v2 n best (k : Int)) (fun r => q_best (gi S 192 27).toNat (q_ci S v1 v2) (q_ln S) r) := by
  intro n
  induction n with
  | zero => intro best k _ _ r e; exact absurd e (by simp [f_M_innermost_5])
  | succ n ih =>
    intro best k hb hk
    show pc (f_M_innermost_5_b S v1 v2 (f_M_innermost_5 S v1 v2 n) best (k : Int)) _
    have b27 := mx_192_27 hC
    have go : (k : Int) < gi S 192 27 → ∀ best', q_best (k + 1) (q_ci S v1 v2) (q_ln S) best' → pc (f_M_innermost_111 S v1 v2 (f_M_innermost_5 S v1 v2 n) best' (k : Int)) (fun r => q_best (gi S 192 27).toNat (q_ci S v1 v2) (q_ln S) r) := by
      intro hlt best' hb'
      unfold f_M_innermost_111
      refine pc_chk (fun _ => ?_)
      rw [show (k : Int) + 1 = ((k + 1 : Nat) : Int) by omega]
      exact ih best' (k + 1) hb' (by omega)
    have b214 := mx_214 hC k
    have b201 := mx_201 hC k
    have tail : ∀ (w0 : Int64), w0.toInt = v2 → (k : Int) < gi S 192 27 → gi S 214 k = 1 → gi S 199 k = 4 → pc (f_M_innermost_54 S v1 v2 (f_M_innermost_5 S v1 v2 n) best (k : Int) w0 (i2l (gi S 201 k)) (i2l v1)) (fun r => q_best (gi S 192 27).toNat (q_ci S v1 v2) (q_ln S) r) := by
      intro w0 e0 hlt hu h4
      unfold f_M_innermost_54
      rw [i2l_v h1, i2l_v (show i32 (gi S 201 k) by omega), e0, Int.toNat_natCast]
      refine pc_chk (fun _ => pc_chk (fun _ => ?_))
      have i01 := in01 S v1 (gi S 201 k + v2) (gi S 202 k)
      refine pc_if (fun c => go hlt best (q_best_skip hb (fun q => ?_))) (fun c => pc_if (fun c2 => ?_) (fun c2 => ?_))
      · have := q.2.2; omega
      · unfold f_M_innermost_108
        exact go hlt (k : Int) (q_best_take hb ⟨hu, h4, by omega, by omega⟩ (.inl c2))
      · refine pc_chk (fun _ => pc_chk (fun _ => pc_chk (fun _ => pc_chk (fun _ => pc_chk (fun _ => pc_chk (fun _ => pc_if (fun c3 => ?_) (fun c3 => ?_)))))))
        · exact go hlt best (q_best_keep hb c2 c3)
        · unfold f_M_innermost_108
          exact go hlt (k : Int) (q_best_take hb ⟨hu, h4, by omega, by omega⟩ (.inr (by unfold q_ln; omega)))
    unfold f_M_innermost_5_b
    rw [Int.toNat_natCast]
    refine pc_if (fun c => pc_some ?_) (fun c => pc_chk (fun _ => pc_if (fun c2 => go (by omega) best (q_best_skip hb (fun q => ?_))) (fun c2 => pc_chk (fun _ => pc_if (fun c3 => pc_chk (fun _ => pc_if (fun c4 => tail 0 (by rw [c4]; rfl) (by omega) (by omega) c3) (fun c4 => tail 1 (by rw [show v2 = 1 by omega]; rfl) (by omega) (by omega) c3))) (fun c3 => go (by omega) best (q_best_skip hb (fun q => c3 q.2.1)))))))
    · rw [show (gi S 192 27).toNat = k by omega]; exact hb
    · have := q.1; omega
theorem pc_innermost {b : Nat} (S : SS) (hC : MX b S) (v1 v2 : Int) (h1 : i32 v1) (h2 : v2 = 0 ∨ v2 = 1) : pc (f_M_innermost S v1 v2) (fun r => q_best (gi S 192 27).toNat (q_ci S v1 v2) (q_ln S) r) := by
  have b27 := mx_192_27 hC
  exact pcl_innermost S hC v1 v2 h1 h2 FU (-1) 0 q_best_0 (by omega)
theorem pcl_moveOf {b : Nat} (S : SS) (hC : MX b S) (t : Nat) : ∀ (n : Nat) (best : Int) (k : Nat), q_best k (q_cm S t) (q_ln S) best → (k : Int) ≤ gi S 192 27 → pc (f_M_moveOf_4 S (t : Int) n best (k : Int)) (fun r => q_best (gi S 192 27).toNat (q_cm S t) (q_ln S) r) := by
  intro n
  induction n with
  | zero => intro best k _ _ r e; exact absurd e (by simp [f_M_moveOf_4])
  | succ n ih =>
    intro best k hb hk
    show pc (f_M_moveOf_4_b S (t : Int) (f_M_moveOf_4 S (t : Int) n) best (k : Int)) _
    have b27 := mx_192_27 hC
    have go : (k : Int) < gi S 192 27 → ∀ best', q_best (k + 1) (q_cm S t) (q_ln S) best' → pc (f_M_moveOf_100 S (t : Int) (f_M_moveOf_4 S (t : Int) n) best' (k : Int)) (fun r => q_best (gi S 192 27).toNat (q_cm S t) (q_ln S) r) := by
      intro hlt best' hb'
      unfold f_M_moveOf_100
      refine pc_chk (fun _ => ?_)
      rw [show (k : Int) + 1 = ((k + 1 : Nat) : Int) by omega]
      exact ih best' (k + 1) hb' (by omega)
    have b214 := mx_214 hC k
    unfold f_M_moveOf_4_b
    rw [Int.toNat_natCast, Int.toNat_natCast]
    refine pc_if (fun c => pc_some ?_) (fun c => pc_chk (fun _ => pc_if (fun c2 => go (by omega) best (q_best_skip hb (fun q => by have := q.1; omega))) (fun c2 => pc_chk (fun _ => pc_if (fun c3 => pc_chk (fun _ => pc_chk (fun _ => pc_if (fun c4 => go (by omega) best (q_best_skip hb (fun q => by have := q.2.2.1; omega))) (fun c4 => pc_chk (fun _ => pc_chk (fun _ => pc_if (fun c5 => ?_) (fun c5 => go (by omega) best (q_best_skip hb (fun q => c5 q.2.2.2)))))))) ) (fun c3 => go (by omega) best (q_best_skip hb (fun q => c3 q.2.1)))))))
    · rw [show (gi S 192 27).toNat = k by omega]; exact hb
    · have ck : q_cm S t k := ⟨by omega, c3, by omega, c5⟩
      refine pc_if (fun c6 => ?_) (fun c6 => pc_chk (fun _ => pc_chk (fun _ => pc_chk (fun _ => pc_chk (fun _ => pc_chk (fun _ => pc_chk (fun _ => pc_if (fun c7 => go (by omega) best (q_best_keep hb c6 c7)) (fun c7 => ?_))))))))
      · unfold f_M_moveOf_98
        exact go (by omega) (k : Int) (q_best_take hb ck (.inl c6))
      · unfold f_M_moveOf_98
        exact go (by omega) (k : Int) (q_best_take hb ck (.inr (by unfold q_ln; omega)))
theorem pc_moveOf {b : Nat} (S : SS) (hC : MX b S) (t : Nat) : pc (f_M_moveOf S (t : Int)) (fun r => q_best (gi S 192 27).toNat (q_cm S t) (q_ln S) r) := by
  have b27 := mx_192_27 hC
  exact pcl_moveOf S hC t FU (-1) 0 q_best_0 (by omega)
theorem pcl_turnAt {b : Nat} (S : SS) (hC : MX b S) (v1 v2 v3 : Int) : ∀ (n : Nat) (best : Int) (k : Nat), q_best k (q_ct S v1 v2 v3) (fun j => - gi S 203 j) best → (k : Int) ≤ gi S 192 27 → pc (f_M_turnAt_6 S v1 v2 v3 n best (k : Int)) (fun r => q_best (gi S 192 27).toNat (q_ct S v1 v2 v3) (fun j => - gi S 203 j) r) := by
  intro n
  induction n with
  | zero => intro best k _ _ r e; exact absurd e (by simp [f_M_turnAt_6])
  | succ n ih =>
    intro best k hb hk
    show pc (f_M_turnAt_6_b S v1 v2 v3 (f_M_turnAt_6 S v1 v2 v3 n) best (k : Int)) _
    have b27 := mx_192_27 hC
    have go : (k : Int) < gi S 192 27 → ∀ best', q_best (k + 1) (q_ct S v1 v2 v3) (fun j => - gi S 203 j) best' → pc (f_M_turnAt_98 S v1 v2 v3 (f_M_turnAt_6 S v1 v2 v3 n) best' (k : Int)) (fun r => q_best (gi S 192 27).toNat (q_ct S v1 v2 v3) (fun j => - gi S 203 j) r) := by
      intro hlt best' hb'
      unfold f_M_turnAt_98
      refine pc_chk (fun _ => ?_)
      rw [show (k : Int) + 1 = ((k + 1 : Nat) : Int) by omega]
      exact ih best' (k + 1) hb' (by omega)
    have b214 := mx_214 hC k
    unfold f_M_turnAt_6_b
    rw [Int.toNat_natCast]
    refine pc_if (fun c => pc_some ?_) (fun c => pc_chk (fun _ => pc_if (fun c2 => go (by omega) best (q_best_skip hb (fun q => by have := q.1; omega))) (fun c2 => pc_chk (fun _ => pc_if (fun c3 => pc_chk (fun _ => pc_if (fun c4 => pc_chk (fun _ => pc_if (fun c5 => go (by omega) best (q_best_skip hb (fun q => by have := q.2.2.2.1; omega))) (fun c5 => pc_b1 (R := fun r => f_M_moveOf S (k : Int) = some r) (fun r e => e) (fun r6 e6 => pc_if (fun c6 => ?_) (fun c6 => go (by omega) best (q_best_skip hb (fun q => ?_)))) ))) (fun c4 => go (by omega) best (q_best_skip hb (fun q => c4 q.2.2.1))))) (fun c3 => go (by omega) best (q_best_skip hb (fun q => c3 q.2.1)))))))
    · rw [show (gi S 192 27).toNat = k by omega]; exact hb
    · have ck : q_ct S v1 v2 v3 k := ⟨by omega, c3, c4, by omega, by rw [e6, c6]⟩
      refine pc_if (fun c7 => ?_) (fun c7 => pc_chk (fun _ => pc_chk (fun _ => pc_if (fun c8 => go (by omega) best (q_best_keep hb c7 (by omega))) (fun c8 => ?_))))
      · unfold f_M_turnAt_94
        exact go (by omega) (k : Int) (q_best_take hb ck (.inl c7))
      · unfold f_M_turnAt_94
        exact go (by omega) (k : Int) (q_best_take hb ck (.inr (by omega)))
    · have := q.2.2.2.2
      rw [e6] at this
      cases this
      exact c6 rfl
theorem pc_turnAt {b : Nat} (S : SS) (hC : MX b S) (v1 v2 v3 : Int) : pc (f_M_turnAt S v1 v2 v3) (fun r => q_best (gi S 192 27).toNat (q_ct S v1 v2 v3) (fun j => - gi S 203 j) r) := by
  have b27 := mx_192_27 hC
  exact pcl_turnAt S hC v1 v2 v3 FU (-1) 0 q_best_0 (by omega)
/-- all stays but what judging writes -/
def q_fj (S S1 : SS) : Prop := S1.2 = S.2 ∧ ∀ r k, r ≠ 212 → r ≠ 213 → gi S1 r k = gi S r k
theorem q_fj_refl (S : SS) : q_fj S S := ⟨rfl, fun _ _ _ _ => rfl⟩
theorem q_fj_si {S S1 : SS} (h : q_fj S S1) {r k : Nat} {v : Int} (hr : r = 212 ∨ r = 213) : q_fj S (si S1 r k v) := by
  refine ⟨h.1, fun r' k' h1 h2 => ?_⟩
  rw [gi_si, if_neg (by omega)]; exact h.2 r' k' h1 h2
theorem q_fj_trans {S S1 S2 : SS} (h : q_fj S S1) (h2 : q_fj S1 S2) : q_fj S S2 := ⟨h2.1.trans h.1, fun r k a b => (h2.2 r k a b).trans (h.2 r k a b)⟩
theorem q_fj_md {S S1 : SS} (h : q_fj S S1) : q_md S1 = q_md S := by
  funext j k
  unfold q_md
  rw [h.2 199 k (by decide) (by decide), h.2 201 k (by decide) (by decide), h.2 202 k (by decide) (by decide), h.2 203 k (by decide) (by decide), h.2 214 k (by decide) (by decide)]
def q_jd (S : SS) : Prop := ∀ k : Nat, (k : Int) < gi S 192 27 → gi S 212 k = 0 → gi S 199 k ≠ 5 ∧ ∀ o : Nat, (o : Int) < gi S 192 27 → o ≠ k → gi S 212 o = 0 → q_nm (q_md S) k o
