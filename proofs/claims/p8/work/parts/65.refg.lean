theorem pc_and {α : Type} {P R : α → Prop} {x : Option α} (h : pc x P) (h2 : pc x R) : pc x (fun r => P r ∧ R r) := fun r e => ⟨h r e, h2 r e⟩
theorem pcl_judge_154 {b : Nat} (S0 : SS) (r : Int) (kf : SS → Int → Option SS) (P : SS → Prop) : ∀ (n c : Nat) (S : SS) (k : Nat) (st : Nat → Int), k + c = (gi S0 192 27).toNat → MX b S → q_js S0 S st r k → (∀ S', MX b S' → q_js S0 S' (j_k (q_nm (q_md S0)) (gi S0 192 27).toNat (m_rk S0) r c k st) r (gi S0 192 27).toNat → pc (kf S' (r + 1)) P) → pc (f_M_judge_154 kf n S r (k : Int)) P := by
  intro n
  induction n with
  | zero => intro c S k st _ _ _ _ r e; exact absurd e (by simp [f_M_judge_154])
  | succ n ih =>
    intro c S k st hc hC hj hk
    show pc (f_M_judge_154_b kf (f_M_judge_154 kf n) S r (k : Int)) P
    have b27 := mx_192_27 hC
    have e27 : gi S 192 27 = gi S0 192 27 := hj.1.2 192 27 (by decide) (by decide)
    have e200 : gi S 200 k = gi S0 200 k := hj.1.2 200 k (by decide) (by decide)
    have e209 : gi S 209 (gi S0 200 k).toNat = m_rk S0 k := hj.1.2 209 _ (by decide) (by decide)
    unfold f_M_judge_154_b
    rw [Int.toNat_natCast, e27, e200, e209]
    refine pc_if (fun c1 => pc_chk (fun _ => ?_)) (fun c1 => ?_)
    · have : c = 0 := by omega
      subst this
      rw [show (gi S0 192 27).toNat = k by omega] at hk
      exact hk S hC hj
    · obtain ⟨c, rfl⟩ : ∃ c', c = c' + 1 := ⟨c - 1, by omega⟩
      have go : ∀ S' st', MX b S' → q_js S0 S' st' r (k + 1) → st' = cif (st k = 1 ∧ m_rk S0 k = r) (j_one (q_nm (q_md S0)) (gi S0 192 27).toNat k st) st → pc (f_M_judge_192 kf (f_M_judge_154 kf n) S' r (k : Int)) P := by
        intro S' st' hC' hj' e
        unfold f_M_judge_192
        refine pc_chk (fun _ => ?_)
        rw [show (k : Int) + 1 = ((k + 1 : Nat) : Int) by omega]
        refine ih c S' (k + 1) st' (by omega) hC' hj' (fun S'' a d => hk S'' a ?_)
        rw [j_k, ← e]; exact d
      have skip : ¬ (st k = 1 ∧ m_rk S0 k = r) → pc (f_M_judge_192 kf (f_M_judge_154 kf n) S r (k : Int)) P := by
        intro hn
        refine go S st hC ⟨hj.1, hj.2.1, fun j a b d => hj.2.2 j a b ?_⟩ (by rw [cif_neg hn])
        rcases d with d | d
        · exact .inl d
        · exact .inr ⟨d.1, by omega⟩
      have es := hj.2.1 k (by omega)
      refine pc_chk (fun _ => pc_if (fun c2 => pc_chk (fun _ => pc_chk (fun _ => pc_if (fun c3 => ?_) (fun c3 => skip (fun q => c3 q.2))))) (fun c2 => skip (fun q => c2 (es.trans q.1))))
      have h1 : st k = 1 := es.symm.trans c2
      refine pc_b1 (pc_and (ok_true (ok_M_judgeOne S (k : Int) hC (by omega))) (pcl_judgeOne (b := b) S0 k (by omega) st h1 r c3 FU S 0 hC hj.1 (by omega) hj.2.1 (fun j a e d f => hj.2.2 j a d f) (.inl ⟨hj.2.2 k (by omega) h1 (.inr ⟨c3.symm, by omega⟩), fun j q => absurd q (Nat.not_lt_zero j)⟩))) (fun S6 h6 => ?_)
      exact go S6 _ h6.1.1 h6.2 (by rw [cif_pos ⟨h1, c3⟩])
theorem pcl_judge_146 {b : Nat} (S0 : SS) : ∀ (n c : Nat) (S : SS) (r : Int) (st : Nat → Int), r + (c : Int) = 10 → MX b S → q_js S0 S st r 0 → pc (f_M_judge_146 n S r) (fun S1 => q_fj S0 S1 ∧ ∀ j : Nat, (j : Int) < gi S0 192 27 → gi S1 212 j = j_r (q_nm (q_md S0)) (gi S0 192 27).toNat (m_rk S0) c r st j) := by
  intro n
  induction n with
  | zero => intro c S r st _ _ _ q e; exact absurd e (by simp [f_M_judge_146])
  | succ n ih =>
    intro c S r st hc hC hj
    show pc (f_M_judge_146_b (f_M_judge_146 n) S r) _
    unfold f_M_judge_146_b
    refine pc_if (fun c1 => pc_some ?_) (fun c1 => ?_)
    · have : c = 0 := by omega
      subst this
      exact ⟨hj.1, hj.2.1⟩
    · obtain ⟨c, rfl⟩ : ∃ c', c = c' + 1 := ⟨c - 1, by omega⟩
      refine pcl_judge_154 (b := b) S0 r (f_M_judge_146 n) _ FU (gi S0 192 27).toNat S 0 st (by omega) hC hj (fun S' hC' hj' => ?_)
      refine ih c S' (r + 1) _ (by omega) hC' ⟨hj'.1, hj'.2.1, fun j a d e => hj'.2.2 j a d (.inl ?_)⟩
      omega
def q_j1 (S0 S : SS) (k : Nat) : Prop := q_fj S0 S ∧ ∀ j : Nat, j < k → gi S 212 j = m_s0 S0 j ∧ (m_s0 S0 j = 1 → gi S 213 j = -1)
theorem pcl_judge_24 {b : Nat} (S0 : SS) (k : Nat) (hk : (k : Int) < gi S0 192 27) (kf : SS → Int → Option SS) (P : SS → Prop) (hkf : ∀ S', MX b S' → q_j1 S0 S' (k + 1) → pc (kf S' ((k + 1 : Nat) : Int)) P) : ∀ (n : Nat) (S : SS) (s : Int), (k : Int) ≤ s → s < gi S0 192 27 → MX b S → q_j1 S0 S k → (gi S 213 k ≠ -1 ↔ ∃ s' : Nat, s < (s' : Int) ∧ (s' : Int) < gi S0 192 27 ∧ gi S0 199 s' = 5 ∧ gi S0 201 s' = (k : Int)) → pc (f_M_judge_24 kf n S (k : Int) s) P := by
  intro n
  induction n with
  | zero => intro S s _ _ _ _ _ r e; exact absurd e (by simp [f_M_judge_24])
  | succ n ih =>
    intro S s h1 h2 hC hj hq
    show pc (f_M_judge_24_b kf (f_M_judge_24 kf n) S (k : Int) s) P
    have b27 := mx_192_27 hC
    have e27 : gi S 192 27 = gi S0 192 27 := hj.1.2 192 27 (by decide) (by decide)
    have e199 : ∀ j, gi S 199 j = gi S0 199 j := fun j => hj.1.2 199 j (by decide) (by decide)
    have e201 : ∀ j, gi S 201 j = gi S0 201 j := fun j => hj.1.2 201 j (by decide) (by decide)
    have e207 : ∀ j, gi S 207 j = gi S0 207 j := fun j => hj.1.2 207 j (by decide) (by decide)
    have e205 : ∀ j, gi S 205 j = gi S0 205 j := fun j => hj.1.2 205 j (by decide) (by decide)
    have fin : ∀ v, 0 ≤ v → v ≤ 4 → v = m_s0 S0 k → (v = 1 → gi S 213 k = -1) → pc (f_M_judge_137 kf S (k : Int) v (k : Int)) P := by
      intro v v1 v2 ev hv
      unfold f_M_judge_137
      rw [Int.toNat_natCast]
      refine pc_chk (fun _ => pc_lt (fun S1 e1 => pc_chk (fun _ => ?_)))
      rw [show (k : Int) + 1 = ((k + 1 : Nat) : Int) by omega]
      refine hkf S1 (by rw [e1]; exact ms_212 hC v1 v2) ⟨by rw [e1]; exact q_fj_si hj.1 (.inl rfl), fun j hjk => ?_⟩
      have e213 : gi S1 213 j = gi S 213 j := by rw [e1, gi_si, if_neg (fun q => absurd q.1 (by decide))]
      rw [e213, e1, gi_si]
      by_cases e : j = k
      · rw [if_pos ⟨rfl, e⟩, e]
        exact ⟨ev, fun q => hv (ev.trans q)⟩
      · rw [if_neg (fun q => e q.2)]
        exact hj.2 j (by omega)
    unfold f_M_judge_24_b
    rw [Int.toNat_natCast, e199, e207, e205]
    refine pc_if (fun c1 => pc_chk (fun _ => pc_if (fun c2 => ?_) (fun c2 => pc_chk (fun _ => ?_)))) (fun c1 => pc_chk (fun _ => ?_))
    · refine fin 4 (by decide) (by decide) ?_ (fun q => absurd q (by decide))
      unfold m_s0; rw [if_pos c2]
    · have es : s = (k : Int) := by omega
      have ov : gi S 213 k ≠ -1 ↔ m_ov S0 k := by
        rw [hq, es]; unfold m_ov
        constructor
        · rintro ⟨s', a, d⟩; exact ⟨s', by omega, d⟩
        · rintro ⟨s', a, d⟩; exact ⟨s', by omega, d⟩
      have f2 : m_ov S0 k ∨ (gi S0 207 k ≠ 0 ∧ gi S0 205 k = 2) → pc (f_M_judge_110 kf S (k : Int) (k : Int)) P := by
        intro h
        unfold f_M_judge_110
        refine fin 2 (by decide) (by decide) ?_ (fun q => absurd q (by decide))
        unfold m_s0; rw [if_neg c2, cif_pos h]
      have f3 : gi S 213 k = -1 → ¬ (m_ov S0 k ∨ (gi S0 207 k ≠ 0 ∧ gi S0 205 k = 2)) → pc (f_M_judge_114 kf S (k : Int) (k : Int)) P := by
        intro h0 h
        unfold f_M_judge_114
        rw [Int.toNat_natCast, e207, e205]
        refine pc_chk (fun _ => pc_if (fun c3 => ?_) (fun c3 => pc_chk (fun _ => pc_if (fun c4 => ?_) (fun c4 => ?_))))
        · unfold f_M_judge_136
          refine fin 1 (by decide) (by decide) ?_ (fun _ => h0)
          unfold m_s0; rw [if_neg c2, cif_neg h, if_neg (fun q => q.1 c3)]
        · refine fin 3 (by decide) (by decide) ?_ (fun q => absurd q (by decide))
          unfold m_s0; rw [if_neg c2, cif_neg h, if_pos ⟨c3, c4⟩]
        · unfold f_M_judge_136
          refine fin 1 (by decide) (by decide) ?_ (fun _ => h0)
          unfold m_s0; rw [if_neg c2, cif_neg h, if_neg (fun q => c4 q.2)]
      refine pc_if (fun c3 => ?_) (fun c3 => f2 (.inl (ov.1 c3)))
      have nov : ¬ m_ov S0 k := fun q => ov.2 q c3
      refine pc_chk (fun _ => pc_if (fun c4 => f3 c3 (fun q => q.elim nov (fun q => q.1 c4))) (fun c4 => pc_chk (fun _ => pc_if (fun c5 => f2 (.inr ⟨c4, c5⟩)) (fun c5 => f3 c3 (fun q => q.elim nov (fun q => c5 q.2))))))
    · have st : s = ((s.toNat : Nat) : Int) := by omega
      have go : ∀ S', MX b S' → q_j1 S0 S' k → (gi S' 213 k ≠ -1 ↔ ∃ s' : Nat, s - 1 < (s' : Int) ∧ (s' : Int) < gi S0 192 27 ∧ gi S0 199 s' = 5 ∧ gi S0 201 s' = (k : Int)) → pc (f_M_judge_56 kf (f_M_judge_24 kf n) S' (k : Int) s) P := by
        intro S' a d e
        unfold f_M_judge_56
        refine pc_chk (fun _ => ?_)
        rw [show s + (-1) = s - 1 by omega]
        exact ih S' (s - 1) (by omega) (by omega) a d e
      have same : ¬ (gi S0 199 s.toNat = 5 ∧ gi S0 201 s.toNat = (k : Int)) → (gi S 213 k ≠ -1 ↔ ∃ s' : Nat, s - 1 < (s' : Int) ∧ (s' : Int) < gi S0 192 27 ∧ gi S0 199 s' = 5 ∧ gi S0 201 s' = (k : Int)) := by
        intro hn
        rw [hq]
        constructor
        · rintro ⟨s', a, d⟩; exact ⟨s', by omega, d⟩
        · rintro ⟨s', a, d, e, f⟩
          refine ⟨s', ?_, d, e, f⟩
          have : s' ≠ s.toNat := by intro q; rw [q] at e f; exact hn ⟨e, f⟩
          omega
      rw [e199]
      refine pc_if (fun c2 => pc_chk (fun _ => ?_)) (fun c2 => go S hC hj (same (fun q => c2 q.1)))
      rw [e201]
      refine pc_if (fun c3 => pc_chk (fun _ => pc_lt (fun S7 e7 => ?_))) (fun c3 => go S hC hj (same (fun q => c3 q.2)))
      refine go S7 (by rw [e7]; exact ms_213 hC (by omega) (by omega)) ⟨by rw [e7]; exact q_fj_si hj.1 (.inr rfl), fun j hjk => ?_⟩ ?_
      · rw [e7, gi_si, gi_si, if_neg (fun q => absurd q.1 (by decide)), if_neg (fun q => by omega)]
        exact hj.2 j hjk
      · rw [e7, gi_si, if_pos ⟨rfl, rfl⟩]
        exact ⟨fun _ => ⟨s.toNat, by omega, by omega, c2, c3⟩, fun _ => by omega⟩
theorem pcl_judge_2 {b : Nat} (S0 : SS) : ∀ (n : Nat) (S : SS) (k : Nat), (k : Int) ≤ gi S0 192 27 → MX b S → q_j1 S0 S k → pc (f_M_judge_2 n S (k : Int)) (fun S1 => q_fj S0 S1 ∧ ∀ j : Nat, (j : Int) < gi S0 192 27 → gi S1 212 j = m_st S0 j) := by
  intro n
  induction n with
  | zero => intro S k _ _ _ r e; exact absurd e (by simp [f_M_judge_2])
  | succ n ih =>
    intro S k hk hC hj
    show pc (f_M_judge_2_b (f_M_judge_2 n) S (k : Int)) _
    have b27 := mx_192_27 hC
    have e27 : gi S 192 27 = gi S0 192 27 := hj.1.2 192 27 (by decide) (by decide)
    unfold f_M_judge_2_b
    rw [Int.toNat_natCast, e27]
    refine pc_if (fun c1 => ?_) (fun c1 => pc_chk (fun _ => pc_lt (fun S2 e2 => pc_chk (fun _ => ?_))))
    · exact pcl_judge_146 (b := b) S0 FU 10 S 0 (m_s0 S0) (by omega) hC ⟨hj.1, fun j hjj => (hj.2 j (by omega)).1, fun j hjj h1 _ => (hj.2 j (by omega)).2 h1⟩
    · have hC2 : MX b S2 := by rw [e2]; exact ms_213 hC (by decide) (by decide)
      have hj2 : q_j1 S0 S2 k := by
        refine ⟨by rw [e2]; exact q_fj_si hj.1 (.inr rfl), fun j hjk => ?_⟩
        rw [e2, gi_si, gi_si, if_neg (fun q => absurd q.1 (by decide)), if_neg (fun q => by omega)]
        exact hj.2 j hjk
      have e272 : gi S2 192 27 = gi S0 192 27 := hj2.1.2 192 27 (by decide) (by decide)
      rw [e272]
      refine pcl_judge_24 (b := b) S0 k (by omega) (f_M_judge_2 n) _ (fun S' a d => ih S' (k + 1) (by omega) a d) FU S2 (gi S0 192 27 - 1) (by omega) (by omega) hC2 hj2 ?_
      rw [e2, gi_si, if_pos ⟨rfl, rfl⟩]
      exact ⟨fun q => absurd rfl q, fun ⟨s', a, d, _⟩ => by omega⟩
theorem pc_judge {b : Nat} (S : SS) (hC : MX b S) : pc (f_M_judge S) (fun S1 => q_fj S S1 ∧ ∀ j : Nat, (j : Int) < gi S 192 27 → gi S1 212 j = m_st S j) := by
  have b27 := mx_192_27 hC
  exact pcl_judge_2 (b := b) S FU S 0 (by omega) hC ⟨q_fj_refl S, fun j h => absurd h (Nat.not_lt_zero j)⟩
theorem m_st_ok (S : SS) : j_ok (q_nm (q_md S)) (gi S 192 27).toNat (fun k => gi S 199 k = 5) (m_st S) := by
  refine j_r_ok (fun k o h => q_nm_symm h) 10 0 (m_s0 S) (fun k hk h => ?_)
  unfold m_s0 at h ⊢
  by_cases e : gi S 199 k = 5
  · rw [if_pos e] at h; exact absurd h (by decide)
  · refine ⟨e, fun h0 => ?_⟩
    rw [if_neg e] at h0
    by_cases e2 : m_ov S k ∨ (gi S 207 k ≠ 0 ∧ gi S 205 k = 2)
    · rw [cif_pos e2] at h0; exact absurd h0 (by decide)
    · rw [cif_neg e2] at h0
      split at h0 <;> exact absurd h0 (by decide)
