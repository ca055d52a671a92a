/-- pure: which marks are open while a region is set -/
def q_op (M : q_MK) (low high mv : Int) (k : Nat) : Prop := (k : Int) = mv ∨ (q_kd M k ≠ 1 ∧ q_anc M low high mv k)
theorem q_op_in {M : q_MK} {n : Nat} {F low high mv : Int} (G : q_good M n F) (R : q_reg M n F low high mv) {k : Nat} (hk : k < n) (uk : q_us M k = 1) (rk : q_kd M k ≠ 1) (ik : q_in M low high mv k) : ¬ q_op M low high mv k := by
  have v := G.1 k hk uk
  unfold q_val at v
  intro q
  rcases q with q | ⟨_, a1, a2, a3⟩
  · exact ik.1 q
  · rcases a3 with a3 | a3
    · rcases R.2.2.2.2 with r5 | ⟨m', m1, m2, m3, m4, m5, m6⟩
      · omega
      · have a4 := a3.2.2
        rw [m2, Int.toNat_natCast] at a4
        omega
    · omega
theorem q_op_cand {M : q_MK} {n : Nat} {F low high mv i : Int} (G : q_good M n F) (R : q_reg M n F low high mv) (hl : low ≤ i) (hh : i ≤ high) {k : Nat} (hk : k < n) (uk : q_us M k = 1) : (¬ q_op M low high mv k ∧ q_kd M k ≠ 1 ∧ q_lo M k = i) ↔ q_cand M high mv i k := by
  constructor
  · rintro ⟨h1, h2, h3⟩
    have v := G.1 k hk uk
    unfold q_val at v
    rcases R.2.2.1 k hk uk h2 (by omega) (by omega) with q | q | q
    · exact absurd (.inl q) h1
    · exact ⟨uk, h2, q.1, h3, q.2.2⟩
    · exact absurd (.inr ⟨h2, q⟩) h1
  · rintro ⟨_, h2, h3, h4, h5⟩
    exact ⟨q_op_in G R hk uk h2 ⟨h3, by omega, h5⟩, h2, h4⟩
theorem q_op_move {M : q_MK} {n : Nat} {F low high mv : Int} (G : q_good M n F) (R : q_reg M n F low high mv) {m : Nat} (hm : m < n) (um : q_us M m = 1) (km : q_kd M m = 4) (im : q_in M low high mv m) (B : q_bd M n low high mv (q_gp M m)) {k : Nat} (hk : k < n) (uk : q_us M k = 1) (ne : k ≠ m) : q_op M low high mv k ↔ q_op M (q_lo M m) (q_hi M m) (m : Int) k := by
  have vm := G.1 m hm um
  unfold q_val at vm
  have vm : 0 ≤ q_lo M m ∧ q_lo M m ≤ q_hi M m ∧ q_hi M m < F ∧ q_gp M m ≠ -1 := by omega
  have vk := G.1 k hk uk
  unfold q_val at vk
  obtain ⟨r1, r2, r3, r4, r5⟩ := R
  have mvl : ∀ m' : Nat, m' < n → mv = (m' : Int) → q_us M m' = 1 → q_kd M m' = 4 → q_lo M m' ≤ low → high ≤ q_hi M m' → q_hi M m - q_lo M m < q_hi M m' - q_lo M m' := by
    intro m' m1 m2 m3 m4 m5 m6
    by_cases c : q_hi M m' - q_lo M m' ≤ q_hi M m - q_lo M m
    · exact absurd (q_same_row G hm m1 (fun q => im.1 (by rw [m2, ← q])) um m3 km m4 (by omega) (by omega) c) (fun q => q)
    · omega
  unfold q_op
  constructor
  · intro q
    right
    rcases q with q | ⟨q0, a1, a2, a3⟩
    · rcases r5 with r5 | ⟨m', m1, m2, m3, m4, m5, m6⟩
      · omega
      · have e : m' = k := by omega
        subst e
        have l := mvl m' m1 m2 m3 m4 m5 m6
        refine ⟨by omega, by omega, by omega, .inl ⟨m4, by omega, ?_⟩⟩
        rw [Int.toNat_natCast]; exact l
    · refine ⟨q0, by omega, by omega, ?_⟩
      rcases a3 with a3 | a3
      · left
        rcases r5 with r5 | ⟨m', m1, m2, m3, m4, m5, m6⟩
        · omega
        · have l := mvl m' m1 m2 m3 m4 m5 m6
          have a4 := a3.2.2
          rw [m2, Int.toNat_natCast] at a4
          refine ⟨a3.1, by omega, ?_⟩
          rw [Int.toNat_natCast]; omega
      · exact .inr ⟨a3.1, by omega⟩
  · intro q
    rcases q with q | ⟨q0, a1, a2, a3⟩
    · omega
    · rw [Int.toNat_natCast] at a3
      rcases r3 k hk uk q0 (by omega) (by omega) with w | w | w
      · exact .inl w
      · exfalso
        have b := B k hk uk q0 w
        rcases G.2 k m hk hm ne uk um with p | p | p
        · omega
        · omega
        · exact p.1 ⟨q0, by omega, by omega, by omega⟩
      · exact .inr ⟨q0, w⟩
theorem q_op_turn {M : q_MK} {n : Nat} {F low high mv i : Int} (G : q_good M n F) (R : q_reg M n F low high mv) (hl : low ≤ i) (B : q_bd M n low high mv i) {t : Nat} (ht : t < n) (c : q_cand M high mv i t) (kt : q_kd M t = 3) (cm : ∀ k, k < n → q_cand M high mv i k → q_hi M k < q_hi M t ∨ (q_hi M k = q_hi M t ∧ (q_kd M k ≠ 4 ∨ q_kd M t = 4))) {a b : Int} (hab : (a = q_lo M t ∧ b = q_mi M t - 1) ∨ (a = q_mi M t ∧ b = q_hi M t)) {k : Nat} (hk : k < n) (uk : q_us M k = 1) (ne : k ≠ t) : q_op M low high mv k ↔ q_op M a b mv k := by
  have vt := G.1 t ht c.1
  unfold q_val at vt
  have vt : 0 ≤ q_lo M t ∧ q_lo M t < q_mi M t ∧ q_mi M t ≤ q_hi M t ∧ q_hi M t < F ∧ q_gp M t = -1 := by omega
  have vk := G.1 k hk uk
  unfold q_val at vk
  have mvk := q_in_mv hl B ht c kt cm
  obtain ⟨r1, r2, r3, r4, r5⟩ := R
  unfold q_op
  constructor
  · intro q
    rcases q with q | ⟨q0, a1, a2, a3⟩
    · exact .inl q
    · exact .inr ⟨q0, by omega, by omega, by omega⟩
  · intro q
    rcases q with q | ⟨q0, a1, a2, a3⟩
    · exact .inl q
    · rcases r3 k hk uk q0 (by omega) (by omega) with w | w | w
      · exact .inl w
      · exfalso
        have bk := B k hk uk q0 w
        rcases G.2 k t hk ht ne uk c.1 with p | p | p
        · rcases a3 with a3 | a3
          · rcases r5 with r5 | ⟨m', m1, m2, m3, m4, m5, m6⟩
            · omega
            · have a4 := a3.2.2
              rw [m2, Int.toNat_natCast] at a4
              omega
          · omega
        · rcases p with p | p
          · exact mvk k hk uk p.1 w (by omega) ⟨by omega, by omega⟩
          · have ck := cm k hk ⟨uk, q0, w.1, by omega, w.2.2⟩
            omega
        · exact p.1 ⟨q0, by omega, by omega, by omega⟩
      · exact .inr ⟨q0, w⟩
theorem q_op_top {M : q_MK} {n : Nat} {F : Int} (G : q_good M n F) {k : Nat} (hk : k < n) (uk : q_us M k = 1) : ¬ q_op M 0 (F - 1) (-1) k := by
  intro q
  have v := G.1 k hk uk
  unfold q_val at v
  rcases q with q | ⟨q0, a1, a2, a3⟩
  · omega
  · omega
