abbrev q_MK := Nat → Nat → Int
abbrev q_kd (M : q_MK) (k : Nat) : Int := M 0 k
abbrev q_lo (M : q_MK) (k : Nat) : Int := M 1 k
abbrev q_hi (M : q_MK) (k : Nat) : Int := M 2 k
abbrev q_mi (M : q_MK) (k : Nat) : Int := M 3 k
abbrev q_gp (M : q_MK) (k : Nat) : Int := M 4 k
abbrev q_us (M : q_MK) (k : Nat) : Int := M 5 k
def q_val (M : q_MK) (F : Int) (k : Nat) : Prop :=
  ((q_kd M k = 0 ∨ q_kd M k = 2) ∧ 0 ≤ q_lo M k ∧ q_lo M k ≤ q_hi M k ∧ q_hi M k < F ∧ q_gp M k = -1)
  ∨ (q_kd M k = 1 ∧ 0 ≤ q_gp M k ∧ q_gp M k ≤ F)
  ∨ (q_kd M k = 3 ∧ 0 ≤ q_lo M k ∧ q_lo M k < q_mi M k ∧ q_mi M k ≤ q_hi M k ∧ q_hi M k < F ∧ q_gp M k = -1)
  ∨ (q_kd M k = 4 ∧ 0 ≤ q_lo M k ∧ q_lo M k ≤ q_hi M k ∧ q_hi M k < F ∧ 0 ≤ q_gp M k ∧ q_gp M k ≤ F ∧ (q_gp M k < q_lo M k ∨ q_hi M k + 1 < q_gp M k))
abbrev q_ins (M : q_MK) (k : Nat) (a b : Int) : Prop := (q_kd M k = 1 ∨ (a ≤ q_lo M k ∧ q_hi M k ≤ b)) ∧ (q_gp M k = -1 ∨ (a < q_gp M k ∧ q_gp M k ≤ b))
abbrev q_wi (M : q_MK) (k o : Nat) : Prop := (q_kd M o = 4 ∧ q_ins M k (q_lo M o) (q_hi M o)) ∨ (q_kd M o = 3 ∧ (q_ins M k (q_lo M o) (q_mi M o - 1) ∨ q_ins M k (q_mi M o) (q_hi M o)))
abbrev q_ov (M : q_MK) (k o : Nat) : Prop := q_kd M k ≠ 1 ∧ q_kd M o ≠ 1 ∧ q_lo M k ≤ q_hi M o ∧ q_lo M o ≤ q_hi M k
abbrev q_cut (M : q_MK) (k o : Nat) : Prop := q_gp M k ≠ -1 ∧ q_kd M o ≠ 1 ∧ q_lo M o < q_gp M k ∧ q_gp M k ≤ q_hi M o
abbrev q_nm (M : q_MK) (k o : Nat) : Prop := q_wi M k o ∨ q_wi M o k ∨ (¬ q_ov M k o ∧ ¬ q_cut M k o ∧ ¬ q_cut M o k)
def q_good (M : q_MK) (n : Nat) (F : Int) : Prop := (∀ k, k < n → q_us M k = 1 → q_val M F k) ∧ (∀ k o, k < n → o < n → k ≠ o → q_us M k = 1 → q_us M o = 1 → q_nm M k o)
abbrev q_anc (M : q_MK) (low high mv : Int) (k : Nat) : Prop := q_lo M k ≤ low ∧ high ≤ q_hi M k ∧ ((q_kd M k = 4 ∧ 0 ≤ mv ∧ q_hi M mv.toNat - q_lo M mv.toNat < q_hi M k - q_lo M k) ∨ (q_kd M k = 3 ∧ (high < q_mi M k ∨ q_mi M k ≤ low)))
abbrev q_in (M : q_MK) (low high mv : Int) (k : Nat) : Prop := (k : Int) ≠ mv ∧ low ≤ q_lo M k ∧ q_hi M k ≤ high
def q_mvk (M : q_MK) (n : Nat) (low high mv : Int) : Prop := mv = -1 ∨ ∃ m, m < n ∧ mv = (m : Int) ∧ q_us M m = 1 ∧ q_kd M m = 4 ∧ q_lo M m ≤ low ∧ high ≤ q_hi M m
def q_reg (M : q_MK) (n : Nat) (F low high mv : Int) : Prop :=
  0 ≤ low ∧ high < F
  ∧ (∀ k, k < n → q_us M k = 1 → q_kd M k ≠ 1 → q_lo M k ≤ high → low ≤ q_hi M k → (k : Int) = mv ∨ q_in M low high mv k ∨ q_anc M low high mv k)
  ∧ (∀ k, k < n → q_us M k = 1 → low < q_gp M k → q_gp M k ≤ high → q_kd M k = 1 ∨ (q_kd M k = 4 ∧ q_in M low high mv k))
  ∧ q_mvk M n low high mv
def q_bd (M : q_MK) (n : Nat) (low high mv i : Int) : Prop := ∀ k, k < n → q_us M k = 1 → q_kd M k ≠ 1 → q_in M low high mv k → ¬ (q_lo M k < i ∧ i ≤ q_hi M k)
abbrev q_cand (M : q_MK) (high mv i : Int) (k : Nat) : Prop := q_us M k = 1 ∧ q_kd M k ≠ 1 ∧ (k : Int) ≠ mv ∧ q_lo M k = i ∧ q_hi M k ≤ high
def q_om (M : q_MK) (high mv i : Int) : Nat → Int
  | 0 => -1
  | k + 1 => if q_cand M high mv i k ∧ (q_om M high mv i k = -1 ∨ q_hi M (q_om M high mv i k).toNat < q_hi M k ∨ (q_hi M (q_om M high mv i k).toNat = q_hi M k ∧ q_kd M k = 4)) then (k : Int) else q_om M high mv i k
theorem q_om_succ (M : q_MK) (high mv i : Int) (k : Nat) : q_om M high mv i (k + 1) = if q_cand M high mv i k ∧ (q_om M high mv i k = -1 ∨ q_hi M (q_om M high mv i k).toNat < q_hi M k ∨ (q_hi M (q_om M high mv i k).toNat = q_hi M k ∧ q_kd M k = 4)) then (k : Int) else q_om M high mv i k := rfl
theorem q_om_spec (M : q_MK) (high mv i : Int) : ∀ n : Nat, (q_om M high mv i n = -1 ∧ ∀ k, k < n → ¬ q_cand M high mv i k) ∨ (∃ m, m < n ∧ q_om M high mv i n = (m : Int) ∧ q_cand M high mv i m ∧ ∀ k, k < n → q_cand M high mv i k → q_hi M k < q_hi M m ∨ (q_hi M k = q_hi M m ∧ (q_kd M k ≠ 4 ∨ q_kd M m = 4))) := by
  intro n
  induction n with
  | zero => exact .inl ⟨rfl, fun k hk => absurd hk (Nat.not_lt_zero k)⟩
  | succ n ih =>
    rw [q_om_succ]
    by_cases h : q_cand M high mv i n ∧ (q_om M high mv i n = -1 ∨ q_hi M (q_om M high mv i n).toNat < q_hi M n ∨ (q_hi M (q_om M high mv i n).toNat = q_hi M n ∧ q_kd M n = 4))
    · simp only [if_pos h]
      refine .inr ⟨n, by omega, rfl, h.1, fun k hk hc => ?_⟩
      by_cases e : k = n
      · subst e; right; refine ⟨rfl, ?_⟩; omega
      · rcases ih with ⟨_, g⟩ | ⟨m, hm, e1, _, g⟩
        · exact absurd hc (g k (by omega))
        · have := g k (by omega) hc
          rw [e1] at h
          have h2 := h.2
          simp only [Int.toNat_natCast] at h2
          omega
    · simp only [if_neg h]
      rcases ih with ⟨e1, g⟩ | ⟨m, hm, e1, c1, g⟩
      · refine .inl ⟨e1, fun k hk hc => ?_⟩
        by_cases e : k = n
        · subst e; exact h ⟨hc, .inl e1⟩
        · exact g k (by omega) hc
      · refine .inr ⟨m, by omega, e1, c1, fun k hk hc => ?_⟩
        by_cases e : k = n
        · subst e
          rw [e1] at h
          simp only [Int.toNat_natCast] at h
          have : ¬ ((m : Int) = -1 ∨ q_hi M m < q_hi M k ∨ (q_hi M m = q_hi M k ∧ q_kd M k = 4)) := fun q => h ⟨hc, q⟩
          omega
        · exact g k (by omega) hc
theorem q_reg_top {M : q_MK} {n : Nat} {F : Int} (G : q_good M n F) : q_reg M n F 0 (F - 1) (-1) := by
  refine ⟨by omega, by omega, fun k hk hu hr _ _ => ?_, fun k hk hu h1 h2 => ?_, .inl rfl⟩
  · have v := G.1 k hk hu
    unfold q_val at v
    right; left
    refine ⟨by omega, ?_, ?_⟩ <;> omega
  · have v := G.1 k hk hu
    unfold q_val at v
    rcases v with v | v | v | v
    · omega
    · exact .inl v.1
    · omega
    · exact .inr ⟨v.1, by omega, by omega, by omega⟩
theorem q_reg_move {M : q_MK} {n : Nat} {F : Int} (G : q_good M n F) {m : Nat} (hm : m < n) (um : q_us M m = 1) (km : q_kd M m = 4) : q_reg M n F (q_lo M m) (q_hi M m) (m : Int) := by
  have vm := G.1 m hm um
  unfold q_val at vm
  have vm : 0 ≤ q_lo M m ∧ q_lo M m ≤ q_hi M m ∧ q_hi M m < F ∧ 0 ≤ q_gp M m ∧ q_gp M m ≤ F ∧ (q_gp M m < q_lo M m ∨ q_hi M m + 1 < q_gp M m) := by omega
  refine ⟨vm.1, vm.2.2.1, fun k hk hu hr h1 h2 => ?_, fun k hk hu h1 h2 => ?_, .inr ⟨m, hm, rfl, um, km, Int.le_refl _, Int.le_refl _⟩⟩
  · by_cases e : k = m
    · left; omega
    right
    have v := G.1 k hk hu
    unfold q_val at v
    simp only [q_anc, Int.toNat_natCast]
    rcases G.2 k m hk hm e hu um with p | p | p
    · left; refine ⟨by omega, ?_, ?_⟩ <;> omega
    · right; refine ⟨by omega, by omega, ?_⟩; omega
    · exfalso; exact p.1 ⟨hr, by omega, by omega, by omega⟩
  · have v := G.1 k hk hu
    unfold q_val at v
    by_cases e : k = m
    · subst e; omega
    rcases G.2 k m hk hm e hu um with p | p | p
    · omega
    · omega
    · omega
theorem q_reg_turn {M : q_MK} {n : Nat} {F low high mv : Int} (G : q_good M n F) (R : q_reg M n F low high mv) {t : Nat} (ht : t < n) (ut : q_us M t = 1) (kt : q_kd M t = 3) (it : q_in M low high mv t)
    (hmv : ∀ k, k < n → q_us M k = 1 → q_kd M k = 4 → q_in M low high mv k → ¬ (q_lo M k ≤ q_lo M t ∧ q_hi M t ≤ q_hi M k)) {a b : Int} (hab : (a = q_lo M t ∧ b = q_mi M t - 1) ∨ (a = q_mi M t ∧ b = q_hi M t)) : q_reg M n F a b mv := by
  have vt := G.1 t ht ut
  unfold q_val at vt
  have vt : 0 ≤ q_lo M t ∧ q_lo M t < q_mi M t ∧ q_mi M t ≤ q_hi M t ∧ q_hi M t < F ∧ q_gp M t = -1 := by omega
  obtain ⟨r1, r2, r3, r4, r5⟩ := R
  refine ⟨by omega, by omega, fun k hk hu hr h1 h2 => ?_, fun k hk hu h1 h2 => ?_, ?_⟩
  · by_cases e : k = t
    · subst e; right; right; refine ⟨by omega, by omega, .inr ⟨kt, by omega⟩⟩
    by_cases e2 : (k : Int) = mv
    · exact .inl e2
    right
    have v := G.1 k hk hu
    unfold q_val at v
    rcases G.2 k t hk ht e hu ut with p | p | p
    · left; refine ⟨e2, ?_, ?_⟩ <;> omega
    · right
      have q := r3 k hk hu hr (by omega) (by omega)
      have w : q_kd M k = 4 → 0 ≤ mv ∧ q_hi M mv.toNat - q_lo M mv.toNat < q_hi M k - q_lo M k := by
        intro k4
        rcases q with q | q | q
        · exact absurd q e2
        · exfalso; exact hmv k hk hu k4 q (by omega)
        · omega
      refine ⟨by omega, by omega, ?_⟩
      rcases p with p | p
      · exact .inl ⟨p.1, w p.1⟩
      · exact .inr ⟨p.1, by omega⟩
    · exfalso; exact p.1 ⟨hr, by omega, by omega, by omega⟩
  · have q := r4 k hk hu (by omega) (by omega)
    have v := G.1 k hk hu
    unfold q_val at v
    by_cases e : k = t
    · subst e; omega
    rcases q with q | q
    · exact .inl q
    · right
      refine ⟨q.1, q.2.1, ?_⟩
      rcases G.2 k t hk ht e hu ut with p | p | p
      · omega
      · omega
      · omega
  · rcases r5 with r5 | ⟨m, m1, m2, m3, m4, m5, m6⟩
    · exact .inl r5
    · exact .inr ⟨m, m1, m2, m3, m4, by omega, by omega⟩
theorem q_bd_low {M : q_MK} {n : Nat} {low high mv : Int} : q_bd M n low high mv low := fun k _ _ _ h q => by omega
theorem q_bd_word {M : q_MK} {n : Nat} {low high mv i : Int} (B : q_bd M n low high mv i) (h0 : q_om M high mv i n = -1) : q_bd M n low high mv (i + 1) := by
  intro k hk hu hr hi q
  rcases q_om_spec M high mv i n with ⟨_, g⟩ | ⟨m, _, e, _⟩
  · have := B k hk hu hr hi
    by_cases e : q_lo M k = i
    · exact g k hk ⟨hu, hr, hi.1, e, hi.2.2⟩
    · omega
  · omega
theorem q_bd_next {M : q_MK} {n : Nat} {F low high mv i : Int} (G : q_good M n F) (B : q_bd M n low high mv i) (hl : low ≤ i) {m : Nat} (hm : m < n) (c : q_cand M high mv i m) (g : ∀ k, k < n → q_cand M high mv i k → q_hi M k < q_hi M m ∨ (q_hi M k = q_hi M m ∧ (q_kd M k ≠ 4 ∨ q_kd M m = 4))) : q_bd M n low high mv (q_hi M m + 1) := by
  intro k hk hu hr hi q
  have vm := G.1 m hm c.1
  unfold q_val at vm
  have v := G.1 k hk hu
  unfold q_val at v
  have := B k hk hu hr hi
  have e : k ≠ m := by intro e; subst e; omega
  by_cases e2 : q_lo M k = i
  · have := g k hk ⟨hu, hr, hi.1, e2, hi.2.2⟩
    omega
  · rcases G.2 k m hk hm e hu c.1 with p | p | p
    · omega
    · omega
    · exact p.1 ⟨hr, c.2.1, by omega, by omega⟩
