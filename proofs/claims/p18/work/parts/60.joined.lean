abbrev q_MK := Nat → Nat → Int
abbrev q_kd (M : q_MK) (k : Nat) : Int := M 0 k
abbrev q_lo (M : q_MK) (k : Nat) : Int := M 1 k
abbrev q_hi (M : q_MK) (k : Nat) : Int := M 2 k
abbrev q_mi (M : q_MK) (k : Nat) : Int := M 3 k
abbrev q_gp (M : q_MK) (k : Nat) : Int := M 4 k
abbrev q_us (M : q_MK) (k : Nat) : Int := M 5 k
def q_val (M : q_MK) (F : Int) (k : Nat) : Prop :=
  ((q_kd M k = 0 ∨ q_kd M k = 2) ∧ 0 ≤ q_lo M k ∧ q_lo M k ≤ q_hi M k ∧ q_hi M k < F ∧ q_gp M k = -1)
  ∨ (q_kd M k = 1 ∧ 0 ≤ q_gp M k ∧ q_gp M k ≤ F)
  ∨ (q_kd M k = 3 ∧ 0 ≤ q_lo M k ∧ q_lo M k < q_mi M k ∧ q_mi M k ≤ q_hi M k ∧ q_hi M k < F ∧ q_gp M k = -1)
  ∨ (q_kd M k = 4 ∧ 0 ≤ q_lo M k ∧ q_lo M k ≤ q_hi M k ∧ q_hi M k < F ∧ 0 ≤ q_gp M k ∧ q_gp M k ≤ F ∧ (q_gp M k < q_lo M k ∨ q_hi M k + 1 < q_gp M k))
abbrev q_ins (M : q_MK) (k : Nat) (a b : Int) : Prop := (q_kd M k = 1 ∨ (a ≤ q_lo M k ∧ q_hi M k ≤ b)) ∧ (q_gp M k = -1 ∨ (a < q_gp M k ∧ q_gp M k ≤ b))
abbrev q_wi (M : q_MK) (k o : Nat) : Prop := (q_kd M o = 4 ∧ q_ins M k (q_lo M o) (q_hi M o)) ∨ (q_kd M o = 3 ∧ (q_ins M k (q_lo M o) (q_mi M o - 1) ∨ q_ins M k (q_mi M o) (q_hi M o)))
abbrev q_ov (M : q_MK) (k o : Nat) : Prop := q_kd M k ≠ 1 ∧ q_kd M o ≠ 1 ∧ q_lo M k ≤ q_hi M o ∧ q_lo M o ≤ q_hi M k
abbrev q_cut (M : q_MK) (k o : Nat) : Prop := q_gp M k ≠ -1 ∧ q_kd M o ≠ 1 ∧ q_lo M o < q_gp M k ∧ q_gp M k ≤ q_hi M o
abbrev q_nm (M : q_MK) (k o : Nat) : Prop := q_wi M k o ∨ q_wi M o k ∨ (¬ q_ov M k o ∧ ¬ q_cut M k o ∧ ¬ q_cut M o k)
def q_good (M : q_MK) (n : Nat) (F : Int) : Prop := (∀ k, k < n → q_us M k = 1 → q_val M F k) ∧ (∀ k o, k < n → o < n → k ≠ o → q_us M k = 1 → q_us M o = 1 → q_nm M k o)
abbrev q_anc (M : q_MK) (low high mv : Int) (k : Nat) : Prop := q_lo M k ≤ low ∧ high ≤ q_hi M k ∧ ((q_kd M k = 4 ∧ 0 ≤ mv ∧ q_hi M mv.toNat - q_lo M mv.toNat < q_hi M k - q_lo M k) ∨ (q_kd M k = 3 ∧ (high < q_mi M k ∨ q_mi M k ≤ low)))
abbrev q_in (M : q_MK) (low high mv : Int) (k : Nat) : Prop := (k : Int) ≠ mv ∧ low ≤ q_lo M k ∧ q_hi M k ≤ high
def q_mvk (M : q_MK) (n : Nat) (low high mv : Int) : Prop := mv = -1 ∨ ∃ m, m < n ∧ mv = (m : Int) ∧ q_us M m = 1 ∧ q_kd M m = 4 ∧ q_lo M m ≤ low ∧ high ≤ q_hi M m
def q_reg (M : q_MK) (n : Nat) (F low high mv : Int) : Prop :=
  0 ≤ low ∧ high < F
  ∧ (∀ k, k < n → q_us M k = 1 → q_kd M k ≠ 1 → q_lo M k ≤ high → low ≤ q_hi M k → (k : Int) = mv ∨ q_in M low high mv k ∨ q_anc M low high mv k)
  ∧ (∀ k, k < n → q_us M k = 1 → low < q_gp M k → q_gp M k ≤ high → q_kd M k = 1 ∨ (q_kd M k = 4 ∧ q_in M low high mv k))
  ∧ q_mvk M n low high mv
def q_bd (M : q_MK) (n : Nat) (low high mv i : Int) : Prop := ∀ k, k < n → q_us M k = 1 → q_kd M k ≠ 1 → q_in M low high mv k → ¬ (q_lo M k < i ∧ i ≤ q_hi M k)
abbrev q_cand (M : q_MK) (high mv i : Int) (k : Nat) : Prop := q_us M k = 1 ∧ q_kd M k ≠ 1 ∧ (k : Int) ≠ mv ∧ q_lo M k = i ∧ q_hi M k ≤ high
def q_om (M : q_MK) (high mv i : Int) : Nat → Int
  | 0 => -1
  | k + 1 => if q_cand M high mv i k ∧ (q_om M high mv i k = -1 ∨ q_hi M (q_om M high mv i k).toNat < q_hi M k ∨ (q_hi M (q_om M high mv i k).toNat = q_hi M k ∧ q_kd M k = 4)) then (k : Int) else q_om M high mv i k
theorem q_om_succ (M : q_MK) (high mv i : Int) (k : Nat) : q_om M high mv i (k + 1) = if q_cand M high mv i k ∧ (q_om M high mv i k = -1 ∨ q_hi M (q_om M high mv i k).toNat < q_hi M k ∨ (q_hi M (q_om M high mv i k).toNat = q_hi M k ∧ q_kd M k = 4)) then (k : Int) else q_om M high mv i k := rfl
theorem q_om_spec (M : q_MK) (high mv i : Int) : ∀ n : Nat, (q_om M high mv i n = -1 ∧ ∀ k, k < n → ¬ q_cand M high mv i k) ∨ (∃ m, m < n ∧ q_om M high mv i n = (m : Int) ∧ q_cand M high mv i m ∧ ∀ k, k < n → q_cand M high mv i k → q_hi M k < q_hi M m ∨ (q_hi M k = q_hi M m ∧ (q_kd M k ≠ 4 ∨ q_kd M m = 4))) := by
  intro n
  induction n with
  | zero => exact .inl ⟨rfl, fun k hk => absurd hk (Nat.not_lt_zero k)⟩
  | succ n ih =>
    rw [q_om_succ]
    by_cases h : q_cand M high mv i n ∧ (q_om M high mv i n = -1 ∨ q_hi M (q_om M high mv i n).toNat < q_hi M n ∨ (q_hi M (q_om M high mv i n).toNat = q_hi M n ∧ q_kd M n = 4))
    · simp only [if_pos h]
      refine .inr ⟨n, by omega, rfl, h.1, fun k hk hc => ?_⟩
      by_cases e : k = n
      · subst e; right; refine ⟨rfl, ?_⟩; omega
      · rcases ih with ⟨_, g⟩ | ⟨m, hm, e1, _, g⟩
        · exact absurd hc (g k (by omega))
        · have := g k (by omega) hc
          rw [e1] at h
          have h2 := h.2
          simp only [Int.toNat_natCast] at h2
          omega
    · simp only [if_neg h]
      rcases ih with ⟨e1, g⟩ | ⟨m, hm, e1, c1, g⟩
      · refine .inl ⟨e1, fun k hk hc => ?_⟩
        by_cases e : k = n
        · subst e; exact h ⟨hc, .inl e1⟩
        · exact g k (by omega) hc
      · refine .inr ⟨m, by omega, e1, c1, fun k hk hc => ?_⟩
        by_cases e : k = n
        · subst e
          rw [e1] at h
          simp only [Int.toNat_natCast] at h
          have : ¬ ((m : Int) = -1 ∨ q_hi M m < q_hi M k ∨ (q_hi M m = q_hi M k ∧ q_kd M k = 4)) := fun q => h ⟨hc, q⟩
          omega
        · exact g k (by omega) hc
theorem q_reg_top {M : q_MK} {n : Nat} {F : Int} (G : q_good M n F) : q_reg M n F 0 (F - 1) (-1) := by
  refine ⟨by omega, by omega, fun k hk hu hr _ _ => ?_, fun k hk hu h1 h2 => ?_, .inl rfl⟩
  · have v := G.1 k hk hu
    unfold q_val at v
    right; left
    refine ⟨by omega, ?_, ?_⟩ <;> omega
  · have v := G.1 k hk hu
    unfold q_val at v
    rcases v with v | v | v | v
    · omega
    · exact .inl v.1
    · omega
    · exact .inr ⟨v.1, by omega, by omega, by omega⟩
theorem q_reg_move {M : q_MK} {n : Nat} {F : Int} (G : q_good M n F) {m : Nat} (hm : m < n) (um : q_us M m = 1) (km : q_kd M m = 4) : q_reg M n F (q_lo M m) (q_hi M m) (m : Int) := by
  have vm := G.1 m hm um
  unfold q_val at vm
  have vm : 0 ≤ q_lo M m ∧ q_lo M m ≤ q_hi M m ∧ q_hi M m < F ∧ 0 ≤ q_gp M m ∧ q_gp M m ≤ F ∧ (q_gp M m < q_lo M m ∨ q_hi M m + 1 < q_gp M m) := by omega
  refine ⟨vm.1, vm.2.2.1, fun k hk hu hr h1 h2 => ?_, fun k hk hu h1 h2 => ?_, .inr ⟨m, hm, rfl, um, km, Int.le_refl _, Int.le_refl _⟩⟩
  · by_cases e : k = m
    · left; omega
    right
    have v := G.1 k hk hu
    unfold q_val at v
    simp only [q_anc, Int.toNat_natCast]
    rcases G.2 k m hk hm e hu um with p | p | p
    · left; refine ⟨by omega, ?_, ?_⟩ <;> omega
    · right; refine ⟨by omega, by omega, ?_⟩; omega
    · exfalso; exact p.1 ⟨hr, by omega, by omega, by omega⟩
  · have v := G.1 k hk hu
    unfold q_val at v
    by_cases e : k = m
    · subst e; omega
    rcases G.2 k m hk hm e hu um with p | p | p
    · omega
    · omega
    · omega
theorem q_reg_turn {M : q_MK} {n : Nat} {F low high mv : Int} (G : q_good M n F) (R : q_reg M n F low high mv) {t : Nat} (ht : t < n) (ut : q_us M t = 1) (kt : q_kd M t = 3) (it : q_in M low high mv t)
    (hmv : ∀ k, k < n → q_us M k = 1 → q_kd M k = 4 → q_in M low high mv k → ¬ (q_lo M k ≤ q_lo M t ∧ q_hi M t ≤ q_hi M k)) {a b : Int} (hab : (a = q_lo M t ∧ b = q_mi M t - 1) ∨ (a = q_mi M t ∧ b = q_hi M t)) : q_reg M n F a b mv := by
  have vt := G.1 t ht ut
  unfold q_val at vt
  have vt : 0 ≤ q_lo M t ∧ q_lo M t < q_mi M t ∧ q_mi M t ≤ q_hi M t ∧ q_hi M t < F ∧ q_gp M t = -1 := by omega
  obtain ⟨r1, r2, r3, r4, r5⟩ := R
  refine ⟨by omega, by omega, fun k hk hu hr h1 h2 => ?_, fun k hk hu h1 h2 => ?_, ?_⟩
  · by_cases e : k = t
    · subst e; right; right; refine ⟨by omega, by omega, .inr ⟨kt, by omega⟩⟩
    by_cases e2 : (k : Int) = mv
    · exact .inl e2
    right
    have v := G.1 k hk hu
    unfold q_val at v
    rcases G.2 k t hk ht e hu ut with p | p | p
    · left; refine ⟨e2, ?_, ?_⟩ <;> omega
    · right
      have q := r3 k hk hu hr (by omega) (by omega)
      have w : q_kd M k = 4 → 0 ≤ mv ∧ q_hi M mv.toNat - q_lo M mv.toNat < q_hi M k - q_lo M k := by
        intro k4
        rcases q with q | q | q
        · exact absurd q e2
        · exfalso; exact hmv k hk hu k4 q (by omega)
        · omega
      refine ⟨by omega, by omega, ?_⟩
      rcases p with p | p
      · exact .inl ⟨p.1, w p.1⟩
      · exact .inr ⟨p.1, by omega⟩
    · exfalso; exact p.1 ⟨hr, by omega, by omega, by omega⟩
  · have q := r4 k hk hu (by omega) (by omega)
    have v := G.1 k hk hu
    unfold q_val at v
    by_cases e : k = t
    · subst e; omega
    rcases q with q | q
    · exact .inl q
    · right
      refine ⟨q.1, q.2.1, ?_⟩
      rcases G.2 k t hk ht e hu ut with p | p | p
      · omega
      · omega
      · omega
  · rcases r5 with r5 | ⟨m, m1, m2, m3, m4, m5, m6⟩
    · exact .inl r5
    · exact .inr ⟨m, m1, m2, m3, m4, by omega, by omega⟩
theorem q_bd_low {M : q_MK} {n : Nat} {low high mv : Int} : q_bd M n low high mv low := fun k _ _ _ h q => by omega
theorem q_bd_word {M : q_MK} {n : Nat} {low high mv i : Int} (B : q_bd M n low high mv i) (h0 : q_om M high mv i n = -1) : q_bd M n low high mv (i + 1) := by
  intro k hk hu hr hi q
  rcases q_om_spec M high mv i n with ⟨_, g⟩ | ⟨m, _, e, _⟩
  · have := B k hk hu hr hi
    by_cases e : q_lo M k = i
    · exact g k hk ⟨hu, hr, hi.1, e, hi.2.2⟩
    · omega
  · omega
theorem q_bd_next {M : q_MK} {n : Nat} {F low high mv i : Int} (G : q_good M n F) (B : q_bd M n low high mv i) (hl : low ≤ i) {m : Nat} (hm : m < n) (c : q_cand M high mv i m) (g : ∀ k, k < n → q_cand M high mv i k → q_hi M k < q_hi M m ∨ (q_hi M k = q_hi M m ∧ (q_kd M k ≠ 4 ∨ q_kd M m = 4))) : q_bd M n low high mv (q_hi M m + 1) := by
  intro k hk hu hr hi q
  have vm := G.1 m hm c.1
  unfold q_val at vm
  have v := G.1 k hk hu
  unfold q_val at v
  have := B k hk hu hr hi
  have e : k ≠ m := by intro e; subst e; omega
  by_cases e2 : q_lo M k = i
  · have := g k hk ⟨hu, hr, hi.1, e2, hi.2.2⟩
    omega
  · rcases G.2 k m hk hm e hu c.1 with p | p | p
    · omega
    · omega
    · exact p.1 ⟨hr, c.2.1, by omega, by omega⟩
def q_gap (M : q_MK) (rk : Int → Int → Int → List Nat) (g : Int) : Nat → Nat → List Nat
  | 0, _ => []
  | c + 1, k => (if q_us M k = 1 ∧ q_gp M k = g then (if q_kd M k = 1 then [60 + k] else rk (q_lo M k) (q_hi M k) (k : Int)) else []) ++ q_gap M rk g c (k + 1)
def q_pc (M : q_MK) (rk : Int → Int → Int → List Nat) (mv : Int) (k : Nat) : List Nat :=
  if q_kd M k = 2 then [60 + k] else if q_kd M k = 3 then rk (q_mi M k) (q_hi M k) mv ++ rk (q_lo M k) (q_mi M k - 1) mv else []
def q_loop (M : q_MK) (n : Nat) (rk : Int → Int → Int → List Nat) (low high mv : Int) : Nat → Int → List Nat
  | 0, _ => []
  | c + 1, i => if high < i then [] else (if low < i then q_gap M rk i n 0 else []) ++ (if q_om M high mv i n = -1 then [i.toNat] ++ q_loop M n rk low high mv c (i + 1) else q_pc M rk mv (q_om M high mv i n).toNat ++ q_loop M n rk low high mv c (q_hi M (q_om M high mv i n).toNat + 1))
def q_row (M : q_MK) (n : Nat) : Nat → Int → Int → Int → List Nat
  | 0 => fun _ _ _ => []
  | d + 1 => fun low high mv => q_loop M n (q_row M n d) low high mv 100 low
def q_all (M : q_MK) (n : Nat) (F : Int) : List Nat := q_gap M (q_row M n 43) 0 n 0 ++ (if F = 0 then [] else q_row M n 43 0 (F - 1) (-1) ++ q_gap M (q_row M n 43) F n 0)
def q_bel (M : q_MK) (n : Nat) (a b : Int) (t : Nat) : Prop := (t < 60 ∧ a ≤ (t : Int) ∧ (t : Int) ≤ b) ∨ (∃ k, t = 60 + k ∧ k < n ∧ q_us M k = 1 ∧ ((q_kd M k = 1 ∧ a < q_gp M k ∧ q_gp M k ≤ b) ∨ (q_kd M k = 2 ∧ a ≤ q_lo M k ∧ q_hi M k ≤ b)))
theorem q_bel_mono {M : q_MK} {n : Nat} {a b a' b' : Int} {t : Nat} (h : q_bel M n a b t) (h1 : a' ≤ a) (h2 : b ≤ b') : q_bel M n a' b' t := by
  rcases h with h | ⟨k, e, hk, hu, h⟩
  · exact .inl ⟨h.1, by omega, by omega⟩
  · exact .inr ⟨k, e, hk, hu, by omega⟩
theorem q_bel_meet {M : q_MK} {n : Nat} {F a b a' b' : Int} {t : Nat} (G : q_good M n F) (h : q_bel M n a b t) (h' : q_bel M n a' b' t) : a ≤ b' ∧ a' ≤ b := by
  rcases h with h | ⟨k, e, hk, hu, h⟩
  · rcases h' with h' | ⟨k', e', _⟩
    · omega
    · omega
  · rcases h' with h' | ⟨k', e', hk', hu', h'⟩
    · omega
    · have q : k' = k := by omega
      subst q
      have v := G.1 _ hk hu
      unfold q_val at v
      omega
def q_sG (M : q_MK) (n : Nat) (low high mv g : Int) (k t : Nat) : Prop := q_bd M n low high mv g ∧ k < n ∧ q_us M k = 1 ∧ q_gp M k = g ∧ ((q_kd M k = 1 ∧ t = 60 + k) ∨ (q_kd M k = 4 ∧ q_in M low high mv k ∧ q_bel M n (q_lo M k) (q_hi M k) t))
def q_sP (M : q_MK) (n : Nat) (low high mv j : Int) (t : Nat) : Prop := q_bd M n low high mv j ∧ low ≤ j ∧ j ≤ high ∧ ((q_om M high mv j n = -1 ∧ t = j.toNat) ∨ ∃ m, m < n ∧ q_om M high mv j n = (m : Int) ∧ ((q_kd M m = 2 ∧ t = 60 + m) ∨ (q_kd M m = 3 ∧ q_bel M n (q_lo M m) (q_hi M m) t)))
theorem q_dGG {M : q_MK} {n : Nat} {F low high mv g g' : Int} {k k' t : Nat} (G : q_good M n F) (h : q_sG M n low high mv g k t) (h' : q_sG M n low high mv g' k' t) (ne : k ≠ k') : False := by
  obtain ⟨B, hk, hu, hg, h⟩ := h
  obtain ⟨B', hk', hu', hg', h'⟩ := h'
  have v := G.1 k hk hu
  have v' := G.1 k' hk' hu'
  rcases h with h | h
  · rcases h' with h' | h'
    · omega
    · have := B k' hk' hu' (by omega) h'.2.1
      rcases h'.2.2 with c | ⟨p, e, _, _, c⟩
      · omega
      · have q : p = k := by omega
        subst q; omega
  · rcases h' with h' | h'
    · have := B' k hk hu (by omega) h.2.1
      rcases h.2.2 with c | ⟨p, e, _, _, c⟩
      · omega
      · have q : p = k' := by omega
        subst q; omega
    · have o := q_bel_meet G h.2.2 h'.2.2
      have b1 := B k' hk' hu' (by omega) h'.2.1
      have b2 := B' k hk hu (by omega) h.2.1
      unfold q_val at v v'
      rcases G.2 k k' hk hk' ne hu hu' with p | p | p
      · omega
      · omega
      · exact p.1 ⟨by omega, by omega, by omega, by omega⟩
theorem q_dGP {M : q_MK} {n : Nat} {F low high mv g j : Int} {k t : Nat} (G : q_good M n F) (hF : F ≤ 60) (hh : high < F) (hl : 0 ≤ low) (h : q_sG M n low high mv g k t) (h' : q_sP M n low high mv j t) : False := by
  obtain ⟨B, hk, hu, hg, h⟩ := h
  obtain ⟨B', j1, j2, h'⟩ := h'
  have v := G.1 k hk hu
  unfold q_val at v
  have sp := q_om_spec M high mv j n
  rcases h' with h' | ⟨m, hm, e, h'⟩
  · rcases sp with ⟨e1, c⟩ | ⟨m', hm', e1, _⟩
    · rcases h with h | h
      · omega
      · have b := B' k hk hu (by omega) h.2.1
        rcases h.2.2 with d | ⟨p, e, _⟩
        · exact c k hk ⟨hu, by omega, h.2.1.1, by omega, h.2.1.2.2⟩
        · omega
    · omega
  · rcases sp with ⟨e1, _⟩ | ⟨m', hm', e1, c, cm⟩
    · omega
    have q : m' = m := by omega
    subst q
    have im : q_in M low high mv m' := ⟨c.2.2.1, by omega, c.2.2.2.2⟩
    have bm := B m' hm c.1 c.2.1 im
    have vm := G.1 m' hm c.1
    unfold q_val at vm
    rcases h with h | h
    · rcases h' with h' | h'
      · have q : m' = k := by omega
        subst q; omega
      · rcases h'.2 with d | ⟨p, e, _, _, d⟩
        · omega
        · have q : p = k := by omega
          subst q; omega
    · have bk := B' k hk hu (by omega) h.2.1
      have ck : q_lo M k = j → q_hi M k < q_hi M m' ∨ (q_hi M k = q_hi M m' ∧ (q_kd M k ≠ 4 ∨ q_kd M m' = 4)) := fun q => cm k hk ⟨hu, by omega, h.2.1.1, q, h.2.1.2.2⟩
      rcases h' with h' | h'
      · rcases h.2.2 with d | ⟨p, e, _, _, d⟩
        · omega
        · have q : p = m' := by omega
          subst q; omega
      · have o := q_bel_meet G h.2.2 h'.2
        have ne : k ≠ m' := by intro q; subst q; omega
        rcases G.2 k m' hk hm ne hu c.1 with p | p | p
        · omega
        · omega
        · exact p.1 ⟨by omega, by omega, by omega, by omega⟩
theorem q_sP_bel {M : q_MK} {n : Nat} {F low high mv j : Int} {t : Nat} (G : q_good M n F) (hF : F ≤ 60) (hh : high < F) (hl : 0 ≤ low) (h : q_sP M n low high mv j t) : q_bel M n j (if q_om M high mv j n = -1 then j else q_hi M (q_om M high mv j n).toNat) t := by
  obtain ⟨B', j1, j2, h'⟩ := h
  have sp := q_om_spec M high mv j n
  rcases h' with h' | ⟨m, hm, e, h'⟩
  · rw [if_pos h'.1, h'.2]
    exact .inl ⟨by omega, by omega, by omega⟩
  · rcases sp with ⟨e1, _⟩ | ⟨m', hm', e1, c, cm⟩
    · omega
    have q : m' = m := by omega
    subst q
    rw [if_neg (by omega), e1, Int.toNat_natCast]
    rcases h' with h' | h'
    · exact .inr ⟨m', h'.2, hm', c.1, .inr ⟨h'.1, by omega, by omega⟩⟩
    · exact q_bel_mono h'.2 (by omega) (by omega)
theorem q_dBB {M : q_MK} {n : Nat} {F a b a' b' : Int} {t : Nat} (G : q_good M n F) (h : q_bel M n a b t) (h' : q_bel M n a' b' t) (hb : b < a') : False := by
  have := q_bel_meet G h h'; omega
theorem q_gap_mem {M : q_MK} {rk : Int → Int → Int → List Nat} {g : Int} : ∀ (c k t : Nat), t ∈ q_gap M rk g c k → ∃ j, k ≤ j ∧ j < k + c ∧ q_us M j = 1 ∧ q_gp M j = g ∧ ((q_kd M j = 1 ∧ t = 60 + j) ∨ (q_kd M j ≠ 1 ∧ t ∈ rk (q_lo M j) (q_hi M j) (j : Int))) := by
  intro c
  induction c with
  | zero => intro k t h; exact absurd h (by simp [q_gap])
  | succ c ih =>
    intro k t h
    rw [q_gap, List.mem_append] at h
    rcases h with h | h
    · by_cases e : q_us M k = 1 ∧ q_gp M k = g
      · rw [if_pos e] at h
        refine ⟨k, by omega, by omega, e.1, e.2, ?_⟩
        by_cases e2 : q_kd M k = 1
        · rw [if_pos e2] at h; exact .inl ⟨e2, by simpa using h⟩
        · rw [if_neg e2] at h; exact .inr ⟨e2, h⟩
      · rw [if_neg e] at h; simp at h
    · obtain ⟨j, j1, j2, j3⟩ := ih (k + 1) t h
      exact ⟨j, by omega, by omega, j3⟩
abbrev q_RK (M : q_MK) (n : Nat) (F : Int) (rk : Int → Int → Int → List Nat) : Prop := ∀ low high mv, q_reg M n F low high mv → (rk low high mv).Nodup ∧ ∀ t, t ∈ rk low high mv → q_bel M n low high t
theorem q_gap_src {M : q_MK} {n : Nat} {F low high mv g : Int} {rk : Int → Int → Int → List Nat} (G : q_good M n F) (K : q_RK M n F rk) (B : q_bd M n low high mv g) (hin : ∀ k, k < n → q_us M k = 1 → q_gp M k = g → q_kd M k = 1 ∨ (q_kd M k = 4 ∧ q_in M low high mv k)) {c k t : Nat} (hc : k + c ≤ n) (h : t ∈ q_gap M rk g c k) : ∃ j, k ≤ j ∧ q_sG M n low high mv g j t := by
  obtain ⟨j, j1, j2, hu, hg, h⟩ := q_gap_mem c k t h
  refine ⟨j, j1, B, by omega, hu, hg, ?_⟩
  rcases h with h | h
  · exact .inl h
  · rcases hin j (by omega) hu hg with q | q
    · exact absurd q h.1
    · exact .inr ⟨q.1, q.2, (K _ _ _ (q_reg_move G (by omega) hu q.1)).2 t h.2⟩
theorem q_gap_nodup {M : q_MK} {n : Nat} {F low high mv g : Int} {rk : Int → Int → Int → List Nat} (G : q_good M n F) (K : q_RK M n F rk) (B : q_bd M n low high mv g) (hin : ∀ k, k < n → q_us M k = 1 → q_gp M k = g → q_kd M k = 1 ∨ (q_kd M k = 4 ∧ q_in M low high mv k)) : ∀ (c k : Nat), k + c ≤ n → (q_gap M rk g c k).Nodup := by
  intro c
  induction c with
  | zero => intro k _; simp [q_gap]
  | succ c ih =>
    intro k hc
    rw [q_gap, List.nodup_append]
    refine ⟨?_, ih (k + 1) (by omega), fun a ha b hb e => ?_⟩
    · by_cases e : q_us M k = 1 ∧ q_gp M k = g
      · rw [if_pos e]
        by_cases e2 : q_kd M k = 1
        · rw [if_pos e2]; simp
        · rw [if_neg e2]
          rcases hin k (by omega) e.1 e.2 with q | q
          · exact absurd q e2
          · exact (K _ _ _ (q_reg_move G (by omega) e.1 q.1)).1
      · rw [if_neg e]; simp
    · subst e
      obtain ⟨j, j1, sj⟩ := q_gap_src G K B hin (c := c) (k := k + 1) (by omega) hb
      have ha' : a ∈ q_gap M rk g 1 k := by
        rw [q_gap, q_gap, List.append_nil]; exact ha
      obtain ⟨j', j1', j2', hu', hg', h'⟩ := q_gap_mem 1 k a ha'
      have q : j' = k := by omega
      subst q
      have s' : q_sG M n low high mv g j' a := by
        refine ⟨B, by omega, hu', hg', ?_⟩
        rcases h' with h' | h'
        · exact .inl h'
        · rcases hin j' (by omega) hu' hg' with q | q
          · exact absurd q h'.1
          · exact .inr ⟨q.1, q.2, (K _ _ _ (q_reg_move G (by omega) hu' q.1)).2 _ h'.2⟩
      exact q_dGG G s' sj (by omega)
theorem q_in_mv {M : q_MK} {n : Nat} {low high mv i : Int} (hl : low ≤ i) (B : q_bd M n low high mv i) {m : Nat} (hm : m < n) (c : q_cand M high mv i m) (km : q_kd M m = 3) (cm : ∀ k, k < n → q_cand M high mv i k → q_hi M k < q_hi M m ∨ (q_hi M k = q_hi M m ∧ (q_kd M k ≠ 4 ∨ q_kd M m = 4))) : ∀ k, k < n → q_us M k = 1 → q_kd M k = 4 → q_in M low high mv k → q_lo M m ≤ q_hi M m → ¬ (q_lo M k ≤ q_lo M m ∧ q_hi M m ≤ q_hi M k) := by
  intro k hk hu hk4 hi hr q
  have b := B k hk hu (by omega) hi
  have := cm k hk ⟨hu, by omega, hi.1, by omega, hi.2.2⟩
  omega
theorem q_loop_src {M : q_MK} {n : Nat} {F low high mv : Int} {rk : Int → Int → Int → List Nat} (G : q_good M n F) (hF : F ≤ 60) (R : q_reg M n F low high mv) (K : q_RK M n F rk) : ∀ (c : Nat) (i : Int), low ≤ i → q_bd M n low high mv i → (q_loop M n rk low high mv c i).Nodup ∧ ∀ t, t ∈ q_loop M n rk low high mv c i → (∃ g k, i ≤ g ∧ low < g ∧ g ≤ high ∧ q_sG M n low high mv g k t) ∨ (∃ j, i ≤ j ∧ q_sP M n low high mv j t) := by
  intro c
  induction c with
  | zero => intro i _ _; exact ⟨by simp [q_loop], fun t h => absurd h (by simp [q_loop])⟩
  | succ c ih =>
    intro i hl B
    rw [q_loop]
    by_cases h : high < i
    · rw [if_pos h]; exact ⟨by simp, fun t h => absurd h (by simp)⟩
    rw [if_neg h]
    have hr := R
    obtain ⟨r1, r2, r3, r4, r5⟩ := hr
    have hG : (if low < i then q_gap M rk i n 0 else []).Nodup ∧ ∀ t, t ∈ (if low < i then q_gap M rk i n 0 else []) → low < i ∧ ∃ k, q_sG M n low high mv i k t := by
      by_cases e : low < i
      · rw [if_pos e]
        have hin : ∀ k, k < n → q_us M k = 1 → q_gp M k = i → q_kd M k = 1 ∨ (q_kd M k = 4 ∧ q_in M low high mv k) := fun k hk hu hg => r4 k hk hu (by omega) (by omega)
        refine ⟨q_gap_nodup G K B hin n 0 (by omega), fun t ht => ⟨e, ?_⟩⟩
        obtain ⟨j, _, sj⟩ := q_gap_src G K B hin (c := n) (k := 0) (by omega) ht
        exact ⟨j, sj⟩
      · rw [if_neg e]; exact ⟨by simp, fun t h => absurd h (by simp)⟩
    have key : ∀ (P L : List Nat) (i' : Int), i < i' → (i' = (if q_om M high mv i n = -1 then i else q_hi M (q_om M high mv i n).toNat) + 1) → P.Nodup → (∀ t, t ∈ P → q_sP M n low high mv i t) → (L.Nodup ∧ ∀ t, t ∈ L → (∃ g k, i' ≤ g ∧ low < g ∧ g ≤ high ∧ q_sG M n low high mv g k t) ∨ (∃ j, i' ≤ j ∧ q_sP M n low high mv j t)) → ((if low < i then q_gap M rk i n 0 else []) ++ (P ++ L)).Nodup ∧ ∀ t, t ∈ ((if low < i then q_gap M rk i n 0 else []) ++ (P ++ L)) → (∃ g k, i ≤ g ∧ low < g ∧ g ≤ high ∧ q_sG M n low high mv g k t) ∨ (∃ j, i ≤ j ∧ q_sP M n low high mv j t) := by
      intro P L i' hi ei hP sP hL
      refine ⟨?_, ?_⟩
      · rw [List.nodup_append, List.nodup_append]
        refine ⟨hG.1, ⟨hP, hL.1, fun a ha b hb e => ?_⟩, fun a ha b hb e => ?_⟩
        · subst e
          rcases hL.2 a hb with ⟨g, k, g1, g2, g3, sg⟩ | ⟨j, j1, sj⟩
          · exact q_dGP G hF r2 r1 sg (sP a ha)
          · exact q_dBB G (q_sP_bel G hF r2 r1 (sP a ha)) (q_sP_bel G hF r2 r1 sj) (by omega)
        · subst e
          obtain ⟨_, k, sk⟩ := hG.2 a ha
          rcases List.mem_append.1 hb with hb | hb
          · exact q_dGP G hF r2 r1 sk (sP a hb)
          · rcases hL.2 a hb with ⟨g, k', g1, g2, g3, sg⟩ | ⟨j, j1, sj⟩
            · refine q_dGG G sk sg (fun q => ?_)
              subst q
              have := sk.2.2.2.1
              have := sg.2.2.2.1
              omega
            · exact q_dGP G hF r2 r1 sk sj
      · intro t ht
        rcases List.mem_append.1 ht with ht | ht
        · obtain ⟨e, k, sk⟩ := hG.2 t ht
          exact .inl ⟨i, k, by omega, e, by omega, sk⟩
        · rcases List.mem_append.1 ht with ht | ht
          · exact .inr ⟨i, by omega, sP t ht⟩
          · rcases hL.2 t ht with ⟨g, k', g1, g2⟩ | ⟨j, j1, sj⟩
            · exact .inl ⟨g, k', by omega, g2⟩
            · exact .inr ⟨j, by omega, sj⟩
    rcases q_om_spec M high mv i n with ⟨e0, g0⟩ | ⟨m, hm, e0, c0, g0⟩
    · rw [if_pos e0]
      refine key _ _ (i + 1) (by omega) (by rw [if_pos e0]) (by simp) (fun t ht => ?_) (ih (i + 1) (by omega) (q_bd_word B e0))
      exact ⟨B, hl, by omega, .inl ⟨e0, by simpa using ht⟩⟩
    · rw [if_neg (show ¬ q_om M high mv i n = -1 by omega), e0, Int.toNat_natCast]
      have vm := G.1 m hm c0.1
      unfold q_val at vm
      have im : q_in M low high mv m := ⟨c0.2.2.1, by omega, c0.2.2.2.2⟩
      refine key _ _ (q_hi M m + 1) (by omega) (by rw [if_neg (by omega), e0, Int.toNat_natCast]) ?_ ?_ (ih (q_hi M m + 1) (by omega) (q_bd_next G B hl hm c0 g0))
      · unfold q_pc
        by_cases k2 : q_kd M m = 2
        · rw [if_pos k2]; simp
        rw [if_neg k2]
        by_cases k3 : q_kd M m = 3
        · rw [if_pos k3]
          have mvk := q_in_mv hl B hm c0 k3 g0
          have R1 := q_reg_turn G R hm c0.1 k3 im (fun k a b c d => mvk k a b c d (by omega)) (a := q_mi M m) (b := q_hi M m) (.inr ⟨rfl, rfl⟩)
          have R2 := q_reg_turn G R hm c0.1 k3 im (fun k a b c d => mvk k a b c d (by omega)) (a := q_lo M m) (b := q_mi M m - 1) (.inl ⟨rfl, rfl⟩)
          rw [List.nodup_append]
          refine ⟨(K _ _ _ R1).1, (K _ _ _ R2).1, fun a ha b hb e => ?_⟩
          subst e
          exact q_dBB G ((K _ _ _ R2).2 _ hb) ((K _ _ _ R1).2 _ ha) (by omega)
        · rw [if_neg k3]; simp
      · intro t ht
        refine ⟨B, hl, by omega, .inr ⟨m, hm, e0, ?_⟩⟩
        unfold q_pc at ht
        by_cases k2 : q_kd M m = 2
        · rw [if_pos k2] at ht; exact .inl ⟨k2, by simpa using ht⟩
        rw [if_neg k2] at ht
        by_cases k3 : q_kd M m = 3
        · rw [if_pos k3] at ht
          have mvk := q_in_mv hl B hm c0 k3 g0
          have R1 := q_reg_turn G R hm c0.1 k3 im (fun k a b c d => mvk k a b c d (by omega)) (a := q_mi M m) (b := q_hi M m) (.inr ⟨rfl, rfl⟩)
          have R2 := q_reg_turn G R hm c0.1 k3 im (fun k a b c d => mvk k a b c d (by omega)) (a := q_lo M m) (b := q_mi M m - 1) (.inl ⟨rfl, rfl⟩)
          right; refine ⟨k3, ?_⟩
          rcases List.mem_append.1 ht with ht | ht
          · exact q_bel_mono ((K _ _ _ R1).2 _ ht) (by omega) (by omega)
          · exact q_bel_mono ((K _ _ _ R2).2 _ ht) (by omega) (by omega)
        · rw [if_neg k3] at ht; simp at ht
theorem q_row_ok {M : q_MK} {n : Nat} {F : Int} (G : q_good M n F) (hF : F ≤ 60) : ∀ d, q_RK M n F (q_row M n d) := by
  intro d
  induction d with
  | zero => intro low high mv _; exact ⟨by simp [q_row], fun t h => absurd h (by simp [q_row])⟩
  | succ d ih =>
    intro low high mv R
    have := q_loop_src G hF R ih 100 low (by omega) q_bd_low
    refine ⟨this.1, fun t ht => ?_⟩
    have hr := R
    obtain ⟨r1, r2, r3, r4, r5⟩ := hr
    rcases this.2 t ht with ⟨g, k, g1, g2, g3, B, hk, hu, hg, q⟩ | ⟨j, j1, sj⟩
    · rcases q with q | q
      · exact .inr ⟨k, q.2, hk, hu, .inl ⟨q.1, by omega, by omega⟩⟩
      · exact q_bel_mono q.2.2 q.2.1.2.1 q.2.1.2.2
    · have hb := q_sP_bel G hF r2 r1 sj
      refine q_bel_mono hb (by omega) ?_
      have := sj.2.2.1
      rcases q_om_spec M high mv j n with ⟨e0, g0⟩ | ⟨m, hm, e0, c0, g0⟩
      · rw [if_pos e0]; exact this
      · rw [if_neg (by omega), e0, Int.toNat_natCast]; exact c0.2.2.2.2
theorem q_all_ok {M : q_MK} {n : Nat} {F : Int} (G : q_good M n F) (hF : F ≤ 60) (hF0 : 0 ≤ F) (hn : n ≤ 40) : (q_all M n F).Nodup ∧ ∀ t, t ∈ q_all M n F → t < 100 := by
  have K := q_row_ok G hF 43
  have R := q_reg_top G
  have hr := R
  obtain ⟨r1, r2, r3, r4, r5⟩ := hr
  have hB : ∀ g : Int, (g = 0 ∨ g = F) → q_bd M n 0 (F - 1) (-1) g := by
    intro g hg k hk hu hr hi q
    have v := G.1 k hk hu
    unfold q_val at v
    omega
  have hin : ∀ g : Int, ∀ k, k < n → q_us M k = 1 → q_gp M k = g → 0 ≤ g → q_kd M k = 1 ∨ (q_kd M k = 4 ∧ q_in M 0 (F - 1) (-1) k) := by
    intro g k hk hu hg h0
    have v := G.1 k hk hu
    unfold q_val at v
    rcases v with v | v | v | v
    · omega
    · exact .inl v.1
    · omega
    · exact .inr ⟨v.1, by omega, by omega, by omega⟩
  have sG : ∀ g : Int, (g = 0 ∨ g = F) → ∀ t, t ∈ q_gap M (q_row M n 43) g n 0 → ∃ k, q_sG M n 0 (F - 1) (-1) g k t := by
    intro g hg t ht
    obtain ⟨j, _, sj⟩ := q_gap_src G K (hB g hg) (fun k a b c => hin g k a b c (by omega)) (c := n) (k := 0) (by omega) ht
    exact ⟨j, sj⟩
  have lG : ∀ g k t, q_sG M n 0 (F - 1) (-1) g k t → t < 100 := by
    intro g k t s
    rcases s.2.2.2.2 with q | q
    · have := s.2.1; omega
    · rcases q.2.2 with q | ⟨p, e, hp, _⟩ <;> omega
  have nG : ∀ g : Int, (g = 0 ∨ g = F) → (q_gap M (q_row M n 43) g n 0).Nodup := fun g hg => q_gap_nodup G K (hB g hg) (fun k a b c => hin g k a b c (by omega)) n 0 (by omega)
  have hL := q_loop_src G hF R (q_row_ok G hF 42) 100 0 (by omega) q_bd_low
  have lL : ∀ t, t ∈ q_row M n 43 0 (F - 1) (-1) → t < 100 := by
    intro t ht
    rcases (K 0 (F - 1) (-1) R).2 t ht with q | ⟨p, e, hp, _⟩ <;> omega
  unfold q_all
  by_cases e : F = 0
  · rw [if_pos e, List.append_nil]
    refine ⟨nG 0 (.inl rfl), fun t ht => ?_⟩
    obtain ⟨k, sk⟩ := sG 0 (.inl rfl) t ht
    exact lG _ _ _ sk
  · rw [if_neg e]
    refine ⟨?_, fun t ht => ?_⟩
    · rw [List.nodup_append, List.nodup_append]
      refine ⟨nG 0 (.inl rfl), ⟨hL.1, nG F (.inr rfl), fun a ha b hb q => ?_⟩, fun a ha b hb q => ?_⟩
      · subst q
        obtain ⟨k, sk⟩ := sG F (.inr rfl) a hb
        rcases hL.2 a ha with ⟨g, k', g1, g2, g3, sg⟩ | ⟨j, j1, sj⟩
        · refine q_dGG G sk sg (fun q => ?_)
          subst q
          have := sk.2.2.2.1
          have := sg.2.2.2.1
          omega
        · exact q_dGP G hF r2 r1 sk sj
      · subst q
        obtain ⟨k, sk⟩ := sG 0 (.inl rfl) a ha
        rcases List.mem_append.1 hb with hb | hb
        · rcases hL.2 a hb with ⟨g, k', g1, g2, g3, sg⟩ | ⟨j, j1, sj⟩
          · refine q_dGG G sk sg (fun q => ?_)
            subst q
            have := sk.2.2.2.1
            have := sg.2.2.2.1
            omega
          · exact q_dGP G hF r2 r1 sk sj
        · obtain ⟨k', sk'⟩ := sG F (.inr rfl) a hb
          refine q_dGG G sk sk' (fun q => ?_)
          subst q
          have := sk.2.2.2.1
          have := sk'.2.2.2.1
          omega
    · rcases List.mem_append.1 ht with ht | ht
      · obtain ⟨k, sk⟩ := sG 0 (.inl rfl) t ht
        exact lG _ _ _ sk
      · rcases List.mem_append.1 ht with ht | ht
        · exact lL t ht
        · obtain ⟨k, sk⟩ := sG F (.inr rfl) t ht
          exact lG _ _ _ sk
def q_wt (W : Nat → Nat) : List Nat → Nat
  | [] => 0
  | t :: L => W t + q_wt W L
theorem q_wt_append (W : Nat → Nat) (A B : List Nat) : q_wt W (A ++ B) = q_wt W A + q_wt W B := by
  induction A with
  | nil => simp [q_wt]
  | cons a A ih => simp only [List.cons_append, q_wt, ih]; omega
def q_tot (W : Nat → Nat) : Nat → Nat
  | 0 => 0
  | n + 1 => q_tot W n + W n
theorem q_wt_filter (W : Nat → Nat) (n : Nat) : ∀ L : List Nat, L.Nodup → q_wt W L ≤ q_wt W (L.filter (fun t => decide (t ≠ n))) + W n ∧ (n ∉ L → q_wt W L = q_wt W (L.filter (fun t => decide (t ≠ n)))) := by
  intro L
  induction L with
  | nil => intro _; simp [q_wt]
  | cons a L ih =>
    intro h
    rw [List.nodup_cons] at h
    have ih := ih h.2
    by_cases e : a = n
    · subst e
      have := ih.2 h.1
      refine ⟨?_, fun q => absurd (List.mem_cons_self) q⟩
      rw [List.filter_cons_of_neg (by simp), q_wt]
      omega
    · rw [List.filter_cons_of_pos (by simpa using e), q_wt, q_wt]
      refine ⟨by omega, fun q => ?_⟩
      have := ih.2 (fun r => q (List.mem_cons_of_mem _ r))
      omega
theorem q_wt_le (W : Nat → Nat) : ∀ (n : Nat) (L : List Nat), L.Nodup → (∀ t, t ∈ L → t < n) → q_wt W L ≤ q_tot W n := by
  intro n
  induction n with
  | zero =>
    intro L _ h
    cases L with
    | nil => simp [q_wt]
    | cons a L => exact absurd (h a List.mem_cons_self) (Nat.not_lt_zero a)
  | succ n ih =>
    intro L hn h
    have h1 := (q_wt_filter W n L hn).1
    have h2 := ih (L.filter (fun t => decide (t ≠ n))) (hn.sublist List.filter_sublist) (fun t ht => by
      rw [List.mem_filter] at ht
      have := h t ht.1
      have : t ≠ n := by simpa using ht.2
      omega)
    rw [q_tot]; omega
theorem q_tot_le (W : Nat → Nat) (h1 : ∀ t, t < 60 → W t ≤ 1) (h2 : ∀ t, W t ≤ 6) : ∀ n, q_tot W (60 + n) ≤ 60 + 6 * n := by
  intro n
  induction n with
  | zero =>
    have : ∀ m, m ≤ 60 → q_tot W m ≤ m := by
      intro m
      induction m with
      | zero => intro _; exact Nat.le_refl _
      | succ m ih => intro hm; rw [q_tot]; have := ih (by omega); have := h1 m (by omega); omega
    exact this 60 (by omega)
  | succ n ih => show q_tot W (60 + n) + W (60 + n) ≤ _; have := h2 (60 + n); omega
theorem q_all_wt {M : q_MK} {n : Nat} {F : Int} (G : q_good M n F) (hF : F ≤ 60) (hF0 : 0 ≤ F) (hn : n ≤ 40) (W : Nat → Nat) (h1 : ∀ t, t < 60 → W t ≤ 1) (h2 : ∀ t, W t ≤ 6) : q_wt W (q_all M n F) ≤ 300 := by
  have h := q_all_ok G hF hF0 hn
  have a := q_wt_le W 100 _ h.1 h.2
  have b : q_tot W 100 ≤ 60 + 6 * 40 := q_tot_le W h1 h2 40
  omega
abbrev q_deep (M : q_MK) (low high mv : Int) (k : Nat) : Prop := q_us M k = 1 ∧ (q_kd M k = 3 ∨ q_kd M k = 4) ∧ q_in M low high mv k
def q_cnt (M : q_MK) (low high mv : Int) : Nat → Nat
  | 0 => 0
  | k + 1 => q_cnt M low high mv k + if q_deep M low high mv k then 1 else 0
theorem q_cnt_le (M : q_MK) (low high mv : Int) : ∀ n, q_cnt M low high mv n ≤ n := by
  intro n
  induction n with
  | zero => exact Nat.le_refl _
  | succ n ih => rw [q_cnt]; split <;> omega
theorem q_cnt_mono {M : q_MK} {low high mv low' high' mv' : Int} : ∀ n, (∀ k, k < n → q_deep M low' high' mv' k → q_deep M low high mv k) → q_cnt M low' high' mv' n ≤ q_cnt M low high mv n := by
  intro n
  induction n with
  | zero => intro _; exact Nat.le_refl _
  | succ n ih =>
    intro h
    have := ih (fun k hk => h k (by omega))
    rw [q_cnt, q_cnt]
    by_cases e : q_deep M low' high' mv' n
    · rw [if_pos e, if_pos (h n (by omega) e)]; omega
    · rw [if_neg e]; omega
theorem q_cnt_lt {M : q_MK} {low high mv low' high' mv' : Int} : ∀ n, (∀ k, k < n → q_deep M low' high' mv' k → q_deep M low high mv k) → ∀ m, m < n → q_deep M low high mv m → ¬ q_deep M low' high' mv' m → q_cnt M low' high' mv' n < q_cnt M low high mv n := by
  intro n
  induction n with
  | zero => intro _ m hm; exact absurd hm (Nat.not_lt_zero m)
  | succ n ih =>
    intro h m hm d1 d2
    rw [q_cnt, q_cnt]
    by_cases e : m = n
    · subst e
      have := q_cnt_mono m (fun k hk => h k (by omega))
      rw [if_pos d1, if_neg d2]; omega
    · have := ih (fun k hk => h k (by omega)) m (by omega) d1 d2
      by_cases e : q_deep M low' high' mv' n
      · rw [if_pos e, if_pos (h n (by omega) e)]; omega
      · rw [if_neg e]; omega
theorem q_cnt_move {M : q_MK} {n : Nat} {F low high mv : Int} (G : q_good M n F) (R : q_mvk M n low high mv) {m : Nat} (hm : m < n) (um : q_us M m = 1) (km : q_kd M m = 4) (im : q_in M low high mv m) : q_cnt M (q_lo M m) (q_hi M m) (m : Int) n < q_cnt M low high mv n := by
  refine q_cnt_lt n (fun k hk d => ⟨d.1, d.2.1, ?_, by omega, by omega⟩) m hm ⟨um, .inr km, im⟩ (fun d => d.2.2.1 rfl)
  intro e
  rcases R with r | ⟨m', m1, m2, m3, m4, m5, m6⟩
  · omega
  · have q : m' = k := by omega
    subst q
    have v := G.1 m' hk d.1
    have vm := G.1 m hm um
    unfold q_val at v vm
    have ne : m' ≠ m := by intro q; subst q; exact im.1 e
    rcases G.2 m' m hk hm ne d.1 um with p | p | p
    · omega
    · omega
    · exact p.1 ⟨by omega, by omega, by omega, by omega⟩
theorem q_cnt_turn {M : q_MK} {n : Nat} {F low high mv : Int} (G : q_good M n F) {t : Nat} (ht : t < n) (ut : q_us M t = 1) (kt : q_kd M t = 3) (it : q_in M low high mv t) {a b : Int} (hab : (a = q_lo M t ∧ b = q_mi M t - 1) ∨ (a = q_mi M t ∧ b = q_hi M t)) : q_cnt M a b mv n < q_cnt M low high mv n := by
  have vt := G.1 t ht ut
  unfold q_val at vt
  refine q_cnt_lt n (fun k hk d => ⟨d.1, d.2.1, d.2.2.1, by omega, by omega⟩) t ht ⟨ut, .inl kt, it⟩ (fun d => by omega)
def pc {α : Type} (x : Option α) (P : α → Prop) : Prop := ∀ r, x = some r → P r
theorem pc_some {α : Type} {P : α → Prop} {r : α} (h : P r) : pc (some r) P := fun q e => by cases e; exact h
theorem pc_chk {α : Type} {P : α → Prop} {c : Prop} [Decidable c] {x : Option α} (h : c → pc x P) : pc (w_chk c x) P := fun q e => by
  have := w_chkE e; exact h this.1 q this.2
theorem pc_lt {α β : Type} {P : β → Prop} {x : α} {k : α → Option β} (h : ∀ y, y = x → pc (k y) P) : pc (w_lt x k) P := h x rfl
theorem pc_if {α : Type} {P : α → Prop} {c : Prop} [Decidable c] {x y : Option α} (h1 : c → pc x P) (h2 : ¬ c → pc y P) : pc (if c then x else y) P := by
  by_cases h : c
  · rw [if_pos h]; exact h1 h
  · rw [if_neg h]; exact h2 h
theorem pc_b1 {α β : Type} {R : α → Prop} {P : β → Prop} {x : Option α} {k : α → Option β} (h : pc x R) (hk : ∀ a, R a → pc (k a) P) : pc (w_b1 x k) P := by
  cases x with
  | none => intro q e; exact absurd e (by simp [w_b1])
  | some a => exact hk a (h a rfl)
theorem pc_b2 {α σ β : Type} {R : α × σ → Prop} {P : β → Prop} {x : Option (α × σ)} {k : α → σ → Option β} (h : pc x R) (hk : ∀ a t, R (a, t) → pc (k a t) P) : pc (w_b2 x k) P := by
  cases x with
  | none => intro q e; exact absurd e (by simp [w_b2])
  | some a => exact hk a.1 a.2 (h _ rfl)
theorem pc_b3 {α σ β : Type} {R : Option α × σ → Prop} {P : β → Prop} {x : Option (Option α × σ)} {t : σ → Option β} {k : α → σ → Option β} (h : pc x R) (ht : ∀ s, R (none, s) → pc (t s) P) (hk : ∀ a s, R (some a, s) → pc (k a s) P) : pc (w_b3 x t k) P := by
  cases x with
  | none => intro q e; exact absurd e (by simp [w_b3])
  | some a =>
    obtain ⟨a, s⟩ := a
    cases a with
    | none => exact ht s (h _ rfl)
    | some a => exact hk a s (h _ rfl)
theorem pc_mono {α : Type} {P R : α → Prop} {x : Option α} (h : pc x P) (hp : ∀ r, P r → R r) : pc x R := fun r e => hp r (h r e)
theorem ok_and {α : Type} {P R : α → Prop} {x : Option α} (h : okk x P) (h2 : pc x R) : okk x (fun r => P r ∧ R r) := by
  obtain ⟨r, e, p⟩ := h; exact ⟨r, e, p, h2 r e⟩
theorem ok_true {α : Type} {P : α → Prop} {x : Option α} (h : okk x P) : pc x P := by
  obtain ⟨r, e, p⟩ := h; intro q eq; rw [e] at eq; cases eq; exact p
/-- the marks of the reference as the pure part sees them -/
def q_md (S : SS) : q_MK := fun j k =>
  if j = 0 then gi S 199 k else if j = 1 then (if gi S 199 k = 1 then 0 else gi S 201 k) else if j = 2 then (if gi S 199 k = 1 then -1 else if gi S 199 k = 3 then gi S 203 k else gi S 202 k)
  else if j = 3 then gi S 202 k else if j = 4 then (if gi S 199 k = 1 then gi S 201 k else if gi S 199 k = 4 then gi S 203 k else -1) else if j = 5 then gi S 214 k else 0
theorem md_kd (S : SS) (k : Nat) : q_kd (q_md S) k = gi S 199 k := rfl
theorem md_us (S : SS) (k : Nat) : q_us (q_md S) k = gi S 214 k := rfl
theorem md_mi (S : SS) (k : Nat) : q_mi (q_md S) k = gi S 202 k := rfl
theorem md_lo (S : SS) (k : Nat) : q_lo (q_md S) k = if gi S 199 k = 1 then 0 else gi S 201 k := rfl
theorem md_hi (S : SS) (k : Nat) : q_hi (q_md S) k = if gi S 199 k = 1 then -1 else if gi S 199 k = 3 then gi S 203 k else gi S 202 k := rfl
theorem md_gp (S : SS) (k : Nat) : q_gp (q_md S) k = if gi S 199 k = 1 then gi S 201 k else if gi S 199 k = 4 then gi S 203 k else -1 := rfl
theorem md_lo1 {S : SS} {k : Nat} (h : gi S 199 k ≠ 1) : q_lo (q_md S) k = gi S 201 k := by rw [md_lo, if_neg h]
theorem md_hi3 {S : SS} {k : Nat} (h : gi S 199 k = 3) : q_hi (q_md S) k = gi S 203 k := by rw [md_hi, if_neg (by omega), if_pos h]
theorem md_hi2 {S : SS} {k : Nat} (h : gi S 199 k ≠ 1) (h3 : gi S 199 k ≠ 3) : q_hi (q_md S) k = gi S 202 k := by rw [md_hi, if_neg h, if_neg h3]
theorem pc_gapOf (S : SS) (k : Nat) : pc (f_M_gapOf S (k : Int)) (fun r => r = q_gp (q_md S) k) := by
  unfold f_M_gapOf
  rw [Int.toNat_natCast]
  refine pc_chk (fun _ => pc_if (fun c => pc_chk (fun _ => pc_some ?_)) (fun c => pc_chk (fun _ => pc_if (fun c2 => pc_chk (fun _ => pc_some ?_)) (fun c2 => pc_some ?_))))
  · rw [md_gp, if_pos c]
  · rw [md_gp, if_neg c, if_pos c2]
  · rw [md_gp, if_neg c, if_neg c2]
theorem pc_rowEnd (S : SS) (k : Nat) : pc (f_M_rowEnd S (k : Int)) (fun r => gi S 199 k ≠ 1 → r = q_hi (q_md S) k) := by
  unfold f_M_rowEnd
  rw [Int.toNat_natCast]
  refine pc_chk (fun _ => pc_if (fun c => pc_chk (fun _ => pc_some ?_)) (fun c => pc_chk (fun _ => pc_some ?_)))
  · intro h; rw [md_hi3 c]
  · intro h; rw [md_hi2 h c]
theorem pc_hasRow (S : SS) (k : Nat) : pc (f_M_hasRow S (k : Int)) (fun r => (r = 0 ∧ q_kd (q_md S) k = 1) ∨ (r = 1 ∧ q_kd (q_md S) k ≠ 1)) := by
  unfold f_M_hasRow
  rw [Int.toNat_natCast]
  exact pc_chk (fun _ => pc_if (fun c => pc_some (.inl ⟨rfl, c⟩)) (fun c => pc_some (.inr ⟨rfl, c⟩)))
theorem pc_isInside_29 (S : SS) (k : Nat) (a b : Int) : pc (f_M_isInside_29 S (k : Int) a b) (fun r => (r = 0 ∧ ¬ (q_gp (q_md S) k = -1 ∨ (a < q_gp (q_md S) k ∧ q_gp (q_md S) k ≤ b))) ∨ (r = 1 ∧ (q_gp (q_md S) k = -1 ∨ (a < q_gp (q_md S) k ∧ q_gp (q_md S) k ≤ b)))) := by
  unfold f_M_isInside_29
  refine pc_b1 (pc_gapOf S k) (fun r e => pc_if (fun c => pc_some ?_) (fun c => pc_b1 (pc_gapOf S k) (fun r2 e2 => pc_if (fun c2 => pc_some ?_) (fun c2 => pc_b1 (pc_gapOf S k) (fun r3 e3 => pc_if (fun c3 => pc_some ?_) (fun c3 => pc_some ?_)))))) <;> omega
theorem pc_isInside (S : SS) (k : Nat) (a b : Int) : pc (f_M_isInside S (k : Int) a b) (fun r => (r = 0 ∧ ¬ q_ins (q_md S) k a b) ∨ (r = 1 ∧ q_ins (q_md S) k a b)) := by
  unfold f_M_isInside
  refine pc_b1 (pc_hasRow S k) (fun r e => pc_if (fun c => ?_) (fun c => pc_chk (fun _ => ?_)))
  · refine pc_mono (pc_isInside_29 S k a b) (fun r h => ?_)
    have e : q_kd (q_md S) k = 1 := by omega
    rcases h with h | h
    · exact .inl ⟨h.1, fun q => h.2 q.2⟩
    · exact .inr ⟨h.1, .inl e, h.2⟩
  · have e : q_kd (q_md S) k ≠ 1 := by omega
    have l := md_lo1 e
    rw [Int.toNat_natCast, ← l]
    refine pc_if (fun c2 => pc_some (.inl ⟨rfl, fun q => by omega⟩)) (fun c2 => pc_b1 (pc_rowEnd S k) (fun r4 e4 => ?_))
    have e4 := e4 e
    refine pc_if (fun c3 => ?_) (fun c3 => pc_some (.inl ⟨rfl, fun q => by omega⟩))
    refine pc_mono (pc_isInside_29 S k a b) (fun r h => ?_)
    rcases h with h | h
    · exact .inl ⟨h.1, fun q => h.2 q.2⟩
    · exact .inr ⟨h.1, .inr ⟨by omega, by omega⟩, h.2⟩
theorem z01_a {r : Int} {A B : Prop} (h : (r = 0 ∧ A) ∨ (r = 1 ∧ B)) (c : r = 0) : A := by
  rcases h with h | h
  · exact h.2
  · exact absurd (h.1.symm.trans c) (by decide)
theorem z01_b {r : Int} {A B : Prop} (h : (r = 0 ∧ A) ∨ (r = 1 ∧ B)) (c : ¬ r = 0) : B := by
  rcases h with h | h
  · exact absurd h.1 c
  · exact h.2
theorem pc_isWithin (S : SS) (k o : Nat) : pc (f_M_isWithin S (k : Int) (o : Int)) (fun r => (r = 0 ∧ ¬ q_wi (q_md S) k o) ∨ (r = 1 ∧ q_wi (q_md S) k o)) := by
  unfold f_M_isWithin
  rw [Int.toNat_natCast]
  refine pc_chk (fun _ => pc_if (fun c => pc_chk (fun _ => pc_chk (fun _ => ?_))) (fun c => pc_chk (fun _ => pc_if (fun c2 => pc_chk (fun _ => pc_chk (fun _ => pc_chk (fun _ => ?_)))) (fun c2 => pc_some ?_))))
  · have n3 : ¬ q_kd (q_md S) o = 3 := by rw [md_kd]; omega
    rw [← md_lo1 (show gi S 199 o ≠ 1 by omega), ← md_hi2 (show gi S 199 o ≠ 1 by omega) (by omega)]
    refine pc_b1 (pc_isInside S k _ _) (fun r h => pc_chk (fun _ => pc_some ?_))
    rcases h with h | h
    · exact .inl ⟨h.1, fun q => q.elim (fun q => h.2 q.2) (fun q => n3 q.1)⟩
    · exact .inr ⟨h.1, .inl ⟨c, h.2⟩⟩
  · rw [← md_lo1 (show gi S 199 o ≠ 1 by omega), ← md_mi, ← md_hi3 c2]
    refine pc_b1 (pc_isInside S k _ _) (fun r h => pc_if (fun c3 => pc_chk (fun _ => pc_chk (fun _ => ?_))) (fun c3 => pc_some (.inr ⟨rfl, .inr ⟨c2, .inl (z01_b h c3)⟩⟩)))
    exact pc_b1 (pc_isInside S k _ _) (fun r2 h2 => pc_if (fun c4 => pc_some (.inl ⟨rfl, fun q => q.elim (fun q => c q.1) (fun q => q.2.elim (z01_a h c3) (z01_a h2 c4))⟩)) (fun c4 => pc_some (.inr ⟨rfl, .inr ⟨c2, .inr (z01_b h2 c4)⟩⟩)))
  · exact .inl ⟨rfl, fun q => q.elim (fun q => c q.1) (fun q => c2 q.1)⟩
theorem pc_isCut (S : SS) (k o : Nat) : pc (f_M_isCut S (k : Int) (o : Int)) (fun r => (r = 0 ∧ ¬ q_cut (q_md S) k o) ∨ (r = 1 ∧ q_cut (q_md S) k o)) := by
  unfold f_M_isCut
  refine pc_b1 (pc_gapOf S k) (fun r e => pc_if (fun c => pc_some (.inl ⟨rfl, fun q => by omega⟩)) (fun c => pc_b1 (pc_hasRow S o) (fun r2 e2 => pc_if (fun c2 => pc_some (.inl ⟨rfl, fun q => by omega⟩)) (fun c2 => pc_b1 (pc_gapOf S k) (fun r3 e3 => pc_chk (fun _ => ?_))))))
  have e : q_kd (q_md S) o ≠ 1 := by omega
  rw [Int.toNat_natCast, ← md_lo1 e]
  refine pc_if (fun c3 => pc_some (.inl ⟨rfl, fun q => by omega⟩)) (fun c3 => pc_b1 (pc_gapOf S k) (fun r4 e4 => pc_b1 (pc_rowEnd S o) (fun r5 e5 => ?_)))
  have e5 := e5 e
  refine pc_if (fun c4 => pc_some (.inl ⟨rfl, fun q => by omega⟩)) (fun c4 => pc_some (.inr ⟨rfl, by omega, e, by omega, by omega⟩))
theorem pc_doMeet_66 (S : SS) (k o : Nat) : pc (f_M_doMeet_66 S (k : Int) (o : Int)) (fun r => (r = 0 ∧ ¬ q_cut (q_md S) k o ∧ ¬ q_cut (q_md S) o k) ∨ (r = 1 ∧ (q_cut (q_md S) k o ∨ q_cut (q_md S) o k))) := by
  unfold f_M_doMeet_66
  exact pc_b1 (pc_isCut S k o) (fun r h => pc_if (fun c => pc_b1 (pc_isCut S o k) (fun r2 h2 => pc_if (fun c2 => pc_some (.inl ⟨rfl, z01_a h c, z01_a h2 c2⟩)) (fun c2 => pc_some (.inr ⟨rfl, .inr (z01_b h2 c2)⟩)))) (fun c => pc_some (.inr ⟨rfl, .inl (z01_b h c)⟩)))
theorem pc_doMeet (S : SS) (k o : Nat) : pc (f_M_doMeet S (k : Int) (o : Int)) (fun r => (r = 0 ∧ q_nm (q_md S) k o) ∨ (r = 1 ∧ ¬ q_nm (q_md S) k o)) := by
  have tail : (¬ q_wi (q_md S) k o) → (¬ q_wi (q_md S) o k) → ¬ q_ov (q_md S) k o → pc (f_M_doMeet_66 S (k : Int) (o : Int)) (fun r => (r = 0 ∧ q_nm (q_md S) k o) ∨ (r = 1 ∧ ¬ q_nm (q_md S) k o)) := by
    intro w1 w2 w3
    refine pc_mono (pc_doMeet_66 S k o) (fun r h => ?_)
    rcases h with h | h
    · exact .inl ⟨h.1, .inr (.inr ⟨w3, h.2.1, h.2.2⟩)⟩
    · exact .inr ⟨h.1, fun q => q.elim w1 (fun q => q.elim w2 (fun q => h.2.elim q.2.1 q.2.2))⟩
  unfold f_M_doMeet
  refine pc_b1 (pc_isWithin S k o) (fun r h => pc_if (fun c => ?_) (fun c => pc_some (.inl ⟨rfl, .inl (z01_b h c)⟩)))
  have w1 := z01_a h c
  clear h
  refine pc_b1 (pc_isWithin S o k) (fun r2 h2 => pc_if (fun c2 => ?_) (fun c2 => pc_some (.inl ⟨rfl, .inr (.inl (z01_b h2 c2))⟩)))
  have w2 := z01_a h2 c2
  clear h2
  refine pc_b1 (pc_hasRow S k) (fun r3 h3 => pc_if (fun c3 => tail w1 w2 (fun q => q.1 (z01_a h3 c3))) (fun c3 => pc_b1 (pc_hasRow S o) (fun r4 h4 => pc_if (fun c4 => tail w1 w2 (fun q => q.2.1 (z01_a h4 c4))) (fun c4 => pc_chk (fun _ => ?_)))))
  have ek := z01_b h3 c3
  have eo := z01_b h4 c4
  rw [Int.toNat_natCast, Int.toNat_natCast, ← md_lo1 ek, ← md_lo1 eo]
  refine pc_b1 (pc_rowEnd S o) (fun r5 h5 => ?_)
  have h5 := h5 eo
  refine pc_if (fun c5 => tail w1 w2 (fun q => absurd q.2.2.1 (by rw [← h5]; exact Int.not_le.2 c5))) (fun c5 => pc_chk (fun _ => pc_b1 (pc_rowEnd S k) (fun r6 h6 => ?_)))
  have h6 := h6 ek
  refine pc_if (fun c6 => tail w1 w2 (fun q => absurd q.2.2.2 (by rw [← h6]; exact Int.not_le.2 c6))) (fun c6 => pc_some (.inr ⟨rfl, fun q => q.elim w1 (fun q => q.elim w2 (fun q => q.1 ⟨ek, eo, ?_, ?_⟩))⟩))
  · rw [← h5]; exact Int.not_lt.1 c5
  · rw [← h6]; exact Int.not_lt.1 c6
theorem q_nm_symm {M : q_MK} {k o : Nat} (h : q_nm M k o) : q_nm M o k := by
  rcases h with h | h | h
  · exact .inr (.inl h)
  · exact .inl h
  · exact .inr (.inr ⟨fun q => h.1 ⟨q.2.1, q.1, q.2.2.2, q.2.2.1⟩, h.2.2, h.2.1⟩)
/-- the best of those below n that are asked for -/
def q_best (n : Nat) (C : Nat → Prop) (len : Nat → Int) (r : Int) : Prop := (r = -1 ∧ ∀ j, j < n → ¬ C j) ∨ (∃ m, m < n ∧ r = (m : Int) ∧ C m ∧ ∀ j, j < n → C j → len m ≤ len j)
theorem q_best_0 {C : Nat → Prop} {len : Nat → Int} : q_best 0 C len (-1) := .inl ⟨rfl, fun j h => absurd h (Nat.not_lt_zero j)⟩
theorem q_best_skip {n : Nat} {C : Nat → Prop} {len : Nat → Int} {r : Int} (h : q_best n C len r) (hn : ¬ C n) : q_best (n + 1) C len r := by
  rcases h with h | ⟨m, h1, h2, h3, h4⟩
  · refine .inl ⟨h.1, fun j hj => ?_⟩
    by_cases e : j = n
    · rw [e]; exact hn
    · exact h.2 j (by omega)
  · refine .inr ⟨m, by omega, h2, h3, fun j hj hc => ?_⟩
    by_cases e : j = n
    · rw [e] at hc; exact absurd hc hn
    · exact h4 j (by omega) hc
theorem q_best_take {n : Nat} {C : Nat → Prop} {len : Nat → Int} {r : Int} (h : q_best n C len r) (hn : C n) (hr : r = -1 ∨ len n ≤ len r.toNat) : q_best (n + 1) C len (n : Int) := by
  refine .inr ⟨n, by omega, rfl, hn, fun j hj hc => ?_⟩
  by_cases e : j = n
  · rw [e]; exact Int.le_refl _
  · rcases h with h | ⟨m, h1, h2, h3, h4⟩
    · exact absurd hc (h.2 j (by omega))
    · have := h4 j (by omega) hc
      rw [h2, Int.toNat_natCast] at hr
      omega
theorem q_best_keep {n : Nat} {C : Nat → Prop} {len : Nat → Int} {r : Int} (h : q_best n C len r) (hn : r ≠ -1) (hr : len r.toNat ≤ len n) : q_best (n + 1) C len r := by
  rcases h with h | ⟨m, h1, h2, h3, h4⟩
  · exact absurd h.1 hn
  · refine .inr ⟨m, by omega, h2, h3, fun j hj hc => ?_⟩
    rw [h2, Int.toNat_natCast] at hr
    by_cases e : j = n
    · rw [e]; exact hr
    · exact h4 j (by omega) hc
def q_ci (S : SS) (v1 v2 : Int) (j : Nat) : Prop := gi S 214 j = 1 ∧ gi S 199 j = 4 ∧ gi S 201 j + v2 ≤ v1 ∧ v1 ≤ gi S 202 j
def q_cm (S : SS) (t j : Nat) : Prop := gi S 214 j = 1 ∧ gi S 199 j = 4 ∧ gi S 201 j ≤ gi S 201 t ∧ gi S 203 t ≤ gi S 202 j
def q_ln (S : SS) (j : Nat) : Int := gi S 202 j - gi S 201 j
def q_ct (S : SS) (v1 v2 v3 : Int) (j : Nat) : Prop := gi S 214 j = 1 ∧ gi S 199 j = 3 ∧ gi S 201 j = v1 ∧ gi S 203 j ≤ v2 ∧ f_M_moveOf S (j : Int) = some v3
theorem pcl_innermost {b : Nat} (S : SS) (hC : MX b S) (v1 v2 : Int) (h1 : i32 v1) (h2 : v2 = 0 ∨ v2 = 1) : ∀ (n : Nat) (best : Int) (k : Nat), q_best k (q_ci S v1 v2) (q_ln S) best → (k : Int) ≤ gi S 192 27 → pc (f_M_innermost_5 S v1 v2 n best (k : Int)) (fun r => q_best (gi S 192 27).toNat (q_ci S v1 v2) (q_ln S) r) := by
  intro n
  induction n with
  | zero => intro best k _ _ r e; exact absurd e (by simp [f_M_innermost_5])
  | succ n ih =>
    intro best k hb hk
    show pc (f_M_innermost_5_b S v1 v2 (f_M_innermost_5 S v1 v2 n) best (k : Int)) _
    have b27 := mx_192_27 hC
    have go : (k : Int) < gi S 192 27 → ∀ best', q_best (k + 1) (q_ci S v1 v2) (q_ln S) best' → pc (f_M_innermost_111 S v1 v2 (f_M_innermost_5 S v1 v2 n) best' (k : Int)) (fun r => q_best (gi S 192 27).toNat (q_ci S v1 v2) (q_ln S) r) := by
      intro hlt best' hb'
      unfold f_M_innermost_111
      refine pc_chk (fun _ => ?_)
      rw [show (k : Int) + 1 = ((k + 1 : Nat) : Int) by omega]
      exact ih best' (k + 1) hb' (by omega)
    have b214 := mx_214 hC k
    have b201 := mx_201 hC k
    have tail : ∀ (w0 : Int64), w0.toInt = v2 → (k : Int) < gi S 192 27 → gi S 214 k = 1 → gi S 199 k = 4 → pc (f_M_innermost_54 S v1 v2 (f_M_innermost_5 S v1 v2 n) best (k : Int) w0 (i2l (gi S 201 k)) (i2l v1)) (fun r => q_best (gi S 192 27).toNat (q_ci S v1 v2) (q_ln S) r) := by
      intro w0 e0 hlt hu h4
      unfold f_M_innermost_54
      rw [i2l_v h1, i2l_v (show i32 (gi S 201 k) by omega), e0, Int.toNat_natCast]
      refine pc_chk (fun _ => pc_chk (fun _ => ?_))
      have i01 := in01 S v1 (gi S 201 k + v2) (gi S 202 k)
      refine pc_if (fun c => go hlt best (q_best_skip hb (fun q => ?_))) (fun c => pc_if (fun c2 => ?_) (fun c2 => ?_))
      · have := q.2.2; omega
      · unfold f_M_innermost_108
        exact go hlt (k : Int) (q_best_take hb ⟨hu, h4, by omega, by omega⟩ (.inl c2))
      · refine pc_chk (fun _ => pc_chk (fun _ => pc_chk (fun _ => pc_chk (fun _ => pc_chk (fun _ => pc_chk (fun _ => pc_if (fun c3 => ?_) (fun c3 => ?_)))))))
        · exact go hlt best (q_best_keep hb c2 c3)
        · unfold f_M_innermost_108
          exact go hlt (k : Int) (q_best_take hb ⟨hu, h4, by omega, by omega⟩ (.inr (by unfold q_ln; omega)))
    unfold f_M_innermost_5_b
    rw [Int.toNat_natCast]
    refine pc_if (fun c => pc_some ?_) (fun c => pc_chk (fun _ => pc_if (fun c2 => go (by omega) best (q_best_skip hb (fun q => ?_))) (fun c2 => pc_chk (fun _ => pc_if (fun c3 => pc_chk (fun _ => pc_if (fun c4 => tail 0 (by rw [c4]; rfl) (by omega) (by omega) c3) (fun c4 => tail 1 (by rw [show v2 = 1 by omega]; rfl) (by omega) (by omega) c3))) (fun c3 => go (by omega) best (q_best_skip hb (fun q => c3 q.2.1)))))))
    · rw [show (gi S 192 27).toNat = k by omega]; exact hb
    · have := q.1; omega
theorem pc_innermost {b : Nat} (S : SS) (hC : MX b S) (v1 v2 : Int) (h1 : i32 v1) (h2 : v2 = 0 ∨ v2 = 1) : pc (f_M_innermost S v1 v2) (fun r => q_best (gi S 192 27).toNat (q_ci S v1 v2) (q_ln S) r) := by
  have b27 := mx_192_27 hC
  exact pcl_innermost S hC v1 v2 h1 h2 FU (-1) 0 q_best_0 (by omega)
theorem pcl_moveOf {b : Nat} (S : SS) (hC : MX b S) (t : Nat) : ∀ (n : Nat) (best : Int) (k : Nat), q_best k (q_cm S t) (q_ln S) best → (k : Int) ≤ gi S 192 27 → pc (f_M_moveOf_4 S (t : Int) n best (k : Int)) (fun r => q_best (gi S 192 27).toNat (q_cm S t) (q_ln S) r) := by
  intro n
  induction n with
  | zero => intro best k _ _ r e; exact absurd e (by simp [f_M_moveOf_4])
  | succ n ih =>
    intro best k hb hk
    show pc (f_M_moveOf_4_b S (t : Int) (f_M_moveOf_4 S (t : Int) n) best (k : Int)) _
    have b27 := mx_192_27 hC
    have go : (k : Int) < gi S 192 27 → ∀ best', q_best (k + 1) (q_cm S t) (q_ln S) best' → pc (f_M_moveOf_100 S (t : Int) (f_M_moveOf_4 S (t : Int) n) best' (k : Int)) (fun r => q_best (gi S 192 27).toNat (q_cm S t) (q_ln S) r) := by
      intro hlt best' hb'
      unfold f_M_moveOf_100
      refine pc_chk (fun _ => ?_)
      rw [show (k : Int) + 1 = ((k + 1 : Nat) : Int) by omega]
      exact ih best' (k + 1) hb' (by omega)
    have b214 := mx_214 hC k
    unfold f_M_moveOf_4_b
    rw [Int.toNat_natCast, Int.toNat_natCast]
    refine pc_if (fun c => pc_some ?_) (fun c => pc_chk (fun _ => pc_if (fun c2 => go (by omega) best (q_best_skip hb (fun q => by have := q.1; omega))) (fun c2 => pc_chk (fun _ => pc_if (fun c3 => pc_chk (fun _ => pc_chk (fun _ => pc_if (fun c4 => go (by omega) best (q_best_skip hb (fun q => by have := q.2.2.1; omega))) (fun c4 => pc_chk (fun _ => pc_chk (fun _ => pc_if (fun c5 => ?_) (fun c5 => go (by omega) best (q_best_skip hb (fun q => c5 q.2.2.2)))))))) ) (fun c3 => go (by omega) best (q_best_skip hb (fun q => c3 q.2.1)))))))
    · rw [show (gi S 192 27).toNat = k by omega]; exact hb
    · have ck : q_cm S t k := ⟨by omega, c3, by omega, c5⟩
      refine pc_if (fun c6 => ?_) (fun c6 => pc_chk (fun _ => pc_chk (fun _ => pc_chk (fun _ => pc_chk (fun _ => pc_chk (fun _ => pc_chk (fun _ => pc_if (fun c7 => go (by omega) best (q_best_keep hb c6 c7)) (fun c7 => ?_))))))))
      · unfold f_M_moveOf_98
        exact go (by omega) (k : Int) (q_best_take hb ck (.inl c6))
      · unfold f_M_moveOf_98
        exact go (by omega) (k : Int) (q_best_take hb ck (.inr (by unfold q_ln; omega)))
theorem pc_moveOf {b : Nat} (S : SS) (hC : MX b S) (t : Nat) : pc (f_M_moveOf S (t : Int)) (fun r => q_best (gi S 192 27).toNat (q_cm S t) (q_ln S) r) := by
  have b27 := mx_192_27 hC
  exact pcl_moveOf S hC t FU (-1) 0 q_best_0 (by omega)
theorem pcl_turnAt {b : Nat} (S : SS) (hC : MX b S) (v1 v2 v3 : Int) : ∀ (n : Nat) (best : Int) (k : Nat), q_best k (q_ct S v1 v2 v3) (fun j => - gi S 203 j) best → (k : Int) ≤ gi S 192 27 → pc (f_M_turnAt_6 S v1 v2 v3 n best (k : Int)) (fun r => q_best (gi S 192 27).toNat (q_ct S v1 v2 v3) (fun j => - gi S 203 j) r) := by
  intro n
  induction n with
  | zero => intro best k _ _ r e; exact absurd e (by simp [f_M_turnAt_6])
  | succ n ih =>
    intro best k hb hk
    show pc (f_M_turnAt_6_b S v1 v2 v3 (f_M_turnAt_6 S v1 v2 v3 n) best (k : Int)) _
    have b27 := mx_192_27 hC
    have go : (k : Int) < gi S 192 27 → ∀ best', q_best (k + 1) (q_ct S v1 v2 v3) (fun j => - gi S 203 j) best' → pc (f_M_turnAt_98 S v1 v2 v3 (f_M_turnAt_6 S v1 v2 v3 n) best' (k : Int)) (fun r => q_best (gi S 192 27).toNat (q_ct S v1 v2 v3) (fun j => - gi S 203 j) r) := by
      intro hlt best' hb'
      unfold f_M_turnAt_98
      refine pc_chk (fun _ => ?_)
      rw [show (k : Int) + 1 = ((k + 1 : Nat) : Int) by omega]
      exact ih best' (k + 1) hb' (by omega)
    have b214 := mx_214 hC k
    unfold f_M_turnAt_6_b
    rw [Int.toNat_natCast]
    refine pc_if (fun c => pc_some ?_) (fun c => pc_chk (fun _ => pc_if (fun c2 => go (by omega) best (q_best_skip hb (fun q => by have := q.1; omega))) (fun c2 => pc_chk (fun _ => pc_if (fun c3 => pc_chk (fun _ => pc_if (fun c4 => pc_chk (fun _ => pc_if (fun c5 => go (by omega) best (q_best_skip hb (fun q => by have := q.2.2.2.1; omega))) (fun c5 => pc_b1 (R := fun r => f_M_moveOf S (k : Int) = some r) (fun r e => e) (fun r6 e6 => pc_if (fun c6 => ?_) (fun c6 => go (by omega) best (q_best_skip hb (fun q => ?_)))) ))) (fun c4 => go (by omega) best (q_best_skip hb (fun q => c4 q.2.2.1))))) (fun c3 => go (by omega) best (q_best_skip hb (fun q => c3 q.2.1)))))))
    · rw [show (gi S 192 27).toNat = k by omega]; exact hb
    · have ck : q_ct S v1 v2 v3 k := ⟨by omega, c3, c4, by omega, by rw [e6, c6]⟩
      refine pc_if (fun c7 => ?_) (fun c7 => pc_chk (fun _ => pc_chk (fun _ => pc_if (fun c8 => go (by omega) best (q_best_keep hb c7 (by omega))) (fun c8 => ?_))))
      · unfold f_M_turnAt_94
        exact go (by omega) (k : Int) (q_best_take hb ck (.inl c7))
      · unfold f_M_turnAt_94
        exact go (by omega) (k : Int) (q_best_take hb ck (.inr (by omega)))
    · have := q.2.2.2.2
      rw [e6] at this
      cases this
      exact c6 rfl
theorem pc_turnAt {b : Nat} (S : SS) (hC : MX b S) (v1 v2 v3 : Int) : pc (f_M_turnAt S v1 v2 v3) (fun r => q_best (gi S 192 27).toNat (q_ct S v1 v2 v3) (fun j => - gi S 203 j) r) := by
  have b27 := mx_192_27 hC
  exact pcl_turnAt S hC v1 v2 v3 FU (-1) 0 q_best_0 (by omega)
/-- all stays but what judging writes -/
def q_fj (S S1 : SS) : Prop := S1.2 = S.2 ∧ ∀ r k, r ≠ 212 → r ≠ 213 → gi S1 r k = gi S r k
theorem q_fj_refl (S : SS) : q_fj S S := ⟨rfl, fun _ _ _ _ => rfl⟩
theorem q_fj_si {S S1 : SS} (h : q_fj S S1) {r k : Nat} {v : Int} (hr : r = 212 ∨ r = 213) : q_fj S (si S1 r k v) := by
  refine ⟨h.1, fun r' k' h1 h2 => ?_⟩
  rw [gi_si, if_neg (by omega)]; exact h.2 r' k' h1 h2
theorem q_fj_trans {S S1 S2 : SS} (h : q_fj S S1) (h2 : q_fj S1 S2) : q_fj S S2 := ⟨h2.1.trans h.1, fun r k a b => (h2.2 r k a b).trans (h.2 r k a b)⟩
theorem q_fj_md {S S1 : SS} (h : q_fj S S1) : q_md S1 = q_md S := by
  funext j k
  unfold q_md
  rw [h.2 199 k (by decide) (by decide), h.2 201 k (by decide) (by decide), h.2 202 k (by decide) (by decide), h.2 203 k (by decide) (by decide), h.2 214 k (by decide) (by decide)]
def q_jd (S : SS) : Prop := ∀ k : Nat, (k : Int) < gi S 192 27 → gi S 212 k = 0 → gi S 199 k ≠ 5 ∧ ∀ o : Nat, (o : Int) < gi S 192 27 → o ≠ k → gi S 212 o = 0 → q_nm (q_md S) k o
noncomputable def cif {α : Type} (c : Prop) (a b : α) : α := @ite α c (Classical.propDecidable c) a b
theorem cif_pos {α : Type} {c : Prop} {a b : α} (h : c) : cif c a b = a := by unfold cif; exact if_pos h
theorem cif_neg {α : Type} {c : Prop} {a b : α} (h : ¬ c) : cif c a b = b := by unfold cif; exact if_neg h
/-- judging, pure: one mark, all marks of a rank, all ranks -/
noncomputable def j_one (nm : Nat → Nat → Prop) (n k : Nat) (st : Nat → Int) : Nat → Int := fun j => cif (j = k ∧ ∀ o, o < n → st o = 0 → nm k o) 0 (st j)
noncomputable def j_k (nm : Nat → Nat → Prop) (n : Nat) (rk : Nat → Int) (r : Int) : Nat → Nat → (Nat → Int) → (Nat → Int)
  | 0, _, st => st
  | c + 1, k, st => j_k nm n rk r c (k + 1) (cif (st k = 1 ∧ rk k = r) (j_one nm n k st) st)
noncomputable def j_r (nm : Nat → Nat → Prop) (n : Nat) (rk : Nat → Int) : Nat → Int → (Nat → Int) → (Nat → Int)
  | 0, _, st => st
  | c + 1, r, st => j_r nm n rk c (r + 1) (j_k nm n rk r n 0 st)
def j_ok (nm : Nat → Nat → Prop) (n : Nat) (bad : Nat → Prop) (st : Nat → Int) : Prop := ∀ k, k < n → st k = 0 ∨ st k = 1 → ¬ bad k ∧ (st k = 0 → ∀ o, o < n → o ≠ k → st o = 0 → nm k o)
theorem j_one_ok {nm : Nat → Nat → Prop} (hs : ∀ k o, nm k o → nm o k) {n : Nat} {bad : Nat → Prop} {k : Nat} {st : Nat → Int} (h : j_ok nm n bad st) (h1 : st k = 1) : j_ok nm n bad (j_one nm n k st) := by
  by_cases e : ∀ o, o < n → st o = 0 → nm k o
  · intro j hj h0
    unfold j_one at h0 ⊢
    by_cases ej : j = k
    · rw [cif_pos ⟨ej, e⟩]
      have := h j hj (.inr (by rw [ej]; exact h1))
      refine ⟨this.1, fun _ o ho hne h2 => ?_⟩
      rw [cif_neg (by intro q; exact hne (q.1.trans ej.symm))] at h2
      rw [ej]; exact e o ho h2
    · rw [cif_neg (by intro q; exact ej q.1)] at h0 ⊢
      have := h j hj h0
      refine ⟨this.1, fun h3 o ho hne h2 => ?_⟩
      by_cases eo : o = k
      · rw [eo]; exact hs _ _ (e j hj h3)
      · rw [cif_neg (by intro q; exact eo q.1)] at h2
        exact this.2 h3 o ho hne h2
  · have : j_one nm n k st = st := by
      funext j; unfold j_one; rw [cif_neg (by intro q; exact e q.2)]
    rw [this]; exact h
theorem j_k_ok {nm : Nat → Nat → Prop} (hs : ∀ k o, nm k o → nm o k) {n : Nat} {bad : Nat → Prop} {rk : Nat → Int} {r : Int} : ∀ (c k : Nat) (st : Nat → Int), j_ok nm n bad st → j_ok nm n bad (j_k nm n rk r c k st) := by
  intro c
  induction c with
  | zero => intro k st h; exact h
  | succ c ih =>
    intro k st h
    rw [j_k]
    refine ih (k + 1) _ ?_
    by_cases e : st k = 1 ∧ rk k = r
    · rw [cif_pos e]; exact j_one_ok hs h e.1
    · rw [cif_neg e]; exact h
theorem j_r_ok {nm : Nat → Nat → Prop} (hs : ∀ k o, nm k o → nm o k) {n : Nat} {bad : Nat → Prop} {rk : Nat → Int} : ∀ (c : Nat) (r : Int) (st : Nat → Int), j_ok nm n bad st → j_ok nm n bad (j_r nm n rk c r st) := by
  intro c
  induction c with
  | zero => intro r st h; exact h
  | succ c ih => intro r st h; rw [j_r]; exact ih (r + 1) _ (j_k_ok hs n 0 st h)
/-- what the reference's marks are before they are judged -/
def m_ov (S : SS) (k : Nat) : Prop := ∃ s : Nat, k < s ∧ (s : Int) < gi S 192 27 ∧ gi S 199 s = 5 ∧ gi S 201 s = (k : Int)
noncomputable def m_s0 (S : SS) (k : Nat) : Int := if gi S 199 k = 5 then 4 else cif (m_ov S k ∨ (gi S 207 k ≠ 0 ∧ gi S 205 k = 2)) 2 (if gi S 207 k ≠ 0 ∧ gi S 205 k = 0 then 3 else 1)
abbrev m_rk (S : SS) (k : Nat) : Int := gi S 209 (gi S 200 k).toNat
noncomputable def m_st (S : SS) : Nat → Int := j_r (q_nm (q_md S)) (gi S 192 27).toNat (m_rk S) 10 0 (m_s0 S)
/-- as judged so far: states st, and what isn't judged yet is overruled by none -/
def q_js (S0 S : SS) (st : Nat → Int) (r : Int) (k : Nat) : Prop := q_fj S0 S ∧ (∀ j : Nat, (j : Int) < gi S0 192 27 → gi S 212 j = st j) ∧ (∀ j : Nat, (j : Int) < gi S0 192 27 → st j = 1 → (r < m_rk S0 j ∨ (r = m_rk S0 j ∧ k ≤ j)) → gi S 213 j = -1)
theorem pcl_judgeOne {b : Nat} (S0 : SS) (k : Nat) (hk : (k : Int) < gi S0 192 27) (st : Nat → Int) (h1 : st k = 1) (r : Int) (hr : m_rk S0 k = r) : ∀ (n : Nat) (S : SS) (o : Nat), MX b S → q_fj S0 S → (o : Int) ≤ gi S0 192 27 → (∀ j : Nat, (j : Int) < gi S0 192 27 → gi S 212 j = st j) → (∀ j : Nat, (j : Int) < gi S0 192 27 → j ≠ k → st j = 1 → (r < m_rk S0 j ∨ (r = m_rk S0 j ∧ k ≤ j)) → gi S 213 j = -1) → ((gi S 213 k = -1 ∧ ∀ j : Nat, j < o → st j = 0 → q_nm (q_md S0) k j) ∨ (gi S 213 k ≠ -1 ∧ ∃ j : Nat, (j : Int) < gi S0 192 27 ∧ st j = 0 ∧ ¬ q_nm (q_md S0) k j)) → pc (f_M_judgeOne_2 (k : Int) n S (o : Int)) (fun S1 => q_js S0 S1 (j_one (q_nm (q_md S0)) (gi S0 192 27).toNat k st) r (k + 1)) := by
  intro n
  induction n with
  | zero => intro S o _ _ _ _ _ _ r e; exact absurd e (by simp [f_M_judgeOne_2])
  | succ n ih =>
    intro S o hC hf ho hs hov hq
    show pc (f_M_judgeOne_2_b (k : Int) (f_M_judgeOne_2 (k : Int) n) S (o : Int)) _
    have b27 := mx_192_27 hC
    have e27 : gi S 192 27 = gi S0 192 27 := hf.2 192 27 (by decide) (by decide)
    have emd := q_fj_md hf
    have fin : (gi S 213 k = -1 → ∀ j : Nat, (j : Int) < gi S0 192 27 → st j = 0 → q_nm (q_md S0) k j) → pc (f_M_judgeOne_51 (k : Int) S) (fun S1 => q_js S0 S1 (j_one (q_nm (q_md S0)) (gi S0 192 27).toNat k st) r (k + 1)) := by
      intro hfin
      unfold f_M_judgeOne_51
      rw [Int.toNat_natCast]
      refine pc_chk (fun _ => pc_if (fun c => pc_chk (fun _ => pc_lt (fun S2 e2 => pc_some ?_))) (fun c => pc_some ?_))
      · have all : ∀ o, o < (gi S0 192 27).toNat → st o = 0 → q_nm (q_md S0) k o := fun o ho => hfin c o (by omega)
        refine ⟨by rw [e2]; exact q_fj_si hf (.inl rfl), fun j hj => ?_, fun j hj hj1 hjr => ?_⟩
        · rw [e2, gi_si]
          unfold j_one
          by_cases e : j = k
          · rw [if_pos ⟨rfl, e⟩, cif_pos ⟨e, all⟩]
          · rw [if_neg (by intro q; exact e q.2), cif_neg (by intro q; exact e q.1)]; exact hs j hj
        · unfold j_one at hj1
          have e : j ≠ k := by
            intro e; rw [cif_pos ⟨e, all⟩] at hj1; exact absurd hj1 (by decide)
          rw [cif_neg (by intro q; exact e q.1)] at hj1
          rw [e2, gi_si, if_neg (by intro q; exact absurd q.1 (by decide))]
          exact hov j hj e hj1 (by omega)
      · rcases hq with hq | hq
        · exact absurd hq.1 c
        obtain ⟨_, o', ho1, ho2, ho3⟩ := hq
        have ej : j_one (q_nm (q_md S0)) (gi S0 192 27).toNat k st = st := by
          funext j; unfold j_one
          rw [cif_neg]
          intro q; exact ho3 (q.2 o' (by omega) ho2)
        rw [ej]
        clear ho3
        exact ⟨hf, hs, fun j hj hj1 hjr => hov j hj (by intro e; rw [e] at hjr; omega) hj1 (by omega)⟩
    have go : ∀ S' : SS, MX b S' → q_fj S0 S' → (∀ j : Nat, (j : Int) < gi S0 192 27 → gi S' 212 j = st j) → (∀ j : Nat, (j : Int) < gi S0 192 27 → j ≠ k → st j = 1 → (r < m_rk S0 j ∨ (r = m_rk S0 j ∧ k ≤ j)) → gi S' 213 j = -1) → (o : Int) < gi S0 192 27 → ((gi S' 213 k = -1 ∧ ∀ j : Nat, j < o + 1 → st j = 0 → q_nm (q_md S0) k j) ∨ (gi S' 213 k ≠ -1 ∧ ∃ j : Nat, (j : Int) < gi S0 192 27 ∧ st j = 0 ∧ ¬ q_nm (q_md S0) k j)) → pc (f_M_judgeOne_45 (k : Int) (f_M_judgeOne_2 (k : Int) n) S' (o : Int)) (fun S1 => q_js S0 S1 (j_one (q_nm (q_md S0)) (gi S0 192 27).toNat k st) r (k + 1)) := by
      intro S' hC' hf' hs' hov' hlt hq'
      unfold f_M_judgeOne_45
      refine pc_chk (fun _ => ?_)
      rw [show (o : Int) + 1 = ((o + 1 : Nat) : Int) by omega]
      exact ih S' (o + 1) hC' hf' (by omega) hs' hov' hq'
    unfold f_M_judgeOne_2_b
    rw [Int.toNat_natCast, Int.toNat_natCast, e27]
    refine pc_if (fun c => fin (fun h j hj => ?_)) (fun c => pc_chk (fun _ => pc_if (fun c2 => ?_) (fun c2 => fin (fun h => absurd h c2))))
    · rcases hq with hq | hq
      · exact hq.2 j (by omega)
      · exact absurd h hq.1
    · have hq1 : ∀ j : Nat, j < o → st j = 0 → q_nm (q_md S0) k j := by
        rcases hq with hq | hq
        · exact hq.2
        · exact absurd c2 hq.1
      refine pc_chk (fun _ => pc_if (fun c3 => pc_b1 (pc_doMeet S k o) (fun r4 h4 => pc_if (fun c4 => ?_) (fun c4 => pc_chk (fun _ => pc_lt (fun S6 e6 => ?_))))) (fun c3 => ?_))
      · refine go S hC hf hs hov (by omega) (.inl ⟨c2, fun j hj h0 => ?_⟩)
        by_cases e : j = o
        · have := z01_a h4 c4; rw [emd] at this; rw [e]; exact this
        · exact hq1 j (by omega) h0
      · have nn := z01_b h4 c4
        rw [emd] at nn
        have h40 : (o : Int) < 40 := by omega
        refine go S6 (by rw [e6]; exact ms_213 hC (by omega) (by omega)) (by rw [e6]; exact q_fj_si hf (.inr rfl)) (fun j hj => ?_) (fun j hj hne h1j hr => ?_) (by omega) (.inr ⟨?_, o, by omega, ?_, nn⟩)
        · rw [e6, gi_si, if_neg (by intro q; exact absurd q.1 (by decide))]; exact hs j hj
        · rw [e6, gi_si, if_neg (by intro q; exact hne q.2)]; exact hov j hj hne h1j hr
        · rw [e6, gi_si, if_pos ⟨rfl, rfl⟩]; omega
        · rw [← hs o (by omega)]; exact c3
      · refine go S hC hf hs hov (by omega) (.inl ⟨c2, fun j hj h0 => ?_⟩)
        by_cases e : j = o
        · rw [e] at h0
          exact absurd ((hs o (by omega)).trans h0) c3
        · exact hq1 j (by omega) h0
theorem pc_and {α : Type} {P R : α → Prop} {x : Option α} (h : pc x P) (h2 : pc x R) : pc x (fun r => P r ∧ R r) := fun r e => ⟨h r e, h2 r e⟩
theorem pcl_judge_154 {b : Nat} (S0 : SS) (r : Int) (kf : SS → Int → Option SS) (P : SS → Prop) : ∀ (n c : Nat) (S : SS) (k : Nat) (st : Nat → Int), k + c = (gi S0 192 27).toNat → MX b S → q_js S0 S st r k → (∀ S', MX b S' → q_js S0 S' (j_k (q_nm (q_md S0)) (gi S0 192 27).toNat (m_rk S0) r c k st) r (gi S0 192 27).toNat → pc (kf S' (r + 1)) P) → pc (f_M_judge_154 kf n S r (k : Int)) P := by
  intro n
  induction n with
  | zero => intro c S k st _ _ _ _ r e; exact absurd e (by simp [f_M_judge_154])
  | succ n ih =>
    intro c S k st hc hC hj hk
    show pc (f_M_judge_154_b kf (f_M_judge_154 kf n) S r (k : Int)) P
    have b27 := mx_192_27 hC
    have e27 : gi S 192 27 = gi S0 192 27 := hj.1.2 192 27 (by decide) (by decide)
    have e200 : gi S 200 k = gi S0 200 k := hj.1.2 200 k (by decide) (by decide)
    have e209 : gi S 209 (gi S0 200 k).toNat = m_rk S0 k := hj.1.2 209 _ (by decide) (by decide)
    unfold f_M_judge_154_b
    rw [Int.toNat_natCast, e27, e200, e209]
    refine pc_if (fun c1 => pc_chk (fun _ => ?_)) (fun c1 => ?_)
    · have : c = 0 := by omega
      subst this
      rw [show (gi S0 192 27).toNat = k by omega] at hk
      exact hk S hC hj
    · obtain ⟨c, rfl⟩ : ∃ c', c = c' + 1 := ⟨c - 1, by omega⟩
      have go : ∀ S' st', MX b S' → q_js S0 S' st' r (k + 1) → st' = cif (st k = 1 ∧ m_rk S0 k = r) (j_one (q_nm (q_md S0)) (gi S0 192 27).toNat k st) st → pc (f_M_judge_192 kf (f_M_judge_154 kf n) S' r (k : Int)) P := by
        intro S' st' hC' hj' e
        unfold f_M_judge_192
        refine pc_chk (fun _ => ?_)
        rw [show (k : Int) + 1 = ((k + 1 : Nat) : Int) by omega]
        refine ih c S' (k + 1) st' (by omega) hC' hj' (fun S'' a d => hk S'' a ?_)
        rw [j_k, ← e]; exact d
      have skip : ¬ (st k = 1 ∧ m_rk S0 k = r) → pc (f_M_judge_192 kf (f_M_judge_154 kf n) S r (k : Int)) P := by
        intro hn
        refine go S st hC ⟨hj.1, hj.2.1, fun j a b d => hj.2.2 j a b ?_⟩ (by rw [cif_neg hn])
        rcases d with d | d
        · exact .inl d
        · exact .inr ⟨d.1, by omega⟩
      have es := hj.2.1 k (by omega)
      refine pc_chk (fun _ => pc_if (fun c2 => pc_chk (fun _ => pc_chk (fun _ => pc_if (fun c3 => ?_) (fun c3 => skip (fun q => c3 q.2))))) (fun c2 => skip (fun q => c2 (es.trans q.1))))
      have h1 : st k = 1 := es.symm.trans c2
      refine pc_b1 (pc_and (ok_true (ok_M_judgeOne S (k : Int) hC (by omega))) (pcl_judgeOne (b := b) S0 k (by omega) st h1 r c3 FU S 0 hC hj.1 (by omega) hj.2.1 (fun j a e d f => hj.2.2 j a d f) (.inl ⟨hj.2.2 k (by omega) h1 (.inr ⟨c3.symm, by omega⟩), fun j q => absurd q (Nat.not_lt_zero j)⟩))) (fun S6 h6 => ?_)
      exact go S6 _ h6.1.1 h6.2 (by rw [cif_pos ⟨h1, c3⟩])
theorem pcl_judge_146 {b : Nat} (S0 : SS) : ∀ (n c : Nat) (S : SS) (r : Int) (st : Nat → Int), r + (c : Int) = 10 → MX b S → q_js S0 S st r 0 → pc (f_M_judge_146 n S r) (fun S1 => q_fj S0 S1 ∧ ∀ j : Nat, (j : Int) < gi S0 192 27 → gi S1 212 j = j_r (q_nm (q_md S0)) (gi S0 192 27).toNat (m_rk S0) c r st j) := by
  intro n
  induction n with
  | zero => intro c S r st _ _ _ q e; exact absurd e (by simp [f_M_judge_146])
  | succ n ih =>
    intro c S r st hc hC hj
    show pc (f_M_judge_146_b (f_M_judge_146 n) S r) _
    unfold f_M_judge_146_b
    refine pc_if (fun c1 => pc_some ?_) (fun c1 => ?_)
    · have : c = 0 := by omega
      subst this
      exact ⟨hj.1, hj.2.1⟩
    · obtain ⟨c, rfl⟩ : ∃ c', c = c' + 1 := ⟨c - 1, by omega⟩
      refine pcl_judge_154 (b := b) S0 r (f_M_judge_146 n) _ FU (gi S0 192 27).toNat S 0 st (by omega) hC hj (fun S' hC' hj' => ?_)
      refine ih c S' (r + 1) _ (by omega) hC' ⟨hj'.1, hj'.2.1, fun j a d e => hj'.2.2 j a d (.inl ?_)⟩
      omega
def q_j1 (S0 S : SS) (k : Nat) : Prop := q_fj S0 S ∧ ∀ j : Nat, j < k → gi S 212 j = m_s0 S0 j ∧ (m_s0 S0 j = 1 → gi S 213 j = -1)
theorem pcl_judge_24 {b : Nat} (S0 : SS) (k : Nat) (hk : (k : Int) < gi S0 192 27) (kf : SS → Int → Option SS) (P : SS → Prop) (hkf : ∀ S', MX b S' → q_j1 S0 S' (k + 1) → pc (kf S' ((k + 1 : Nat) : Int)) P) : ∀ (n : Nat) (S : SS) (s : Int), (k : Int) ≤ s → s < gi S0 192 27 → MX b S → q_j1 S0 S k → (gi S 213 k ≠ -1 ↔ ∃ s' : Nat, s < (s' : Int) ∧ (s' : Int) < gi S0 192 27 ∧ gi S0 199 s' = 5 ∧ gi S0 201 s' = (k : Int)) → pc (f_M_judge_24 kf n S (k : Int) s) P := by
  intro n
  induction n with
  | zero => intro S s _ _ _ _ _ r e; exact absurd e (by simp [f_M_judge_24])
  | succ n ih =>
    intro S s h1 h2 hC hj hq
    show pc (f_M_judge_24_b kf (f_M_judge_24 kf n) S (k : Int) s) P
    have b27 := mx_192_27 hC
    have e27 : gi S 192 27 = gi S0 192 27 := hj.1.2 192 27 (by decide) (by decide)
    have e199 : ∀ j, gi S 199 j = gi S0 199 j := fun j => hj.1.2 199 j (by decide) (by decide)
    have e201 : ∀ j, gi S 201 j = gi S0 201 j := fun j => hj.1.2 201 j (by decide) (by decide)
    have e207 : ∀ j, gi S 207 j = gi S0 207 j := fun j => hj.1.2 207 j (by decide) (by decide)
    have e205 : ∀ j, gi S 205 j = gi S0 205 j := fun j => hj.1.2 205 j (by decide) (by decide)
    have fin : ∀ v, 0 ≤ v → v ≤ 4 → v = m_s0 S0 k → (v = 1 → gi S 213 k = -1) → pc (f_M_judge_137 kf S (k : Int) v (k : Int)) P := by
      intro v v1 v2 ev hv
      unfold f_M_judge_137
      rw [Int.toNat_natCast]
      refine pc_chk (fun _ => pc_lt (fun S1 e1 => pc_chk (fun _ => ?_)))
      rw [show (k : Int) + 1 = ((k + 1 : Nat) : Int) by omega]
      refine hkf S1 (by rw [e1]; exact ms_212 hC v1 v2) ⟨by rw [e1]; exact q_fj_si hj.1 (.inl rfl), fun j hjk => ?_⟩
      have e213 : gi S1 213 j = gi S 213 j := by rw [e1, gi_si, if_neg (fun q => absurd q.1 (by decide))]
      rw [e213, e1, gi_si]
      by_cases e : j = k
      · rw [if_pos ⟨rfl, e⟩, e]
        exact ⟨ev, fun q => hv (ev.trans q)⟩
      · rw [if_neg (fun q => e q.2)]
        exact hj.2 j (by omega)
    unfold f_M_judge_24_b
    rw [Int.toNat_natCast, e199, e207, e205]
    refine pc_if (fun c1 => pc_chk (fun _ => pc_if (fun c2 => ?_) (fun c2 => pc_chk (fun _ => ?_)))) (fun c1 => pc_chk (fun _ => ?_))
    · refine fin 4 (by decide) (by decide) ?_ (fun q => absurd q (by decide))
      unfold m_s0; rw [if_pos c2]
    · have es : s = (k : Int) := by omega
      have ov : gi S 213 k ≠ -1 ↔ m_ov S0 k := by
        rw [hq, es]; unfold m_ov
        constructor
        · rintro ⟨s', a, d⟩; exact ⟨s', by omega, d⟩
        · rintro ⟨s', a, d⟩; exact ⟨s', by omega, d⟩
      have f2 : m_ov S0 k ∨ (gi S0 207 k ≠ 0 ∧ gi S0 205 k = 2) → pc (f_M_judge_110 kf S (k : Int) (k : Int)) P := by
        intro h
        unfold f_M_judge_110
        refine fin 2 (by decide) (by decide) ?_ (fun q => absurd q (by decide))
        unfold m_s0; rw [if_neg c2, cif_pos h]
      have f3 : gi S 213 k = -1 → ¬ (m_ov S0 k ∨ (gi S0 207 k ≠ 0 ∧ gi S0 205 k = 2)) → pc (f_M_judge_114 kf S (k : Int) (k : Int)) P := by
        intro h0 h
        unfold f_M_judge_114
        rw [Int.toNat_natCast, e207, e205]
        refine pc_chk (fun _ => pc_if (fun c3 => ?_) (fun c3 => pc_chk (fun _ => pc_if (fun c4 => ?_) (fun c4 => ?_))))
        · unfold f_M_judge_136
          refine fin 1 (by decide) (by decide) ?_ (fun _ => h0)
          unfold m_s0; rw [if_neg c2, cif_neg h, if_neg (fun q => q.1 c3)]
        · refine fin 3 (by decide) (by decide) ?_ (fun q => absurd q (by decide))
          unfold m_s0; rw [if_neg c2, cif_neg h, if_pos ⟨c3, c4⟩]
        · unfold f_M_judge_136
          refine fin 1 (by decide) (by decide) ?_ (fun _ => h0)
          unfold m_s0; rw [if_neg c2, cif_neg h, if_neg (fun q => c4 q.2)]
      refine pc_if (fun c3 => ?_) (fun c3 => f2 (.inl (ov.1 c3)))
      have nov : ¬ m_ov S0 k := fun q => ov.2 q c3
      refine pc_chk (fun _ => pc_if (fun c4 => f3 c3 (fun q => q.elim nov (fun q => q.1 c4))) (fun c4 => pc_chk (fun _ => pc_if (fun c5 => f2 (.inr ⟨c4, c5⟩)) (fun c5 => f3 c3 (fun q => q.elim nov (fun q => c5 q.2))))))
    · have st : s = ((s.toNat : Nat) : Int) := by omega
      have go : ∀ S', MX b S' → q_j1 S0 S' k → (gi S' 213 k ≠ -1 ↔ ∃ s' : Nat, s - 1 < (s' : Int) ∧ (s' : Int) < gi S0 192 27 ∧ gi S0 199 s' = 5 ∧ gi S0 201 s' = (k : Int)) → pc (f_M_judge_56 kf (f_M_judge_24 kf n) S' (k : Int) s) P := by
        intro S' a d e
        unfold f_M_judge_56
        refine pc_chk (fun _ => ?_)
        rw [show s + (-1) = s - 1 by omega]
        exact ih S' (s - 1) (by omega) (by omega) a d e
      have same : ¬ (gi S0 199 s.toNat = 5 ∧ gi S0 201 s.toNat = (k : Int)) → (gi S 213 k ≠ -1 ↔ ∃ s' : Nat, s - 1 < (s' : Int) ∧ (s' : Int) < gi S0 192 27 ∧ gi S0 199 s' = 5 ∧ gi S0 201 s' = (k : Int)) := by
        intro hn
        rw [hq]
        constructor
        · rintro ⟨s', a, d⟩; exact ⟨s', by omega, d⟩
        · rintro ⟨s', a, d, e, f⟩
          refine ⟨s', ?_, d, e, f⟩
          have : s' ≠ s.toNat := by intro q; rw [q] at e f; exact hn ⟨e, f⟩
          omega
      rw [e199]
      refine pc_if (fun c2 => pc_chk (fun _ => ?_)) (fun c2 => go S hC hj (same (fun q => c2 q.1)))
      rw [e201]
      refine pc_if (fun c3 => pc_chk (fun _ => pc_lt (fun S7 e7 => ?_))) (fun c3 => go S hC hj (same (fun q => c3 q.2)))
      refine go S7 (by rw [e7]; exact ms_213 hC (by omega) (by omega)) ⟨by rw [e7]; exact q_fj_si hj.1 (.inr rfl), fun j hjk => ?_⟩ ?_
      · rw [e7, gi_si, gi_si, if_neg (fun q => absurd q.1 (by decide)), if_neg (fun q => by omega)]
        exact hj.2 j hjk
      · rw [e7, gi_si, if_pos ⟨rfl, rfl⟩]
        exact ⟨fun _ => ⟨s.toNat, by omega, by omega, c2, c3⟩, fun _ => by omega⟩
theorem pcl_judge_2 {b : Nat} (S0 : SS) : ∀ (n : Nat) (S : SS) (k : Nat), (k : Int) ≤ gi S0 192 27 → MX b S → q_j1 S0 S k → pc (f_M_judge_2 n S (k : Int)) (fun S1 => q_fj S0 S1 ∧ ∀ j : Nat, (j : Int) < gi S0 192 27 → gi S1 212 j = m_st S0 j) := by
  intro n
  induction n with
  | zero => intro S k _ _ _ r e; exact absurd e (by simp [f_M_judge_2])
  | succ n ih =>
    intro S k hk hC hj
    show pc (f_M_judge_2_b (f_M_judge_2 n) S (k : Int)) _
    have b27 := mx_192_27 hC
    have e27 : gi S 192 27 = gi S0 192 27 := hj.1.2 192 27 (by decide) (by decide)
    unfold f_M_judge_2_b
    rw [Int.toNat_natCast, e27]
    refine pc_if (fun c1 => ?_) (fun c1 => pc_chk (fun _ => pc_lt (fun S2 e2 => pc_chk (fun _ => ?_))))
    · exact pcl_judge_146 (b := b) S0 FU 10 S 0 (m_s0 S0) (by omega) hC ⟨hj.1, fun j hjj => (hj.2 j (by omega)).1, fun j hjj h1 _ => (hj.2 j (by omega)).2 h1⟩
    · have hC2 : MX b S2 := by rw [e2]; exact ms_213 hC (by decide) (by decide)
      have hj2 : q_j1 S0 S2 k := by
        refine ⟨by rw [e2]; exact q_fj_si hj.1 (.inr rfl), fun j hjk => ?_⟩
        rw [e2, gi_si, gi_si, if_neg (fun q => absurd q.1 (by decide)), if_neg (fun q => by omega)]
        exact hj.2 j hjk
      have e272 : gi S2 192 27 = gi S0 192 27 := hj2.1.2 192 27 (by decide) (by decide)
      rw [e272]
      refine pcl_judge_24 (b := b) S0 k (by omega) (f_M_judge_2 n) _ (fun S' a d => ih S' (k + 1) (by omega) a d) FU S2 (gi S0 192 27 - 1) (by omega) (by omega) hC2 hj2 ?_
      rw [e2, gi_si, if_pos ⟨rfl, rfl⟩]
      exact ⟨fun q => absurd rfl q, fun ⟨s', a, d, _⟩ => by omega⟩
theorem pc_judge {b : Nat} (S : SS) (hC : MX b S) : pc (f_M_judge S) (fun S1 => q_fj S S1 ∧ ∀ j : Nat, (j : Int) < gi S 192 27 → gi S1 212 j = m_st S j) := by
  have b27 := mx_192_27 hC
  exact pcl_judge_2 (b := b) S FU S 0 (by omega) hC ⟨q_fj_refl S, fun j h => absurd h (Nat.not_lt_zero j)⟩
theorem m_st_ok (S : SS) : j_ok (q_nm (q_md S)) (gi S 192 27).toNat (fun k => gi S 199 k = 5) (m_st S) := by
  refine j_r_ok (fun k o h => q_nm_symm h) 10 0 (m_s0 S) (fun k hk h => ?_)
  unfold m_s0 at h ⊢
  by_cases e : gi S 199 k = 5
  · rw [if_pos e] at h; exact absurd h (by decide)
  · refine ⟨e, fun h0 => ?_⟩
    rw [if_neg e] at h0
    by_cases e2 : m_ov S k ∨ (gi S 207 k ≠ 0 ∧ gi S 205 k = 2)
    · rw [cif_pos e2] at h0; exact absurd h0 (by decide)
    · rw [cif_neg e2] at h0
      split at h0 <;> exact absurd h0 (by decide)
/-- the numbers of a mark are what its kind asks -/
def m_val (S : SS) (k : Nat) : Prop :=
  ((gi S 199 k = 0 ∨ gi S 199 k = 2) ∧ 0 ≤ gi S 201 k ∧ gi S 201 k ≤ gi S 202 k ∧ gi S 202 k < gi S 192 3)
  ∨ (gi S 199 k = 1 ∧ 0 ≤ gi S 201 k ∧ gi S 201 k ≤ gi S 192 3)
  ∨ (gi S 199 k = 3 ∧ 0 ≤ gi S 201 k ∧ gi S 201 k < gi S 202 k ∧ gi S 202 k ≤ gi S 203 k ∧ gi S 203 k < gi S 192 3)
  ∨ (gi S 199 k = 4 ∧ 0 ≤ gi S 201 k ∧ gi S 201 k ≤ gi S 202 k ∧ gi S 202 k < gi S 192 3 ∧ 0 ≤ gi S 203 k ∧ gi S 203 k ≤ gi S 192 3 ∧ (gi S 203 k < gi S 201 k ∨ gi S 202 k + 1 < gi S 203 k))
  ∨ (gi S 199 k = 5 ∧ 0 ≤ gi S 201 k ∧ gi S 201 k < (k : Int))
def NX (S : SS) : Prop := ∀ k : Nat, (k : Int) < gi S 192 27 → m_val S k
def m_dn (st : Nat → Int) : Nat → Nat
  | 0 => 0
  | k + 1 => m_dn st k + if st k = 0 then 1 else 0
def m_us (w : Int) (st : Nat → Int) (k : Nat) : Int := if st k = 0 ∧ ¬ (m_dn st k < 31 ∧ andi (shri w (m_dn st k : Int)) 1 = 1) then 1 else 0
/-- all stays but what is used -/
def q_f4 (S S1 : SS) : Prop := S1.2 = S.2 ∧ ∀ r k, r ≠ 214 → gi S1 r k = gi S r k
theorem q_f4_si {S S1 : SS} (h : q_f4 S S1) {k : Nat} {v : Int} : q_f4 S (si S1 214 k v) := by
  refine ⟨h.1, fun r' k' h1 => ?_⟩
  rw [gi_si, if_neg (by omega)]; exact h.2 r' k' h1
theorem pcl_use {b : Nat} (S0 : SS) (w : Int) : ∀ (n : Nat) (S : SS) (k : Nat), (k : Int) ≤ gi S0 192 27 → MX b S → q_f4 S0 S → (∀ j : Nat, j < k → gi S 214 j = m_us w (gi S0 212) j) → pc (f_M_use_8 w n S (m_dn (gi S0 212) k : Int) (k : Int)) (fun S1 => q_f4 S0 S1 ∧ ∀ j : Nat, (j : Int) < gi S0 192 27 → gi S1 214 j = m_us w (gi S0 212) j) := by
  intro n
  induction n with
  | zero => intro S k _ _ _ _ r e; exact absurd e (by simp [f_M_use_8])
  | succ n ih =>
    intro S k hk hC hf hu
    show pc (f_M_use_8_b w (f_M_use_8 w n) S (m_dn (gi S0 212) k : Int) (k : Int)) _
    have b27 := mx_192_27 hC
    have e27 : gi S 192 27 = gi S0 192 27 := hf.2 192 27 (by decide)
    have e212 : gi S 212 k = gi S0 212 k := hf.2 212 k (by decide)
    have go : ∀ (S' : SS) (d : Int), (k : Int) < gi S0 192 27 → MX b S' → q_f4 S0 S' → (∀ j : Nat, j < k → gi S' 214 j = gi S 214 j) → gi S' 214 k = m_us w (gi S0 212) k → d = (m_dn (gi S0 212) (k + 1) : Int) → pc (f_M_use_73 w (f_M_use_8 w n) S' d (k : Int)) (fun S1 => q_f4 S0 S1 ∧ ∀ j : Nat, (j : Int) < gi S0 192 27 → gi S1 214 j = m_us w (gi S0 212) j) := by
      intro S' d hlt hC' hf' h1 h2 hd
      unfold f_M_use_73
      refine pc_chk (fun _ => ?_)
      rw [hd, show (k : Int) + 1 = ((k + 1 : Nat) : Int) by omega]
      refine ih S' (k + 1) (by omega) hC' hf' (fun j hj => ?_)
      by_cases e : j = k
      · rw [e]; exact h2
      · rw [h1 j (by omega)]; exact hu j (by omega)
    have eq1 : ∀ (v : Int) (j : Nat), gi (si S 214 k v) 214 j = if j = k then v else gi S 214 j := by
      intro v j
      rw [gi_si]
      by_cases e : j = k
      · rw [if_pos ⟨rfl, e⟩, if_pos e]
      · rw [if_neg (fun q => e q.2), if_neg e]
    unfold f_M_use_8_b
    rw [Int.toNat_natCast, e27, e212]
    refine pc_if (fun c1 => pc_some ⟨hf, fun j hj => hu j (by omega)⟩) (fun c1 => pc_chk (fun _ => pc_if (fun c2 => ?_) (fun c2 => ?_)))
    · unfold f_M_use_35
      rw [Int.toNat_natCast]
      refine pc_chk (fun _ => pc_chk (fun _ => pc_lt (fun S2 e2 => pc_chk (fun _ => ?_))))
      have hC2 : MX b S2 := by rw [e2]; exact ms_214 hC (by decide) (by decide)
      have hf2 : q_f4 S0 S2 := by rw [e2]; exact q_f4_si hf
      have dn : m_dn (gi S0 212) (k + 1) = m_dn (gi S0 212) k + 1 := by rw [m_dn, if_pos c2]
      have k1 : gi S2 214 k = 1 := by rw [e2, eq1, if_pos rfl]
      have j1 : ∀ j : Nat, j < k → gi S2 214 j = gi S 214 j := fun j hj => by rw [e2, eq1, if_neg (by omega)]
      rw [k1]
      refine pc_if (fun c3 => absurd c3 (by decide)) (fun c3 => pc_if (fun c4 => ?_) (fun c4 => pc_if (fun c5 => pc_chk (fun _ => pc_lt (fun S6 e6 => ?_))) (fun c5 => ?_)))
      · unfold f_M_use_70
        refine pc_chk (fun _ => go S2 _ (by omega) hC2 hf2 j1 ?_ (by rw [dn]; omega))
        rw [k1]; unfold m_us; rw [if_pos ⟨c2, fun q => by omega⟩]
      · unfold f_M_use_70
        refine pc_chk (fun _ => go S6 _ (by omega) (by rw [e6]; exact ms_214 hC2 (by decide) (by decide)) (by rw [e6]; exact q_f4_si hf2) (fun j hj => ?_) ?_ (by rw [dn]; omega))
        · rw [e6, gi_si, if_neg (fun q => by omega)]; exact j1 j hj
        · rw [e6, gi_si, if_pos ⟨rfl, rfl⟩]; unfold m_us; rw [if_neg (fun q => q.2 ⟨by omega, c5⟩)]
      · unfold f_M_use_70
        refine pc_chk (fun _ => go S2 _ (by omega) hC2 hf2 j1 ?_ (by rw [dn]; omega))
        rw [k1]; unfold m_us; rw [if_pos ⟨c2, fun q => c5 q.2⟩]
    · unfold f_M_use_35
      rw [Int.toNat_natCast]
      refine pc_chk (fun _ => pc_chk (fun _ => pc_lt (fun S2 e2 => pc_chk (fun _ => ?_))))
      have hC2 : MX b S2 := by rw [e2]; exact ms_214 hC (by decide) (by decide)
      have hf2 : q_f4 S0 S2 := by rw [e2]; exact q_f4_si hf
      have dn : m_dn (gi S0 212) (k + 1) = m_dn (gi S0 212) k := by rw [m_dn, if_neg c2]; rfl
      have k0 : gi S2 214 k = 0 := by rw [e2, eq1, if_pos rfl]
      have j1 : ∀ j : Nat, j < k → gi S2 214 j = gi S 214 j := fun j hj => by rw [e2, eq1, if_neg (by omega)]
      rw [k0]
      refine pc_if (fun c3 => go S2 _ (by omega) hC2 hf2 j1 ?_ (by rw [dn])) (fun c3 => absurd rfl c3)
      rw [k0]; unfold m_us; rw [if_neg (fun q => c2 q.1)]
def q_fu (S S1 : SS) : Prop := S1.2 = S.2 ∧ ∀ r k, r ≠ 212 → r ≠ 213 → r ≠ 214 → gi S1 r k = gi S r k
theorem m_us_congr {w : Int} {a c : Nat → Int} {n : Nat} (h : ∀ j, j < n → a j = c j) : ∀ k, k < n → m_us w a k = m_us w c k := by
  have hd : ∀ k, k ≤ n → m_dn a k = m_dn c k := by
    intro k
    induction k with
    | zero => intro _; rfl
    | succ k ih => intro hk; rw [m_dn, m_dn, ih (by omega), h k (by omega)]
  intro k hk
  unfold m_us
  rw [hd k (by omega), h k hk]
theorem pc_use {b : Nat} (S : SS) (w : Int) (hC : MX b S) : pc (f_M_use S w) (fun S1 => q_fu S S1 ∧ (∀ j : Nat, (j : Int) < gi S 192 27 → gi S1 212 j = m_st S j ∧ gi S1 214 j = m_us w (m_st S) j)) := by
  unfold f_M_use
  refine pc_b1 (pc_and (ok_true (ok_M_judge S hC)) (pc_judge S hC)) (fun S1 h1 => ?_)
  have e27 : gi S1 192 27 = gi S 192 27 := h1.2.1.2 192 27 (by decide) (by decide)
  refine pc_mono (pcl_use (b := b) S1 w FU S1 0 (by have := mx_192_27 h1.1.1; omega) h1.1.1 ⟨rfl, fun _ _ _ => rfl⟩ (fun j h => absurd h (Nat.not_lt_zero j))) (fun S2 h2 => ?_)
  refine ⟨⟨h2.1.1.trans h1.2.1.1, fun r k a c d => (h2.1.2 r k d).trans (h1.2.1.2 r k a c)⟩, fun j hj => ⟨?_, ?_⟩⟩
  · rw [h2.1.2 212 j (by decide)]; exact h1.2.2 j hj
  · rw [h2.2 j (by omega)]
    exact m_us_congr (n := (gi S 192 27).toNat) (fun i hi => h1.2.2 i (by omega)) j (by omega)
theorem q_fu_good {S S1 : SS} {w : Int} (hN : NX S) (hF : 0 ≤ gi S 192 27) (h : q_fu S S1) (hu : ∀ j : Nat, (j : Int) < gi S 192 27 → gi S1 212 j = m_st S j ∧ gi S1 214 j = m_us w (m_st S) j) : q_good (q_md S1) (gi S 192 27).toNat (gi S 192 3) := by
  have e199 : ∀ k, gi S1 199 k = gi S 199 k := fun k => h.2 199 k (by decide) (by decide) (by decide)
  have e201 : ∀ k, gi S1 201 k = gi S 201 k := fun k => h.2 201 k (by decide) (by decide) (by decide)
  have e202 : ∀ k, gi S1 202 k = gi S 202 k := fun k => h.2 202 k (by decide) (by decide) (by decide)
  have e203 : ∀ k, gi S1 203 k = gi S 203 k := fun k => h.2 203 k (by decide) (by decide) (by decide)
  have J := m_st_ok S
  have done : ∀ k, k < (gi S 192 27).toNat → q_us (q_md S1) k = 1 → m_st S k = 0 := by
    intro k hk hu1
    rw [md_us, (hu k (by omega)).2] at hu1
    unfold m_us at hu1
    by_cases e : m_st S k = 0
    · exact e
    · rw [if_neg (fun q => e q.1)] at hu1; exact absurd hu1 (by decide)
  have emd : ∀ j k, j ≠ 5 → q_md S1 j k = q_md S j k := by
    intro j k hj
    unfold q_md
    rw [e199, e201, e202, e203, if_neg hj, if_neg hj]
  refine ⟨fun k hk hu1 => ?_, fun k o hk ho hne hu1 hu2 => ?_⟩
  · have st := done k hk hu1
    have k5 := (J k hk (.inl st)).1
    have v := hN k (by omega)
    unfold q_val
    rw [md_kd, md_lo, md_hi, md_mi, md_gp, e199, e201, e202, e203]
    unfold m_val at v
    rcases v with v | v | v | v | v
    · left; rw [if_neg (by omega), if_neg (by omega), if_neg (by omega), if_neg (by omega), if_neg (by omega)]; omega
    · right; left; rw [if_pos v.1]; omega
    · right; right; left; rw [if_neg (by omega), if_neg (by omega), if_pos v.1, if_neg (by omega), if_neg (by omega)]; omega
    · right; right; right; rw [if_neg (by omega), if_neg (by omega), if_neg (by omega), if_neg (by omega), if_pos v.1]; omega
    · exact absurd v.1 k5
  · have h1 := (J k hk (.inl (done k hk hu1))).2 (done k hk hu1) o ho (fun e => hne e.symm) (done o ho hu2)
    unfold q_nm q_wi q_ins q_ov q_cut q_kd q_lo q_hi q_gp q_mi at h1 ⊢
    rw [emd 0 k (by decide), emd 0 o (by decide), emd 1 k (by decide), emd 1 o (by decide), emd 2 k (by decide), emd 2 o (by decide), emd 3 k (by decide), emd 3 o (by decide), emd 4 k (by decide), emd 4 o (by decide)]
    exact h1
theorem md_mv {S : SS} {j : Nat} (h : gi S 199 j = 4) : q_lo (q_md S) j = gi S 201 j ∧ q_hi (q_md S) j = gi S 202 j ∧ q_gp (q_md S) j = gi S 203 j := by
  refine ⟨md_lo1 (by omega), md_hi2 (by omega) (by omega), ?_⟩
  rw [md_gp, if_neg (by omega), if_pos h]
theorem q_same_row {M : q_MK} {n : Nat} {F : Int} (G : q_good M n F) {k m : Nat} (hk : k < n) (hm : m < n) (ne : k ≠ m) (uk : q_us M k = 1) (um : q_us M m = 1) (kk : q_kd M k = 4) (km : q_kd M m = 4) (h1 : q_lo M m ≤ q_lo M k) (h2 : q_hi M k ≤ q_hi M m) (h3 : q_hi M m - q_lo M m ≤ q_hi M k - q_lo M k) : False := by
  have v := G.1 k hk uk
  have vm := G.1 m hm um
  unfold q_val at v vm
  rcases G.2 k m hk hm ne uk um with p | p | p
  · omega
  · omega
  · exact p.1 ⟨by omega, by omega, by omega, by omega⟩
theorem q_in_ne {S : SS} {n : Nat} {F low high mv i v2 r : Int} (G : q_good (q_md S) n F) (R : q_reg (q_md S) n F low high mv) {k : Nat} (hk : k < n) (uk : q_us (q_md S) k = 1) (kk : q_kd (q_md S) k = 4) (ik : q_in (q_md S) low high mv k) (h1 : q_lo (q_md S) k + v2 ≤ i) (h2 : i ≤ q_hi (q_md S) k) (hb : q_best n (q_ci S i v2) (q_ln S) r) : r ≠ mv := by
  obtain ⟨r1, r2, r3, r4, r5⟩ := R
  have ek := md_mv kk
  have ck : q_ci S i v2 k := ⟨uk, kk, by rw [← ek.1]; exact h1, by rw [← ek.2.1]; exact h2⟩
  rcases hb with ⟨_, hb⟩ | ⟨m, hm, er, cm, hb⟩
  · exact absurd ck (hb k hk)
  · intro e
    rcases r5 with r5 | ⟨m', m1, m2, m3, m4, m5, m6⟩
    · omega
    · have q : m' = m := by omega
      subst q
      have l := hb k hk ck
      unfold q_ln at l
      have em := md_mv m4
      exact q_same_row G hk hm (fun q => ik.1 (by omega)) uk m3 kk m4 (by omega) (by omega) (by omega)
theorem q_in_eq {S : SS} {n : Nat} {F low high mv i v2 r : Int} (R : q_reg (q_md S) n F low high mv) (hv2 : 0 ≤ v2) (h1 : low + v2 ≤ i) (h2 : i ≤ high) (hno : ∀ k, k < n → q_us (q_md S) k = 1 → q_kd (q_md S) k = 4 → q_in (q_md S) low high mv k → ¬ (q_lo (q_md S) k + v2 ≤ i ∧ i ≤ q_hi (q_md S) k)) (hb : q_best n (q_ci S i v2) (q_ln S) r) : r = mv := by
  obtain ⟨r1, r2, r3, r4, r5⟩ := R
  have cmv : ∀ m' : Nat, m' < n → q_us (q_md S) m' = 1 → q_kd (q_md S) m' = 4 → q_lo (q_md S) m' ≤ low → high ≤ q_hi (q_md S) m' → q_ci S i v2 m' := by
    intro m' a b c d e
    have em := md_mv c
    exact ⟨b, c, by omega, by omega⟩
  rcases hb with ⟨er, hb⟩ | ⟨m, hm, er, cm, hb⟩
  · rcases r5 with r5 | ⟨m', m1, m2, m3, m4, m5, m6⟩
    · omega
    · exact absurd (cmv m' m1 m3 m4 m5 m6) (hb m' m1)
  · have em := md_mv cm.2.1
    have c3 := cm.2.2
    have hr := r3 m hm cm.1 (by rw [md_kd, cm.2.1]; decide) (by omega) (by omega)
    rcases hr with hr | hr | hr
    · omega
    · exact absurd ⟨by omega, by omega⟩ (hno m hm cm.1 cm.2.1 hr)
    · exfalso
      have k4 : q_kd (q_md S) m = 4 := cm.2.1
      have h0 : 0 ≤ mv ∧ q_hi (q_md S) mv.toNat - q_lo (q_md S) mv.toNat < q_hi (q_md S) m - q_lo (q_md S) m := by omega
      rcases r5 with r5 | ⟨m', m1, m2, m3, m4, m5, m6⟩
      · omega
      · have l := hb m' m1 (cmv m' m1 m3 m4 m5 m6)
        unfold q_ln at l
        have em' := md_mv m4
        rw [m2, Int.toNat_natCast] at h0
        omega
theorem q_mo_ne {S : SS} {n : Nat} {F low high mv r : Int} (G : q_good (q_md S) n F) (R : q_reg (q_md S) n F low high mv) {t k : Nat} (kt : q_kd (q_md S) t = 3) (hk : k < n) (uk : q_us (q_md S) k = 1) (kk : q_kd (q_md S) k = 4) (ik : q_in (q_md S) low high mv k) (h1 : q_lo (q_md S) k ≤ q_lo (q_md S) t) (h2 : q_hi (q_md S) t ≤ q_hi (q_md S) k) (hb : q_best n (q_cm S t) (q_ln S) r) : r ≠ mv := by
  obtain ⟨r1, r2, r3, r4, r5⟩ := R
  have ek := md_mv kk
  have el : q_lo (q_md S) t = gi S 201 t := md_lo1 (by rw [← md_kd, kt]; decide)
  have eh : q_hi (q_md S) t = gi S 203 t := md_hi3 kt
  have ck : q_cm S t k := ⟨uk, kk, by omega, by omega⟩
  rcases hb with ⟨_, hb⟩ | ⟨m, hm, er, cm, hb⟩
  · exact absurd ck (hb k hk)
  · intro e
    rcases r5 with r5 | ⟨m', m1, m2, m3, m4, m5, m6⟩
    · omega
    · have q : m' = m := by omega
      subst q
      have l := hb k hk ck
      unfold q_ln at l
      have em := md_mv m4
      exact q_same_row G hk hm (fun q => ik.1 (by omega)) uk m3 kk m4 (by omega) (by omega) (by omega)
theorem q_mo_eq {S : SS} {n : Nat} {F low high mv r : Int} (R : q_reg (q_md S) n F low high mv) {t : Nat} (kt : q_kd (q_md S) t = 3) (it : q_in (q_md S) low high mv t) (vt : q_lo (q_md S) t ≤ q_hi (q_md S) t) (hno : ∀ k, k < n → q_us (q_md S) k = 1 → q_kd (q_md S) k = 4 → q_in (q_md S) low high mv k → ¬ (q_lo (q_md S) k ≤ q_lo (q_md S) t ∧ q_hi (q_md S) t ≤ q_hi (q_md S) k)) (hb : q_best n (q_cm S t) (q_ln S) r) : r = mv := by
  obtain ⟨r1, r2, r3, r4, r5⟩ := R
  have el : q_lo (q_md S) t = gi S 201 t := md_lo1 (by rw [← md_kd, kt]; decide)
  have eh : q_hi (q_md S) t = gi S 203 t := md_hi3 kt
  have cmv : ∀ m' : Nat, m' < n → q_us (q_md S) m' = 1 → q_kd (q_md S) m' = 4 → q_lo (q_md S) m' ≤ low → high ≤ q_hi (q_md S) m' → q_cm S t m' := by
    intro m' a b c d e
    have em := md_mv c
    exact ⟨b, c, by omega, by omega⟩
  rcases hb with ⟨er, hb⟩ | ⟨m, hm, er, cm, hb⟩
  · rcases r5 with r5 | ⟨m', m1, m2, m3, m4, m5, m6⟩
    · omega
    · exact absurd (cmv m' m1 m3 m4 m5 m6) (hb m' m1)
  · have em := md_mv cm.2.1
    have c3 := cm.2.2
    have hr := r3 m hm cm.1 (by rw [md_kd, cm.2.1]; decide) (by omega) (by omega)
    rcases hr with hr | hr | hr
    · omega
    · exact absurd ⟨by omega, by omega⟩ (hno m hm cm.1 cm.2.1 hr)
    · exfalso
      have k4 : q_kd (q_md S) m = 4 := cm.2.1
      have h0 : 0 ≤ mv ∧ q_hi (q_md S) mv.toNat - q_lo (q_md S) mv.toNat < q_hi (q_md S) m - q_lo (q_md S) m := by omega
      rcases r5 with r5 | ⟨m', m1, m2, m3, m4, m5, m6⟩
      · omega
      · have l := hb m' m1 (cmv m' m1 m3 m4 m5 m6)
        unfold q_ln at l
        have em' := md_mv m4
        rw [m2, Int.toNat_natCast] at h0
        omega
theorem q_ta_none {b : Nat} {S : SS} (hC : MX b S) {F low high mv i r : Int} (G : q_good (q_md S) (gi S 192 27).toNat F) (R : q_reg (q_md S) (gi S 192 27).toNat F low high mv) (hno : ∀ t, t < (gi S 192 27).toNat → q_us (q_md S) t = 1 → q_kd (q_md S) t = 3 → q_lo (q_md S) t = i → q_hi (q_md S) t ≤ high → ∃ m, m < (gi S 192 27).toNat ∧ q_us (q_md S) m = 1 ∧ q_kd (q_md S) m = 4 ∧ q_in (q_md S) low high mv m ∧ q_lo (q_md S) m ≤ q_lo (q_md S) t ∧ q_hi (q_md S) t ≤ q_hi (q_md S) m) (hb : q_best (gi S 192 27).toNat (q_ct S i high mv) (fun j => - gi S 203 j) r) : r = -1 := by
  rcases hb with ⟨er, hb⟩ | ⟨t, ht, er, ct, hb⟩
  · exact er
  · exfalso
    obtain ⟨c1, c2, c3, c4, c5⟩ := ct
    have el : q_lo (q_md S) t = gi S 201 t := md_lo1 (by omega)
    have eh : q_hi (q_md S) t = gi S 203 t := md_hi3 c2
    obtain ⟨m, m1, m2, m3, m4, m5, m6⟩ := hno t ht c1 c2 (by omega) (by omega)
    exact q_mo_ne G R c2 m1 m2 m3 m4 m5 m6 (pc_moveOf S hC t _ c5) rfl
theorem q_ta_some {b : Nat} {S : SS} (hC : MX b S) {F low high mv i r : Int} (G : q_good (q_md S) (gi S 192 27).toNat F) (R : q_reg (q_md S) (gi S 192 27).toNat F low high mv) (hl : low ≤ i) (B : q_bd (q_md S) (gi S 192 27).toNat low high mv i) {m : Nat} (hm : m < (gi S 192 27).toNat) (c : q_cand (q_md S) high mv i m) (km : q_kd (q_md S) m = 3) (cm : ∀ k, k < (gi S 192 27).toNat → q_cand (q_md S) high mv i k → q_hi (q_md S) k < q_hi (q_md S) m ∨ (q_hi (q_md S) k = q_hi (q_md S) m ∧ (q_kd (q_md S) k ≠ 4 ∨ q_kd (q_md S) m = 4))) (hb : q_best (gi S 192 27).toNat (q_ct S i high mv) (fun j => - gi S 203 j) r) : r = (m : Int) := by
  have b27 := mx_192_27 hC
  have vm := G.1 m hm c.1
  unfold q_val at vm
  have im : q_in (q_md S) low high mv m := ⟨c.2.2.1, by omega, c.2.2.2.2⟩
  have mvk := q_in_mv hl B hm c km cm
  have el : q_lo (q_md S) m = gi S 201 m := md_lo1 (by rw [← md_kd, km]; decide)
  have eh : q_hi (q_md S) m = gi S 203 m := md_hi3 km
  have hct : q_ct S i high mv m := by
    refine ⟨c.1, km, by omega, by omega, ?_⟩
    obtain ⟨q, eq, hq⟩ := ok_and (ok_M_moveOf S (m : Int) hC (by omega)) (pc_moveOf S hC m)
    rw [eq, q_mo_eq R km im (by omega) (fun k a b c d => mvk k a b c d (by omega)) hq.2]
  rcases hb with ⟨er, hb⟩ | ⟨t, ht, er, ct, hb⟩
  · exact absurd hct (hb m hm)
  · have l : - gi S 203 t ≤ - gi S 203 m := hb m hm hct
    obtain ⟨c1, c2, c3, c4, c5⟩ := ct
    have el' : q_lo (q_md S) t = gi S 201 t := md_lo1 (by omega)
    have eh' : q_hi (q_md S) t = gi S 203 t := md_hi3 c2
    have vt := G.1 t ht c1
    unfold q_val at vt
    have k3 : q_kd (q_md S) t = 3 := c2
    have tmv : (t : Int) ≠ mv := by
      intro q
      rcases R.2.2.2.2 with r5 | ⟨m', m1, m2, m3, m4, m5, m6⟩
      · omega
      · have q : m' = t := by omega
        subst q; omega
    have ht' := cm t ht ⟨c1, by omega, tmv, by omega, by omega⟩
    by_cases e : t = m
    · omega
    · exfalso
      rcases G.2 t m ht hm e c1 c.1 with p | p | p
      · omega
      · omega
      · exact p.1 ⟨by omega, by omega, by omega, by omega⟩
theorem w_b1_is {α β : Type} {x : Option α} {a : α} {k : α → Option β} (h : x = some a) : w_b1 x k = k a := by rw [h]; rfl
def mt_put (S : SS) (w : Int64) : SS := si (sl S 195 (gi S 192 5).toNat w) 192 5 (gi S 192 5 + 1)
def m_pws (k : Nat) : Nat → Nat → SS → SS
  | 0, _, S => S
  | c + 1, i, S => m_pws k c (i + 1) (mt_put S (gl S 206 (6 * k + i)))
def m_tok (S : SS) (t : Nat) : SS := if t < 60 then mt_put S (gl S 193 t) else m_pws (t - 60) (gi S 204 (t - 60)).toNat 0 S
def m_toks (S : SS) : List Nat → SS
  | [] => S
  | t :: L => m_toks (m_tok S t) L
theorem m_toks_append (A B : List Nat) : ∀ S, m_toks S (A ++ B) = m_toks (m_toks S A) B := by
  induction A with
  | nil => intro S; rfl
  | cons a A ih => intro S; exact ih (m_tok S a)
/-- all stays but the text made -/
def q_fp (S S1 : SS) : Prop := (∀ r k, ¬ (r = 192 ∧ k = 5) → gi S1 r k = gi S r k) ∧ (∀ r k, r ≠ 195 → gl S1 r k = gl S r k) ∧ S1.2.2 = S.2.2
theorem q_fp_refl (S : SS) : q_fp S S := ⟨fun _ _ _ => rfl, fun _ _ _ => rfl, rfl⟩
theorem q_fp_trans {S S1 S2 : SS} (h : q_fp S S1) (h2 : q_fp S1 S2) : q_fp S S2 := ⟨fun r k a => (h2.1 r k a).trans (h.1 r k a), fun r k a => (h2.2.1 r k a).trans (h.2.1 r k a), h2.2.2.trans h.2.2⟩
theorem gl_slN (S : SS) (r k r' k' : Nat) (v : Int64) : gl (sl S r k v) r' k' = if r' = r ∧ k' = k then v else gl S r' k' := by
  unfold gl sl up2
  by_cases e : r' = r
  · by_cases e2 : k' = k
    · simp [e, e2]
    · simp [e, e2]
  · simp [e]
theorem q_fp_put (S : SS) (w : Int64) : q_fp S (mt_put S w) := by
  refine ⟨fun r k h => ?_, fun r k h => ?_, rfl⟩
  · unfold mt_put; rw [gi_si, if_neg h]; rfl
  · show gl (sl S 195 _ w) r k = _
    rw [gl_slN, if_neg (fun q => h q.1)]
theorem mt_put_5 (S : SS) (w : Int64) : gi (mt_put S w) 192 5 = gi S 192 5 + 1 := by unfold mt_put; rw [gi_si, if_pos ⟨rfl, rfl⟩]
theorem mt_put_mx {b : Nat} {S : SS} (hC : MX b S) (w : Int64) (h : gi S 192 5 + 1 ≤ 300) : MX b (mt_put S w) := by
  have := mx_192_5 hC
  exact ms_192_5 (ms_sl hC) (by omega) h
theorem ok_put {b : Nat} {S : SS} (hC : MX b S) (w : Int64) (h : gi S 192 5 + 1 ≤ 300) : f_M_put S w = some (mt_put S w) := by
  have := mx_192_5 hC
  unfold f_M_put
  rw [w_chkP (by omega)]
  show w_chk (i32 (gi S 192 5 + 1)) _ = _
  rw [w_chkP (by omega)]
  rfl
def q_W (S : SS) (t : Nat) : Nat := if t < 60 then 1 else (gi S 204 (t - 60)).toNat
theorem m_pws_ok {b : Nat} (k : Nat) (hk : k < 41) : ∀ (c i n : Nat) (S : SS), MX b S → gi S 204 k = (i : Int) + (c : Int) → gi S 192 5 + (c : Int) ≤ 300 → c < n → f_M_putWords_2 (k : Int) n S (i : Int) = some (m_pws k c i S) ∧ MX b (m_pws k c i S) ∧ q_fp S (m_pws k c i S) ∧ gi (m_pws k c i S) 192 5 = gi S 192 5 + (c : Int) := by
  intro c
  induction c with
  | zero =>
    intro i n S hC e h hn
    obtain ⟨n, rfl⟩ : ∃ n', n = n' + 1 := ⟨n - 1, by omega⟩
    refine ⟨?_, hC, q_fp_refl S, ?_⟩
    · show f_M_putWords_2_b (k : Int) (f_M_putWords_2 (k : Int) n) S (i : Int) = _
      unfold f_M_putWords_2_b
      rw [w_chkP (by omega), Int.toNat_natCast, if_pos (by omega)]
      rfl
    · show gi S 192 5 = gi S 192 5 + 0
      omega
  | succ c ih =>
    intro i n S hC e h hn
    obtain ⟨n, rfl⟩ : ∃ n', n = n' + 1 := ⟨n - 1, by omega⟩
    have b204 := mx_204 hC k
    have fp := q_fp_put S (gl S 206 (6 * k + i))
    have hC' : MX b (mt_put S (gl S 206 (6 * k + i))) := mt_put_mx hC _ (by omega)
    have e5 := mt_put_5 S (gl S 206 (6 * k + i))
    have I := ih (i + 1) n (mt_put S (gl S 206 (6 * k + i))) hC' (by rw [fp.1 204 k (by omega)]; omega) (by omega) (by omega)
    refine ⟨?_, I.2.1, q_fp_trans fp I.2.2.1, ?_⟩
    · show f_M_putWords_2_b (k : Int) (f_M_putWords_2 (k : Int) n) S (i : Int) = _
      unfold f_M_putWords_2_b
      rw [w_chkP (by omega), Int.toNat_natCast, if_neg (by omega), w_chkP (by omega), w_chkP (by omega), w_chkP (by omega), show (6 * (k : Int) + (i : Int)).toNat = 6 * k + i by omega, w_b1_is (ok_put hC _ (by omega)), w_chkP (by omega), show (i : Int) + 1 = ((i + 1 : Nat) : Int) by omega]
      exact I.1
    · show gi (m_pws k c (i + 1) (mt_put S (gl S 206 (6 * k + i)))) 192 5 = _
      rw [I.2.2.2, e5]; omega
theorem m_tok_ok {b : Nat} {S : SS} (hC : MX b S) {t : Nat} (ht : t < 101) (h : gi S 192 5 + (q_W S t : Int) ≤ 300) : MX b (m_tok S t) ∧ q_fp S (m_tok S t) ∧ gi (m_tok S t) 192 5 = gi S 192 5 + (q_W S t : Int) ∧ (60 ≤ t → f_M_putWords S ((t - 60 : Nat) : Int) = some (m_tok S t)) := by
  unfold m_tok q_W at *
  by_cases e : t < 60
  · rw [if_pos e] at h
    rw [if_pos e, if_pos e]
    exact ⟨mt_put_mx hC _ (by omega), q_fp_put S _, mt_put_5 S _, fun q => absurd e (by omega)⟩
  · rw [if_neg e] at h
    rw [if_neg e, if_neg e]
    have b204 := mx_204 hC (t - 60)
    have I := m_pws_ok (b := b) (t - 60) (by omega) (gi S 204 (t - 60)).toNat 0 FU S hC (by omega) h (by unfold FU; omega)
    exact ⟨I.2.1, I.2.2.1, I.2.2.2, fun _ => I.1⟩
theorem q_W_fp {S S1 : SS} (h : q_fp S S1) : q_W S1 = q_W S := by
  funext t; unfold q_W; rw [h.1 204 (t - 60) (by omega)]
theorem q_md_fp {S S1 : SS} (h : q_fp S S1) : q_md S1 = q_md S := by
  funext j k
  unfold q_md
  rw [h.1 199 k (by omega), h.1 201 k (by omega), h.1 202 k (by omega), h.1 203 k (by omega), h.1 214 k (by omega)]
theorem m_toks_ok {b : Nat} : ∀ (L : List Nat) (S : SS), MX b S → (∀ t, t ∈ L → t < 101) → gi S 192 5 + (q_wt (q_W S) L : Int) ≤ 300 → MX b (m_toks S L) ∧ q_fp S (m_toks S L) ∧ gi (m_toks S L) 192 5 = gi S 192 5 + (q_wt (q_W S) L : Int) := by
  intro L
  induction L with
  | nil => intro S hC _ _; exact ⟨hC, q_fp_refl S, by show gi S 192 5 = gi S 192 5 + 0; omega⟩
  | cons t L ih =>
    intro S hC hL h
    have e : q_wt (q_W S) (t :: L) = q_W S t + q_wt (q_W S) L := rfl
    rw [e] at h ⊢
    have T := m_tok_ok hC (hL t List.mem_cons_self) (by omega)
    have I := ih (m_tok S t) T.1 (fun x hx => hL x (List.mem_cons_of_mem _ hx)) (by rw [q_W_fp T.2.1]; omega)
    refine ⟨I.1, q_fp_trans T.2.1 I.2.1, ?_⟩
    show gi (m_toks (m_tok S t) L) 192 5 = _
    rw [I.2.2, q_W_fp T.2.1]; omega
/-- a call that lays a list of tokens, room given -/
def q_lays (b : Nat) (S0 : SS) (f : SS → Option SS) (L : List Nat) : Prop := ∀ S, MX b S → q_fp S0 S → gi S 192 5 + (q_wt (q_W S0) L : Int) ≤ 300 → f S = some (m_toks S L)
abbrev q_lt (L : List Nat) : Prop := ∀ t, t ∈ L → t < 101
theorem q_lays_mx {b : Nat} {S0 S : SS} {L : List Nat} (hL : q_lt L) (hC : MX b S) (hf : q_fp S0 S) (h : gi S 192 5 + (q_wt (q_W S0) L : Int) ≤ 300) : MX b (m_toks S L) ∧ q_fp S0 (m_toks S L) ∧ gi (m_toks S L) 192 5 = gi S 192 5 + (q_wt (q_W S0) L : Int) := by
  rw [← q_W_fp hf] at h ⊢
  have := m_toks_ok L S hC hL h
  exact ⟨this.1, q_fp_trans hf this.2.1, this.2.2⟩
theorem ok_lgap {b : Nat} (S0 : SS) {F : Int} (G : q_good (q_md S0) (gi S0 192 27).toNat F) (rk : SS → Int → Int → Int → Option SS) (rp : Int → Int → Int → List Nat) (g : Int) (hg : 0 ≤ g)
    (hr : ∀ k, k < (gi S0 192 27).toNat → q_us (q_md S0) k = 1 → q_gp (q_md S0) k = g → q_kd (q_md S0) k = 4 → q_lays b S0 (fun S => rk S (q_lo (q_md S0) k) (q_hi (q_md S0) k) (k : Int)) (rp (q_lo (q_md S0) k) (q_hi (q_md S0) k) (k : Int)) ∧ q_lt (rp (q_lo (q_md S0) k) (q_hi (q_md S0) k) (k : Int))) :
    ∀ (c k n : Nat), k + c = (gi S0 192 27).toNat → c < n → q_lays b S0 (fun S => f_M_layGap_2 rk g n S (k : Int)) (q_gap (q_md S0) rp g c k) := by
  intro c
  induction c with
  | zero =>
    intro k n hk hn S hC hf h
    obtain ⟨n, rfl⟩ : ∃ n', n = n' + 1 := ⟨n - 1, by omega⟩
    have b27 := mx_192_27 hC
    have e27 := hf.1 192 27 (by omega)
    show f_M_layGap_2_b rk g (f_M_layGap_2 rk g n) S (k : Int) = _
    unfold f_M_layGap_2_b
    rw [if_pos (by omega)]
    rfl
  | succ c ih =>
    intro k n hk hn S hC hf h
    obtain ⟨n, rfl⟩ : ∃ n', n = n' + 1 := ⟨n - 1, by omega⟩
    have b27 := mx_192_27 hC
    have e27 := hf.1 192 27 (by omega)
    have b214 := mx_214 hC k
    have emd := q_md_fp hf
    have next : ∀ S', MX b S' → q_fp S0 S' → gi S' 192 5 + (q_wt (q_W S0) (q_gap (q_md S0) rp g c (k + 1)) : Int) ≤ 300 → f_M_layGap_66 rk g (f_M_layGap_2 rk g n) S' (k : Int) = some (m_toks S' (q_gap (q_md S0) rp g c (k + 1))) := by
      intro S' a d e
      unfold f_M_layGap_66
      rw [w_chkP (by omega), show (k : Int) + 1 = ((k + 1 : Nat) : Int) by omega]
      exact ih (k + 1) n (by omega) (by omega) S' a d e
    have eu : q_us (q_md S0) k = gi S 214 k := by rw [← emd, md_us]
    have ek : q_kd (q_md S0) k = gi S 199 k := by rw [← emd, md_kd]
    rw [q_gap] at h ⊢
    show f_M_layGap_2_b rk g (f_M_layGap_2 rk g n) S (k : Int) = _
    unfold f_M_layGap_2_b
    rw [if_neg (by omega), w_chkP (by omega), Int.toNat_natCast]
    by_cases c2 : gi S 214 k = 0
    · rw [if_pos c2]
      rw [if_neg (show ¬ (q_us (q_md S0) k = 1 ∧ q_gp (q_md S0) k = g) from fun q => by omega), List.nil_append] at h ⊢
      exact next S hC hf h
    · rw [if_neg c2]
      obtain ⟨r3, e3, _, q3⟩ := ok_and (ok_M_gapOf S (k : Int) hC (by omega)) (pc_gapOf S k)
      rw [w_b1_is e3]
      rw [emd] at q3
      by_cases c3 : r3 = g
      · rw [if_pos c3, w_chkP (by omega)]
        rw [if_pos (show q_us (q_md S0) k = 1 ∧ q_gp (q_md S0) k = g from ⟨by omega, by omega⟩)] at h ⊢
        rw [q_wt_append] at h
        rw [m_toks_append]
        by_cases c4 : gi S 199 k = 1
        · rw [if_pos c4]
          rw [if_pos (show q_kd (q_md S0) k = 1 by omega)] at h ⊢
          have l1 : q_lt [60 + k] := fun t ht => by simp at ht; omega
          have X := q_lays_mx l1 hC hf (by omega)
          have e1 : m_toks S [60 + k] = m_tok S (60 + k) := rfl
          have e2 : q_wt (q_W S0) [60 + k] = q_W S0 (60 + k) := rfl
          have T := (m_tok_ok hC (t := 60 + k) (by omega) (by rw [q_W_fp hf]; omega)).2.2.2 (by omega)
          rw [show 60 + k - 60 = k by omega] at T
          rw [w_b1_is T]
          rw [e1] at X ⊢
          exact next _ X.1 X.2.1 (by omega)
        · rw [if_neg c4, w_chkP (by omega), w_chkP (by omega)]
          rw [if_neg (show ¬ q_kd (q_md S0) k = 1 by omega)] at h ⊢
          have v := G.1 k (by omega) (by omega)
          unfold q_val at v
          have k4 : q_kd (q_md S0) k = 4 := by omega
          have e4 := md_mv (S := S0) (j := k) k4
          have e201 := hf.1 201 k (by omega)
          have e202 := hf.1 202 k (by omega)
          have H := hr k (by omega) (by omega) (by omega) k4
          have X := q_lays_mx H.2 hC hf (by omega)
          rw [e201, e202, ← e4.1, ← e4.2.1, w_b1_is (H.1 S hC hf (by omega))]
          exact next _ X.1 X.2.1 (by omega)
      · rw [if_neg c3]
        rw [if_neg (show ¬ (q_us (q_md S0) k = 1 ∧ q_gp (q_md S0) k = g) from fun q => by omega), List.nil_append] at h ⊢
        exact next S hC hf h
def q_sc (M : q_MK) (i : Int) (j : Nat) : Prop := q_us M j = 1 ∧ (q_kd M j = 0 ∨ q_kd M j = 2) ∧ q_lo M j ≤ i ∧ i ≤ q_hi M j
theorem ok_lw13 {b : Nat} (S : SS) (hC : MX b S) (i mv : Int) (hi : 0 ≤ i ∧ i < 60) (X : SS) (hX : ((∀ j, j < (gi S 192 27).toNat → ¬ q_sc (q_md S) i j) ∧ gi S 192 5 + 1 ≤ 300 ∧ X = m_tok S i.toNat) ∨ (∃ m, m < (gi S 192 27).toNat ∧ q_sc (q_md S) i m ∧ (∀ j, j < (gi S 192 27).toNat → q_sc (q_md S) i j → j = m) ∧ ((q_kd (q_md S) m = 2 ∧ i = q_lo (q_md S) m ∧ gi S 192 5 + (q_W S (60 + m) : Int) ≤ 300 ∧ X = m_tok S (60 + m)) ∨ (¬ (q_kd (q_md S) m = 2 ∧ i = q_lo (q_md S) m) ∧ X = S)))) :
    ∀ (c k n : Nat), k + c = (gi S 192 27).toNat → c < n → (∀ j, j < k → ¬ q_sc (q_md S) i j) → f_M_layWord_13 i mv n S (k : Int) = some X := by
  have b27 := mx_192_27 hC
  intro c
  induction c with
  | zero =>
    intro k n hk hn hj
    obtain ⟨n, rfl⟩ : ∃ n', n = n' + 1 := ⟨n - 1, by omega⟩
    show f_M_layWord_13_b i mv (f_M_layWord_13 i mv n) S (k : Int) = _
    unfold f_M_layWord_13_b
    rw [if_pos (by omega), w_chkP (by omega)]
    rcases hX with ⟨h0, h1, h2⟩ | ⟨m, hm, h1, _⟩
    · rw [w_b1_is (ok_put hC _ h1), h2]
      unfold m_tok
      rw [if_pos (by omega)]
    · exact absurd h1 (hj m (by omega))
  | succ c ih =>
    intro k n hk hn hj
    obtain ⟨n, rfl⟩ : ∃ n', n = n' + 1 := ⟨n - 1, by omega⟩
    have b214 := mx_214 hC k
    have next : ¬ q_sc (q_md S) i k → f_M_layWord_100 i mv (f_M_layWord_13 i mv n) S (k : Int) = some X := by
      intro hn'
      unfold f_M_layWord_100
      rw [w_chkP (by omega), show (k : Int) + 1 = ((k + 1 : Nat) : Int) by omega]
      refine ih (k + 1) n (by omega) (by omega) (fun j hjk => ?_)
      by_cases e : j = k
      · rw [e]; exact hn'
      · exact hj j (by omega)
    have hit : gi S 214 k ≠ 0 → (gi S 199 k = 0 ∨ gi S 199 k = 2) → f_M_layWord_49 i mv (f_M_layWord_13 i mv n) S (k : Int) = some X := by
      intro hu hkd
      have el : q_lo (q_md S) k = gi S 201 k := md_lo1 (by omega)
      have eh : q_hi (q_md S) k = gi S 202 k := md_hi2 (by omega) (by omega)
      have i01 := in01 S i (gi S 201 k) (gi S 202 k)
      unfold f_M_layWord_49
      rw [w_chkP (by omega), w_chkP (by omega), Int.toNat_natCast]
      by_cases c1 : f_M_in S i (gi S 201 k) (gi S 202 k) = 0
      · rw [if_pos c1]
        refine next (fun q => ?_)
        have := q.2.2
        omega
      · rw [if_neg c1, w_chkP (by omega)]
        have sc : q_sc (q_md S) i k := ⟨by rw [md_us]; omega, hkd, by omega, by omega⟩
        rcases hX with ⟨h0, _⟩ | ⟨m, hm, h1, h2, h3⟩
        · exact absurd sc (h0 k (by omega))
        · have e := h2 k (by omega) sc
          subst e
          by_cases c2 : gi S 199 k = 2
          · rw [if_pos c2, w_chkP (by omega)]
            by_cases c3 : i = gi S 201 k
            · rw [if_pos c3]
              rcases h3 with h3 | h3
              · have T := (m_tok_ok hC (t := 60 + k) (by omega) h3.2.2.1).2.2.2 (by omega)
                rw [show 60 + k - 60 = k by omega] at T
                rw [w_b1_is T, h3.2.2.2]
              · exact absurd ⟨c2, by omega⟩ h3.1
            · rw [if_neg c3]
              rcases h3 with h3 | h3
              · exact absurd h3.2.1 (by omega)
              · rw [h3.2]
          · rw [if_neg c2]
            rcases h3 with h3 | h3
            · exact absurd h3.1 c2
            · rw [h3.2]
    show f_M_layWord_13_b i mv (f_M_layWord_13 i mv n) S (k : Int) = _
    unfold f_M_layWord_13_b
    rw [if_neg (by omega), w_chkP (by omega), Int.toNat_natCast]
    by_cases c1 : gi S 214 k = 0
    · rw [if_pos c1]
      exact next (fun q => by have := q.1; rw [md_us] at this; omega)
    · rw [if_neg c1, w_chkP (by omega)]
      by_cases c2 : gi S 199 k = 0
      · rw [if_pos c2]; exact hit c1 (.inl c2)
      · rw [if_neg c2, w_chkP (by omega)]
        by_cases c3 : gi S 199 k = 2
        · rw [if_pos c3]; exact hit c1 (.inr c3)
        · rw [if_neg c3]
          exact next (fun q => by have := q.2.1; rw [md_kd] at this; omega)
theorem q_sc_one {M : q_MK} {n : Nat} {F i : Int} (G : q_good M n F) {k m : Nat} (hk : k < n) (hm : m < n) (sk : q_sc M i k) (sm : q_sc M i m) : k = m := by
  by_cases e : k = m
  · exact e
  · exfalso
    obtain ⟨s1, s2, s3, s4⟩ := sk
    obtain ⟨t1, t2, t3, t4⟩ := sm
    rcases G.2 k m hk hm e s1 t1 with p | p | p
    · omega
    · omega
    · exact p.1 ⟨by omega, by omega, by omega, by omega⟩
theorem q_bel_lt {M : q_MK} {n : Nat} {a b : Int} {t : Nat} (hn : n ≤ 40) (h : q_bel M n a b t) : t < 101 := by
  rcases h with h | ⟨k, e, hk, _⟩ <;> omega
theorem q_mv_turn {M : q_MK} {n : Nat} {F low high mv : Int} (R : q_reg M n F low high mv) {t : Nat} (h : q_kd M t ≠ 4) : (t : Int) ≠ mv := by
  intro q
  rcases R.2.2.2.2 with r5 | ⟨m', m1, m2, m3, m4, m5, m6⟩
  · omega
  · have q : m' = t := by omega
    subst q; exact h m4
/-- a mark outermost at i that is no TURN is passed over word by word -/
theorem ok_skip {b : Nat} (S : SS) (hC : MX b S) {F low high mv i : Int} (hF : F ≤ 60) (G : q_good (q_md S) (gi S 192 27).toNat F) (R : q_reg (q_md S) (gi S 192 27).toNat F low high mv) (rk : SS → Int → Int → Int → Option SS) {m : Nat} (hm : m < (gi S 192 27).toNat) (cm : q_cand (q_md S) high mv i m) (k3 : q_kd (q_md S) m ≠ 3) (hl : low ≤ i) (X : Option SS)
    (hg : ∀ i', q_kd (q_md S) m ≠ 4 → q_lo (q_md S) m < i' → i' ≤ q_hi (q_md S) m → f_M_layGap rk S i' = some S)
    (hX : ∀ n : Nat, high + 1 - (q_hi (q_md S) m + 1) < (n : Int) → f_M_layRowB_3 rk low high mv n S (q_hi (q_md S) m + 1) = X) :
    ∀ (e : Nat) (i' : Int) (n : Nat), q_lo (q_md S) m < i' → i' + (e : Int) = q_hi (q_md S) m + 1 → high + 1 - i' < (n : Int) → f_M_layRowB_3 rk low high mv n S i' = X := by
  have b27 := mx_192_27 hC
  have vm := G.1 m hm cm.1
  unfold q_val at vm
  have im : q_in (q_md S) low high mv m := ⟨cm.2.2.1, by omega, cm.2.2.2.2⟩
  intro e
  induction e with
  | zero => intro i' n h1 h2 h3; rw [show i' = q_hi (q_md S) m + 1 by omega] at h3 ⊢; exact hX n h3
  | succ e ih =>
    intro i' n h1 h2 h3
    obtain ⟨n, rfl⟩ : ∃ n', n = n' + 1 := ⟨n - 1, by omega⟩
    have hi' : i32 i' := by have := R.1; have := R.2.1; omega
    have r1 := R.1
    have r2 := R.2.1
    have tl : f_M_layRowB_32 rk low high mv (f_M_layRowB_3 rk low high mv n) S i' = X := by
      unfold f_M_layRowB_32
      obtain ⟨t, et, _, ht⟩ := ok_and (ok_M_turnAt S i' high mv hC) (pc_turnAt S hC i' high mv)
      have et1 : t = -1 := by
        refine q_ta_none hC G R (fun t ht ut kt lt ht' => ?_) ht
        have vt := G.1 t ht ut
        unfold q_val at vt
        rcases G.2 t m ht hm (fun q => k3 (by rw [← q]; exact kt)) ut cm.1 with p | p | p
        · have k4 : q_kd (q_md S) m = 4 := by omega
          exact ⟨m, hm, cm.1, k4, im, by omega, by omega⟩
        · omega
        · exact absurd ⟨by omega, by omega, by omega, by omega⟩ p.1
      rw [w_b1_is et, if_pos et1]
      have lw : f_M_layWord S i' mv = some S := by
        unfold f_M_layWord
        obtain ⟨q, eq, _, hq⟩ := ok_and (ok_M_innermost S i' 0 hC) (pc_innermost S hC i' 0 hi' (.inl rfl))
        rw [w_b1_is eq]
        by_cases k4 : q_kd (q_md S) m = 4
        · rw [if_neg (q_in_ne G R hm cm.1 k4 im (by omega) (by omega) hq)]
        · by_cases c : q = mv
          · rw [if_pos c]
            have sm : q_sc (q_md S) i' m := ⟨cm.1, by omega, by omega, by omega⟩
            exact ok_lw13 S hC i' mv (by omega) S (.inr ⟨m, hm, sm, fun j hj sj => q_sc_one G hj hm sj sm, .inr ⟨fun q => by omega, rfl⟩⟩) (gi S 192 27).toNat 0 FU (by omega) (by unfold FU; omega) (fun j hj => absurd hj (Nat.not_lt_zero j))
          · rw [if_neg c]
      rw [w_b1_is lw, w_chkP (by omega)]
      exact ih (i' + 1) n (by omega) (by omega) (by omega)
    show f_M_layRowB_3_b rk low high mv (f_M_layRowB_3 rk low high mv n) S i' = X
    unfold f_M_layRowB_3_b
    rw [if_neg (by omega), if_neg (by omega)]
    obtain ⟨q, eq, _, hq⟩ := ok_and (ok_M_innermost S i' 1 hC) (pc_innermost S hC i' 1 hi' (.inr rfl))
    rw [w_b1_is eq]
    by_cases k4 : q_kd (q_md S) m = 4
    · rw [if_neg (q_in_ne G R hm cm.1 k4 im (by omega) (by omega) hq)]; exact tl
    · by_cases c : q = mv
      · rw [if_pos c, w_b1_is (hg i' k4 h1 (by omega))]; exact tl
      · rw [if_neg c]; exact tl
theorem q_gap_nil {M : q_MK} {rp : Int → Int → Int → List Nat} {g : Int} : ∀ (c k : Nat), (∀ j, k ≤ j → j < k + c → q_us M j = 1 → q_gp M j ≠ g) → q_gap M rp g c k = [] := by
  intro c
  induction c with
  | zero => intro k _; rfl
  | succ c ih =>
    intro k h
    rw [q_gap, if_neg (fun q => h k (by omega) (by omega) q.1 q.2), List.nil_append]
    exact ih (k + 1) (fun j a d => h j (by omega) (by omega))
abbrev q_n (S : SS) : Nat := (gi S 192 27).toNat
theorem ok_loop {b : Nat} (S0 : SS) {F low high mv : Int} (hn0 : 0 ≤ gi S0 192 27 ∧ gi S0 192 27 ≤ 40) (hF : F ≤ 60) (G : q_good (q_md S0) (q_n S0) F) (R : q_reg (q_md S0) (q_n S0) F low high mv) (d : Nat) (hd : q_cnt (q_md S0) low high mv (q_n S0) < d + 1) (rk : SS → Int → Int → Int → Option SS)
    (hrk : ∀ low' high' mv', q_reg (q_md S0) (q_n S0) F low' high' mv' → low' ≤ high' → q_cnt (q_md S0) low' high' mv' (q_n S0) < d → q_lays b S0 (fun S => rk S low' high' mv') (q_row (q_md S0) (q_n S0) d low' high' mv')) :
    ∀ (c : Nat) (i : Int) (n : Nat), low ≤ i → i ≤ high + 1 → q_bd (q_md S0) (q_n S0) low high mv i → high + 1 - i < (c : Int) → high + 1 - i < (n : Int) → 0 < n → q_lays b S0 (fun S => f_M_layRowB_3 rk low high mv n S i) (q_loop (q_md S0) (q_n S0) (q_row (q_md S0) (q_n S0) d) low high mv c i) := by
  have K := q_row_ok G hF d
  have ltR : ∀ low' high' mv', q_reg (q_md S0) (q_n S0) F low' high' mv' → q_lt (q_row (q_md S0) (q_n S0) d low' high' mv') := fun low' high' mv' R' t ht => q_bel_lt (by show (gi S0 192 27).toNat ≤ 40; omega) ((K _ _ _ R').2 t ht)
  have hR := R
  obtain ⟨r1, r2, r3, r4, r5⟩ := hR
  have gapL : ∀ g : Int, low < g → g ≤ high → q_lays b S0 (fun S => f_M_layGap rk S g) (q_gap (q_md S0) (q_row (q_md S0) (q_n S0) d) g (q_n S0) 0) := by
    intro g g1 g2
    refine ok_lgap S0 G rk _ g (by omega) (fun k hk uk gk k4 => ?_) (q_n S0) 0 FU (by show 0 + (gi S0 192 27).toNat = _; omega) (by show (gi S0 192 27).toNat < FU; unfold FU; omega)
    have ik : q_in (q_md S0) low high mv k := by
      rcases r4 k hk uk (by omega) (by omega) with q | q
      · omega
      · exact q.2
    have Rk := q_reg_move G hk uk k4
    have cl := q_cnt_move G r5 hk uk k4 ik
    have vk := G.1 k hk uk
    unfold q_val at vk
    exact ⟨hrk _ _ _ Rk (by omega) (by omega), ltR _ _ _ Rk⟩
  have ltG : ∀ g : Int, low < g → g ≤ high → q_bd (q_md S0) (q_n S0) low high mv g → q_lt (q_gap (q_md S0) (q_row (q_md S0) (q_n S0) d) g (q_n S0) 0) := by
    intro g g1 g2 B t ht
    obtain ⟨j, _, sj⟩ := q_gap_src G K B (fun k hk uk gk => r4 k hk uk (by omega) (by omega)) (c := q_n S0) (k := 0) (by omega) ht
    obtain ⟨s1, s2, s3, s4, s5⟩ := sj
    have s2 : j < (gi S0 192 27).toNat := s2
    rcases s5 with s5 | s5
    · omega
    · exact q_bel_lt (by show (gi S0 192 27).toNat ≤ 40; omega) s5.2.2
  intro c
  induction c with
  | zero => intro i n h1 h1' B h2 h3 h4 S hC hf h; exfalso; omega
  | succ c ih =>
    intro i n h1 h1' B h2 h3 h4 S hC hf h
    obtain ⟨n, rfl⟩ : ∃ n', n = n' + 1 := ⟨n - 1, by omega⟩
    rw [q_loop] at h ⊢
    show f_M_layRowB_3_b rk low high mv (f_M_layRowB_3 rk low high mv n) S i = _
    unfold f_M_layRowB_3_b
    by_cases c0 : high < i
    · rw [if_pos c0, if_pos c0]; rfl
    rw [if_neg c0] at h
    rw [if_neg c0, if_neg c0]
    have i32i : i32 i := by omega
    -- behind the gap
    have tail : ∀ S', MX b S' → q_fp S0 S' → ∀ L, gi S' 192 5 + (q_wt (q_W S0) L : Int) ≤ 300 → L = (if q_om (q_md S0) high mv i (q_n S0) = -1 then [i.toNat] ++ q_loop (q_md S0) (q_n S0) (q_row (q_md S0) (q_n S0) d) low high mv c (i + 1) else q_pc (q_md S0) (q_row (q_md S0) (q_n S0) d) mv (q_om (q_md S0) high mv i (q_n S0)).toNat ++ q_loop (q_md S0) (q_n S0) (q_row (q_md S0) (q_n S0) d) low high mv c (q_hi (q_md S0) (q_om (q_md S0) high mv i (q_n S0)).toNat + 1)) → f_M_layRowB_32 rk low high mv (f_M_layRowB_3 rk low high mv n) S' i = some (m_toks S' L) := by
      intro S' hC' hf' L hL eL
      have emd := q_md_fp hf'
      have e27 := hf'.1 192 27 (by omega)
      have b27 := mx_192_27 hC'
      have en : (gi S' 192 27).toNat = q_n S0 := by rw [e27]
      have G' : q_good (q_md S') (gi S' 192 27).toNat F := by rw [emd, en]; exact G
      have R' : q_reg (q_md S') (gi S' 192 27).toNat F low high mv := by rw [emd, en]; exact R
      have B' : q_bd (q_md S') (gi S' 192 27).toNat low high mv i := by rw [emd, en]; exact B
      unfold f_M_layRowB_32
      obtain ⟨t, et, _, ht⟩ := ok_and (ok_M_turnAt S' i high mv hC') (pc_turnAt S' hC' i high mv)
      obtain ⟨q, eq, _, hq⟩ := ok_and (ok_M_innermost S' i 0 hC') (pc_innermost S' hC' i 0 i32i (.inl rfl))
      rcases q_om_spec (q_md S0) high mv i (q_n S0) with ⟨e0, g0⟩ | ⟨m, hm, e0, c0', g0⟩
      · rw [if_pos e0] at eL
        have et1 : t = -1 := by
          refine q_ta_none hC' G' R' (fun t ht ut kt lt ht' => ?_) ht
          rw [en] at ht
          rw [emd] at ut kt lt ht'
          exact absurd ⟨ut, by omega, q_mv_turn R (by omega), lt, ht'⟩ (g0 t ht)
        have eq1 : q = mv := by
          refine q_in_eq R' (by decide) (by omega) (by omega) (fun k hk uk k4 ik => ?_) hq
          rw [en] at hk
          rw [emd] at uk k4 ik ⊢
          intro w
          have := B k hk uk (by omega) ik
          exact g0 k hk ⟨uk, by omega, ik.1, by omega, ik.2.2⟩
        rw [w_b1_is et, if_pos et1]
        rw [eL, q_wt_append] at hL
        have l1 : q_lt [i.toNat] := fun t ht => by simp at ht; omega
        have w1 : q_wt (q_W S0) [i.toNat] = 1 := by show q_W S0 i.toNat + 0 = 1; unfold q_W; rw [if_pos (by omega)]
        have X := q_lays_mx l1 hC' hf' (by omega)
        have lw : f_M_layWord S' i mv = some (m_toks S' [i.toNat]) := by
          unfold f_M_layWord
          rw [w_b1_is eq, if_pos eq1]
          refine ok_lw13 S' hC' i mv (by omega) _ (.inl ⟨fun j hj sj => ?_, by omega, rfl⟩) (gi S' 192 27).toNat 0 FU (by omega) (by unfold FU; omega) (fun j hj => absurd hj (Nat.not_lt_zero j))
          rw [en] at hj
          rw [emd] at sj
          obtain ⟨s1, s2, s3, s4⟩ := sj
          rcases r3 j hj s1 (by omega) (by omega) (by omega) with w | w | w
          · exact q_mv_turn R (by omega) w
          · have := B j hj s1 (by omega) w
            exact g0 j hj ⟨s1, by omega, w.1, by omega, w.2.2⟩
          · omega
        rw [w_b1_is lw, w_chkP (by omega), eL, m_toks_append]
        exact ih (i + 1) n (by omega) (by omega) (q_bd_word B e0) (by omega) (by omega) (by omega) _ X.1 X.2.1 (by omega)
      · have vm := G.1 m hm c0'.1
        unfold q_val at vm
        have im : q_in (q_md S0) low high mv m := ⟨c0'.2.2.1, by omega, c0'.2.2.2.2⟩
        rw [if_neg (by omega), e0, Int.toNat_natCast] at eL
        rw [eL, q_wt_append] at hL
        have Bn := q_bd_next G B h1 hm c0' g0
        have I : ∀ (S'' : SS) (n' : Nat), MX b S'' → q_fp S0 S'' → high + 1 - (q_hi (q_md S0) m + 1) < (n' : Int) → 0 < n' → gi S'' 192 5 + (q_wt (q_W S0) (q_loop (q_md S0) (q_n S0) (q_row (q_md S0) (q_n S0) d) low high mv c (q_hi (q_md S0) m + 1)) : Int) ≤ 300 → f_M_layRowB_3 rk low high mv n' S'' (q_hi (q_md S0) m + 1) = some (m_toks S'' (q_loop (q_md S0) (q_n S0) (q_row (q_md S0) (q_n S0) d) low high mv c (q_hi (q_md S0) m + 1))) := fun S'' n' a e f g h => ih (q_hi (q_md S0) m + 1) n' (by omega) (by omega) Bn (by omega) f g S'' a e h
        by_cases k3 : q_kd (q_md S0) m = 3
        · -- a TURN
          have et1 : t = (m : Int) := q_ta_some hC' G' R' h1 B' (by rw [en]; exact hm) (by rw [emd]; exact c0') (by rw [emd]; exact k3) (by rw [emd, en]; exact g0) ht
          have mvk := q_in_mv h1 B hm c0' k3 g0
          have R1 := q_reg_turn G R hm c0'.1 k3 im (fun k a b c d => mvk k a b c d (by omega)) (a := q_mi (q_md S0) m) (b := q_hi (q_md S0) m) (.inr ⟨rfl, rfl⟩)
          have R2 := q_reg_turn G R hm c0'.1 k3 im (fun k a b c d => mvk k a b c d (by omega)) (a := q_lo (q_md S0) m) (b := q_mi (q_md S0) m - 1) (.inl ⟨rfl, rfl⟩)
          have C1 := q_cnt_turn G hm c0'.1 k3 im (a := q_mi (q_md S0) m) (b := q_hi (q_md S0) m) (.inr ⟨rfl, rfl⟩)
          have C2 := q_cnt_turn G hm c0'.1 k3 im (a := q_lo (q_md S0) m) (b := q_mi (q_md S0) m - 1) (.inl ⟨rfl, rfl⟩)
          have epc : q_pc (q_md S0) (q_row (q_md S0) (q_n S0) d) mv m = q_row (q_md S0) (q_n S0) d (q_mi (q_md S0) m) (q_hi (q_md S0) m) mv ++ q_row (q_md S0) (q_n S0) d (q_lo (q_md S0) m) (q_mi (q_md S0) m - 1) mv := by
            unfold q_pc; rw [if_neg (by omega), if_pos k3]
          rw [epc, q_wt_append] at hL
          rw [epc] at eL
          have el : q_lo (q_md S0) m = gi S0 201 m := md_lo1 (by rw [← md_kd, k3]; decide)
          have eh : q_hi (q_md S0) m = gi S0 203 m := md_hi3 k3
          have emi : q_mi (q_md S0) m = gi S0 202 m := rfl
          have vt : q_lo (q_md S0) m < q_mi (q_md S0) m ∧ q_mi (q_md S0) m ≤ q_hi (q_md S0) m ∧ 0 ≤ q_lo (q_md S0) m ∧ q_hi (q_md S0) m < F := by omega
          clear vm
          have X1 := q_lays_mx (ltR _ _ _ R1) hC' hf' (by omega)
          have X2 := q_lays_mx (ltR _ _ _ R2) X1.1 X1.2.1 (by omega)
          have m40 : (m : Int) < 41 := by
            have hm : m < (gi S0 192 27).toNat := hm
            omega
          rw [w_b1_is et, et1, if_neg (by omega), Int.toNat_natCast, w_chkP (by omega), w_chkP (by omega), hf'.1 202 m (by omega), hf'.1 203 m (by omega), ← emi, ← eh]
          rw [w_b1_is (hrk _ _ _ R1 (by omega) (by omega) S' hC' hf' (by omega)), w_chkP (by omega), w_chkP (by omega), X1.2.1.1 201 m (by omega), X1.2.1.1 202 m (by omega), ← emi, ← el, w_chkP (by omega)]
          rw [w_b1_is (hrk _ _ _ R2 (by omega) (by omega) _ X1.1 X1.2.1 (by omega)), w_chkP (by omega), X2.2.1.1 203 m (by omega), ← eh, w_chkP (by omega), eL, m_toks_append, m_toks_append]
          exact I _ n X2.1 X2.2.1 (by omega) (by omega) (by omega)
        · have et1 : t = -1 := by
            refine q_ta_none hC' G' R' (fun t ht ut kt lt ht' => ?_) ht
            rw [en] at ht
            rw [emd] at ut kt lt ht' ⊢
            have vt := G.1 t ht ut
            unfold q_val at vt
            have ct := g0 t ht ⟨ut, by omega, q_mv_turn R (by omega), lt, ht'⟩
            rcases G.2 t m ht hm (fun q => k3 (by rw [← q]; exact kt)) ut c0'.1 with p | p | p
            · have k4 : q_kd (q_md S0) m = 4 := by omega
              exact ⟨m, by rw [en]; exact hm, c0'.1, k4, im, by omega, by omega⟩
            · omega
            · exact absurd ⟨by omega, by omega, by omega, by omega⟩ p.1
          have lq : q_lt (q_pc (q_md S0) (q_row (q_md S0) (q_n S0) d) mv m) := by
            intro t ht
            unfold q_pc at ht
            have hm : m < (gi S0 192 27).toNat := hm
            by_cases k2 : q_kd (q_md S0) m = 2
            · rw [if_pos k2] at ht; simp at ht; omega
            · rw [if_neg k2, if_neg k3] at ht; simp at ht
          have X := q_lays_mx lq hC' hf' (by omega)
          have lw : f_M_layWord S' i mv = some (m_toks S' (q_pc (q_md S0) (q_row (q_md S0) (q_n S0) d) mv m)) := by
            unfold f_M_layWord
            rw [w_b1_is eq]
            unfold q_pc
            by_cases k4 : q_kd (q_md S0) m = 4
            · rw [if_neg (q_in_ne G' R' (by rw [en]; exact hm) (by rw [emd]; exact c0'.1) (by rw [emd]; exact k4) (by rw [emd]; exact im) (by rw [emd]; omega) (by rw [emd]; omega) hq), if_neg (by omega), if_neg k3]
              rfl
            · have eq1 : q = mv := by
                refine q_in_eq R' (by decide) (by omega) (by omega) (fun k hk uk kk ik => ?_) hq
                rw [en] at hk
                rw [emd] at uk kk ik ⊢
                intro w
                have bk := B k hk uk (by omega) ik
                have gk := g0 k hk ⟨uk, by omega, ik.1, by omega, ik.2.2⟩
                rcases G.2 k m hk hm (fun q => k4 (by rw [← q]; exact kk)) uk c0'.1 with p | p | p
                · omega
                · omega
                · exact p.1 ⟨by omega, by omega, by omega, by omega⟩
              rw [if_pos eq1]
              have sm : q_sc (q_md S') i m := by rw [emd]; exact ⟨c0'.1, by omega, by omega, by omega⟩
              refine ok_lw13 S' hC' i mv (by omega) _ (.inr ⟨m, by rw [en]; exact hm, sm, fun j hj sj => q_sc_one G' hj (by rw [en]; exact hm) sj sm, ?_⟩) (gi S' 192 27).toNat 0 FU (by omega) (by unfold FU; omega) (fun j hj => absurd hj (Nat.not_lt_zero j))
              rw [emd]
              by_cases k2 : q_kd (q_md S0) m = 2
              · rw [if_pos k2]
                refine .inl ⟨k2, by omega, ?_, rfl⟩
                have : q_wt (q_W S0) (q_pc (q_md S0) (q_row (q_md S0) (q_n S0) d) mv m) = q_W S0 (60 + m) + 0 := by unfold q_pc; rw [if_pos k2]; rfl
                rw [q_W_fp hf']; omega
              · rw [if_neg k2, if_neg k3]
                exact .inr ⟨fun w => k2 w.1, rfl⟩
          rw [w_b1_is et, if_pos et1, w_b1_is lw, w_chkP (by omega), eL, m_toks_append]
          have fp := X.2.1
          generalize m_toks S' (q_pc (q_md S0) (q_row (q_md S0) (q_n S0) d) mv m) = S2 at X fp ⊢
          have emd2 := q_md_fp fp
          have e272 := fp.1 192 27 (by omega)
          have en2 : (gi S2 192 27).toNat = q_n S0 := by rw [e272]
          have SK := ok_skip S2 X.1 hF (i := i) (low := low) (high := high) (mv := mv) (m := m) (F := F) (by rw [emd2, en2]; exact G) (by rw [emd2, en2]; exact R) rk (by rw [en2]; exact hm) (by rw [emd2]; exact c0') (by rw [emd2]; exact k3) h1
          rw [emd2] at SK
          refine SK _ (fun i' hk4 a e => ?_) (fun n' hn' => I S2 n' X.1 fp hn' (by omega) (by omega)) (q_hi (q_md S0) m - i).toNat (i + 1) n (by omega) (by omega) (by omega)
          have gl := gapL i' (by omega) (by omega) S2 X.1 fp
          have nil : q_gap (q_md S0) (q_row (q_md S0) (q_n S0) d) i' (q_n S0) 0 = [] := by
            refine q_gap_nil (q_n S0) 0 (fun j _ hj uj gj => ?_)
            have hj : j < q_n S0 := by omega
            have vj := G.1 j hj uj
            unfold q_val at vj
            have ne : j ≠ m := by intro w; subst w; omega
            rcases G.2 j m hj hm ne uj c0'.1 with p | p | p
            · omega
            · omega
            · exact p.2.1 ⟨by omega, by omega, by omega, by omega⟩
          rw [nil] at gl
          exact gl (by have := mx_192_5 X.1; show gi S2 192 5 + 0 ≤ 300; omega)
    by_cases c1 : i ≤ low
    · rw [if_pos c1]
      rw [if_neg (show ¬ low < i by omega), List.nil_append] at h ⊢
      exact tail S hC hf _ h rfl
    · rw [if_neg c1]
      rw [if_pos (show low < i by omega)] at h ⊢
      have emd := q_md_fp hf
      have en : (gi S 192 27).toNat = q_n S0 := by rw [hf.1 192 27 (by omega)]
      obtain ⟨q, eq, _, hq⟩ := ok_and (ok_M_innermost S i 1 hC) (pc_innermost S hC i 1 i32i (.inr rfl))
      have eq1 : q = mv := by
        refine q_in_eq (F := F) (low := low) (high := high) (by rw [emd, en]; exact R) (by decide) (by omega) (by omega) (fun k hk uk k4 ik => ?_) hq
        rw [en] at hk
        rw [emd] at uk k4 ik ⊢
        intro w
        exact B k hk uk (by omega) ik ⟨by omega, by omega⟩
      rw [q_wt_append] at h
      rw [w_b1_is eq, if_pos eq1, w_b1_is (gapL i (by omega) (by omega) S hC hf (by omega)), m_toks_append]
      have X := q_lays_mx (ltG i (by omega) (by omega) B) hC hf (by omega)
      exact tail _ X.1 X.2.1 _ (by omega) rfl
theorem ok_lrow {b : Nat} (S0 : SS) {F : Int} (hn0 : 0 ≤ gi S0 192 27 ∧ gi S0 192 27 ≤ 40) (hF : F ≤ 60) (G : q_good (q_md S0) (q_n S0) F) : ∀ (d : Nat) (low high mv : Int), q_reg (q_md S0) (q_n S0) F low high mv → low ≤ high → q_cnt (q_md S0) low high mv (q_n S0) < d → q_lays b S0 (fun S => f_M_layRow d S low high mv) (q_row (q_md S0) (q_n S0) d low high mv) := by
  intro d
  induction d with
  | zero => intro low high mv _ _ h; exact absurd h (Nat.not_lt_zero _)
  | succ d ih =>
    intro low high mv R hl h
    have r1 := R.1
    have r2 := R.2.1
    exact ok_loop S0 hn0 hF G R d h (f_M_layRow d) ih 100 low FU (by omega) (by omega) q_bd_low (by omega) (by unfold FU; omega) (by unfold FU; omega)
/-- where the text of w is begun -/
def q_begun (b : Nat) (w : Int) (S Su : SS) : Prop := MX b Su ∧ gi Su 192 5 = 0 ∧ Su.2 = S.2 ∧ (∀ r k, r ≠ 212 → r ≠ 213 → r ≠ 214 → ¬ (r = 192 ∧ k = 5) → gi Su r k = gi S r k) ∧ (∀ j : Nat, (j : Int) < gi S 192 27 → gi Su 212 j = m_st S j ∧ gi Su 214 j = m_us w (m_st S) j) ∧ q_good (q_md Su) (q_n S) (gi S 192 3)
theorem ok_make {b : Nat} (S : SS) (w : Int) (hC : MX b S) (hN : NX S) : okk (f_M_make S w) (fun S1 => MX b S1 ∧ ∃ Su, q_begun b w S Su ∧ q_fp Su S1 ∧ S1 = m_toks Su (q_all (q_md Su) (q_n S) (gi S 192 3))) := by
  have b27 := mx_192_27 hC
  have b3 := mx_192_3 hC
  unfold f_M_make
  refine ok_b1 (ok_and (ok_M_use S w hC) (pc_use S w hC)) (fun S1 h1 => ok_lt (fun Su eu => ?_))
  have hCu : MX b Su := by rw [eu]; exact ms_192_5 h1.1.1 (by decide) (by decide)
  have u5 : gi Su 192 5 = 0 := by rw [eu, gi_si, if_pos ⟨rfl, rfl⟩]
  have uf : ∀ r k, r ≠ 212 → r ≠ 213 → r ≠ 214 → ¬ (r = 192 ∧ k = 5) → gi Su r k = gi S r k := fun r k a c d e => by
    rw [eu, gi_si, if_neg e]; exact h1.2.1.2 r k a c d
  have uu : ∀ j : Nat, (j : Int) < gi S 192 27 → gi Su 212 j = m_st S j ∧ gi Su 214 j = m_us w (m_st S) j := fun j hj => by
    rw [eu, gi_si, gi_si, if_neg (by omega), if_neg (by omega)]; exact h1.2.2 j hj
  have emd : q_md Su = q_md S1 := q_md_fp ⟨fun r k h => by rw [eu, gi_si, if_neg h], fun r k _ => by rw [eu]; rfl, by rw [eu]; rfl⟩
  have G : q_good (q_md Su) (q_n S) (gi S 192 3) := by rw [emd]; exact q_fu_good hN b27.1 h1.2.1 h1.2.2
  have e27 : gi Su 192 27 = gi S 192 27 := uf 192 27 (by decide) (by decide) (by decide) (by omega)
  have e3 : gi Su 192 3 = gi S 192 3 := uf 192 3 (by decide) (by decide) (by decide) (by omega)
  have en : q_n Su = q_n S := by unfold q_n; rw [e27]
  have BG : q_begun b w S Su := ⟨hCu, u5, by rw [eu]; exact h1.2.1.1, uf, uu, G⟩
  have bW : ∀ t, q_W Su t ≤ 6 := fun t => by
    unfold q_W
    have := mx_204 hCu (t - 60)
    split <;> omega
  have bW1 : ∀ t, t < 60 → q_W Su t ≤ 1 := fun t ht => by unfold q_W; rw [if_pos ht]; exact Nat.le_refl _
  have W := q_all_wt G b3.2 b3.1 (show (gi S 192 27).toNat ≤ 40 by omega) (q_W Su) bW1 bW
  have L := q_all_ok G b3.2 b3.1 (show (gi S 192 27).toNat ≤ 40 by omega)
  have LR := ok_lrow (b := b) Su (F := gi S 192 3) (by omega) b3.2 (by rw [en]; exact G)
  rw [en] at LR
  have K := q_row_ok G b3.2 43
  have hcnt : ∀ low high mv, q_cnt (q_md Su) low high mv (q_n S) < 43 := fun low high mv => by
    have := q_cnt_le (q_md Su) low high mv (q_n S)
    have : q_n S ≤ 40 := by show (gi S 192 27).toNat ≤ 40; omega
    omega
  have gapL : ∀ g : Int, 0 ≤ g → q_lays b Su (fun S => f_M_layGap (f_M_layRow 43) S g) (q_gap (q_md Su) (q_row (q_md Su) (q_n S) 43) g (q_n S) 0) := by
    intro g g0
    have := ok_lgap (b := b) Su (F := gi S 192 3) (by rw [show (gi Su 192 27).toNat = q_n S from en]; exact G) (f_M_layRow 43) (q_row (q_md Su) (q_n S) 43) g g0 (fun k hk uk gk k4 => ?_) (q_n S) 0 FU (by rw [show (gi Su 192 27).toNat = q_n S from en]; omega) (by show (gi S 192 27).toNat < FU; unfold FU; omega)
    · exact this
    · rw [show (gi Su 192 27).toNat = q_n S from en] at hk
      have Rk := q_reg_move G hk uk k4
      have vk := G.1 k hk uk
      unfold q_val at vk
      exact ⟨LR 43 _ _ _ Rk (by omega) (hcnt _ _ _), fun t ht => q_bel_lt (show (gi S 192 27).toNat ≤ 40 by omega) ((K _ _ _ Rk).2 t ht)⟩
  have fin : okk (some (m_toks Su (q_all (q_md Su) (q_n S) (gi S 192 3)))) (fun S1 => MX b S1 ∧ ∃ Su, q_begun b w S Su ∧ q_fp Su S1 ∧ S1 = m_toks Su (q_all (q_md Su) (q_n S) (gi S 192 3))) := by
    have X := m_toks_ok _ Su hCu (fun t ht => by have := L.2 t ht; omega) (by omega)
    exact ok_some ⟨X.1, Su, BG, X.2.1, rfl⟩
  have sub : ∀ A B : List Nat, (∀ t, t ∈ A ++ B → t < 100) → q_lt A ∧ (∀ t, t ∈ B → t < 100) := fun A B h => ⟨fun t ht => by have := h t (List.mem_append_left B ht); omega, fun t ht => h t (List.mem_append_right A ht)⟩
  rw [e3]
  have W' := W
  have L' := L.2
  unfold q_all at W' L' fin
  by_cases c : gi S 192 3 = 0
  · rw [if_pos c]
    rw [if_pos c, List.append_nil] at W' L' fin
    have := gapL 0 (by decide) Su hCu (q_fp_refl Su) (by omega)
    rw [show f_M_layGap (f_M_layRow 43) Su 0 = _ from this]
    exact fin
  · rw [if_neg c]
    rw [if_neg c] at W' L' fin
    rw [q_wt_append, q_wt_append] at W'
    rw [m_toks_append, m_toks_append] at fin
    have s1 := sub _ _ L'
    have s2 := sub _ _ s1.2
    have g0 := gapL 0 (by decide) Su hCu (q_fp_refl Su) (by omega)
    have X0 := q_lays_mx s1.1 hCu (q_fp_refl Su) (by omega)
    rw [w_b1_is g0]
    have f3 : gi (m_toks Su (q_gap (q_md Su) (q_row (q_md Su) (q_n S) 43) 0 (q_n S) 0)) 192 3 = gi S 192 3 := (X0.2.1.1 192 3 (by omega)).trans e3
    rw [f3]
    refine ok_chk (by omega) ?_
    have r1 := LR 43 0 (gi S 192 3 - 1) (-1) (q_reg_top G) (by omega) (hcnt _ _ _) _ X0.1 X0.2.1 (by omega)
    have X1 := q_lays_mx s2.1 X0.1 X0.2.1 (by omega)
    rw [w_b1_is r1]
    have f3' : gi (m_toks (m_toks Su (q_gap (q_md Su) (q_row (q_md Su) (q_n S) 43) 0 (q_n S) 0)) (q_row (q_md Su) (q_n S) 43 0 (gi S 192 3 - 1) (-1))) 192 3 = gi S 192 3 := (X1.2.1.1 192 3 (by omega)).trans e3
    rw [f3']
    have g1 := gapL (gi S 192 3) b3.1 _ X1.1 X1.2.1 (by omega)
    rw [w_b1_is g1]
    exact fin
/-- all ints stay but at the places X -/
def fr (X : Nat → Nat → Prop) (S S1 : SS) : Prop := ∀ r k, ¬ X r k → gi S1 r k = gi S r k
theorem fr_refl (X : Nat → Nat → Prop) (S : SS) : fr X S S := fun _ _ _ => rfl
theorem fr_trans {X : Nat → Nat → Prop} {S S1 S2 : SS} (h : fr X S S1) (h2 : fr X S1 S2) : fr X S S2 := fun r k a => (h2 r k a).trans (h r k a)
theorem fr_mono {X Y : Nat → Nat → Prop} {S S1 : SS} (h : fr X S S1) (hx : ∀ r k, X r k → Y r k) : fr Y S S1 := fun r k a => h r k (fun q => a (hx r k q))
theorem fr_si {X : Nat → Nat → Prop} {S S1 : SS} (h : fr X S S1) {r k : Nat} {v : Int} (hx : X r k) : fr X S (si S1 r k v) := by
  intro r' k' a
  rw [gi_si, if_neg (fun q => a (by rw [q.1, q.2]; exact hx))]; exact h r' k' a
theorem fr_sl {X : Nat → Nat → Prop} {S S1 : SS} (h : fr X S S1) {r k : Nat} {v : Int64} : fr X S (sl S1 r k v) := fun r' k' a => h r' k' a
theorem pf_lt {β : Type} {X : Nat → Nat → Prop} {S0 S : SS} {r k : Nat} {v : Int} {g : SS → Option β} {P : β → Prop} (h : fr X S0 S) (hx : X r k) (hk : ∀ y, fr X S0 y → pc (g y) P) : pc (w_lt (si S r k v) g) P := hk _ (fr_si h hx)
theorem pf_lts {β : Type} {X : Nat → Nat → Prop} {S0 S : SS} {r k : Nat} {v : Int64} {g : SS → Option β} {P : β → Prop} (h : fr X S0 S) (hk : ∀ y, fr X S0 y → pc (g y) P) : pc (w_lt (sl S r k v) g) P := hk _ (fr_sl h)
theorem pf_wr {β : Type} {X : Nat → Nat → Prop} {S0 S : SS} {a c : Int} {g : SS → Option β} {P : β → Prop} (h : fr X S0 S) (hx : X 192 14) (hx2 : X 192 15) (hk : ∀ y, fr X S0 y → pc (g y) P) : pc (w_lt (f_M_wrong S a c) g) P := hk _ (fr_si (fr_si h hx) hx2)
theorem pf_b1 {α β : Type} {P : β → Prop} {x : Option α} {k : α → Option β} (hk : ∀ a, pc (k a) P) : pc (w_b1 x k) P := pc_b1 (R := fun _ => True) (fun _ _ => trivial) (fun a _ => hk a)
theorem fr_wrong {X : Nat → Nat → Prop} {S0 S : SS} {a c : Int} (h : fr X S0 S) (hx : X 192 14) (hx2 : X 192 15) : fr X S0 (f_M_wrong S a c) := fr_si (fr_si h hx) hx2
abbrev XSC (X : Nat → Nat → Prop) : Prop := ∀ k, 9 ≤ k → k ≤ 15 → X 192 k
theorem fr_begin {X : Nat → Nat → Prop} (hX : XSC X) (h8 : X 192 8) {S0 S : SS} (h : fr X S0 S) : fr X S0 (f_M_begin S) := fr_si (fr_si (fr_si (fr_si (fr_si h (hX _ (by omega) (by omega))) h8) (hX _ (by omega) (by omega))) (hX _ (by omega) (by omega))) (hX _ (by omega) (by omega))
theorem pfl_scan_81 {X : Nat → Nat → Prop} (hX : XSC X) (S0 : SS) : ∀ (n : Nat) (S : SS), fr X S0 S → pc (f_M_scan_81 n S) (fr X S0) := by
  intro n
  induction n with
  | zero => intro S h r e; exact absurd e (by simp [f_M_scan_81])
  | succ n ih =>
    intro S h
    show pc (f_M_scan_81_b (f_M_scan_81 n) S) _
    unfold f_M_scan_81_b
    repeat' first | with_reducible exact ih _ (by assumption) | with_reducible exact pc_some (by assumption) | with_reducible refine pc_chk (fun _ => ?_) | with_reducible refine pc_if (fun _ => ?_) (fun _ => ?_) | with_reducible refine pf_lt (by assumption) (hX _ (by omega) (by omega)) (fun _ _ => ?_) | with_reducible refine pf_b1 (fun _ => ?_)
theorem pfl_scan_128 {X : Nat → Nat → Prop} (hX : XSC X) (S0 : SS) : ∀ (n : Nat) (S : SS), fr X S0 S → pc (f_M_scan_128 n S) (fr X S0) := by
  intro n
  induction n with
  | zero => intro S h r e; exact absurd e (by simp [f_M_scan_128])
  | succ n ih =>
    intro S h
    show pc (f_M_scan_128_b (f_M_scan_128 n) S) _
    unfold f_M_scan_128_b f_M_scan_178 f_M_scan_210
    repeat' first | with_reducible exact ih _ (by assumption) | with_reducible exact pc_some (by assumption) | with_reducible refine pc_chk (fun _ => ?_) | with_reducible refine pc_if (fun _ => ?_) (fun _ => ?_) | with_reducible refine pf_lt (by assumption) (hX _ (by omega) (by omega)) (fun _ _ => ?_) | with_reducible refine pf_b1 (fun _ => ?_)
theorem pf_scan_38 {X : Nat → Nat → Prop} (hX : XSC X) (S0 S : SS) (h : fr X S0 S) : pc (f_M_scan_38 S) (fr X S0) := by
  unfold f_M_scan_38 f_M_scan_235 f_M_scan_240
  repeat' first | with_reducible exact pfl_scan_81 hX S0 FU _ (by assumption) | with_reducible exact pfl_scan_128 hX S0 FU _ (by assumption) | with_reducible exact pc_some (by assumption) | with_reducible refine pc_chk (fun _ => ?_) | with_reducible refine pc_if (fun _ => ?_) (fun _ => ?_) | with_reducible refine pf_lt (by assumption) (hX _ (by omega) (by omega)) (fun _ _ => ?_) | with_reducible refine pf_b1 (fun _ => ?_)
theorem pfl_scan_0 {X : Nat → Nat → Prop} (hX : XSC X) (S0 : SS) : ∀ (n : Nat) (S : SS), fr X S0 S → pc (f_M_scan_0 n S) (fr X S0) := by
  intro n
  induction n with
  | zero => intro S h r e; exact absurd e (by simp [f_M_scan_0])
  | succ n ih =>
    intro S h
    show pc (f_M_scan_0_b (f_M_scan_0 n) S) _
    unfold f_M_scan_0_b
    repeat' first | with_reducible exact ih _ (by assumption) | with_reducible exact pf_scan_38 hX S0 _ (by assumption) | with_reducible exact pc_some (by assumption) | with_reducible refine pc_chk (fun _ => ?_) | with_reducible refine pc_if (fun _ => ?_) (fun _ => ?_) | with_reducible refine pf_lt (by assumption) (hX _ (by omega) (by omega)) (fun _ _ => ?_) | with_reducible refine pf_b1 (fun _ => ?_)
theorem pf_scan {X : Nat → Nat → Prop} (hX : XSC X) (S0 S : SS) (h : fr X S0 S) : pc (f_M_scan S) (fr X S0) := pfl_scan_0 hX S0 FU S h
theorem pf_number {X : Nat → Nat → Prop} (hX : XSC X) (S0 S : SS) (h : fr X S0 S) (a c : Int) : pc (f_M_number S a c) (fun u => fr X S0 u.2 ∧ ∀ r, u.1 = some r → a ≤ r ∧ r ≤ c) := by
  unfold f_M_number
  have i01 := in01 S (gi S 192 13) a c
  refine pc_if (fun c1 => pc_if (fun c2 => ?_) (fun c2 => ?_)) (fun c1 => ?_)
  · exact pc_some ⟨fr_wrong h (hX _ (by omega) (by omega)) (hX _ (by omega) (by omega)), fun r e => nomatch e⟩
  · exact pc_b1 (pf_scan hX S0 S h) (fun S8 h8 => pc_some ⟨h8, fun r e => by cases e; omega⟩)
  · exact pc_some ⟨fr_wrong h (hX _ (by omega) (by omega)) (hX _ (by omega) (by omega)), fun r e => nomatch e⟩
theorem pfl_rw96 {X : Nat → Nat → Prop} (hX : XSC X) (S0 : SS) (v1 : Int) (hv : X 204 v1.toNat) (kf : SS → Option (Option Unit × SS)) (hk : ∀ S, fr X S0 S → pc (kf S) (fun u => fr X S0 u.2)) : ∀ (n : Nat) (S : SS) (v2 : Int) (w3 : Int64), fr X S0 S → pc (f_M_readWords_96 v1 kf n S v2 w3) (fun u => fr X S0 u.2) := by
  intro n
  induction n with
  | zero => intro S v2 w3 h r e; exact absurd e (by simp [f_M_readWords_96])
  | succ n ih =>
    intro S v2 w3 h
    show pc (f_M_readWords_96_b v1 kf (f_M_readWords_96 v1 kf n) S v2 w3) _
    unfold f_M_readWords_96_b f_M_readWords_204 f_M_readWords_170 f_M_readWords_171 f_M_readWords_191
    repeat' first | with_reducible exact ih _ _ _ (by assumption) | with_reducible exact hk _ (by assumption) | with_reducible exact pc_some (by assumption) | with_reducible refine pc_chk (fun _ => ?_) | with_reducible refine pc_if (fun _ => ?_) (fun _ => ?_) | with_reducible refine pf_wr (by assumption) (hX _ (by omega) (by omega)) (hX _ (by omega) (by omega)) (fun _ _ => ?_) | with_reducible refine pf_lt (by assumption) (hX _ (by omega) (by omega)) (fun _ _ => ?_) | with_reducible refine pf_lt (by assumption) hv (fun _ _ => ?_) | with_reducible refine pf_lts (by assumption) (fun _ _ => ?_) | with_reducible refine pf_b1 (fun _ => ?_)
theorem pfl_rw19 {X : Nat → Nat → Prop} (hX : XSC X) (S0 : SS) (v1 : Int) (hv : X 204 v1.toNat) : ∀ (n : Nat) (S : SS), fr X S0 S → pc (f_M_readWords_19 v1 n S) (fun u => fr X S0 u.2) := by
  intro n
  induction n with
  | zero => intro S h r e; exact absurd e (by simp [f_M_readWords_19])
  | succ n ih =>
    intro S h
    show pc (f_M_readWords_19_b v1 (f_M_readWords_19 v1 n) S) _
    unfold f_M_readWords_19_b f_M_readWords_57 f_M_readWords_269
    repeat' first | with_reducible exact ih _ (by assumption) | with_reducible exact pfl_rw96 hX S0 v1 hv _ ih FU _ _ _ (by assumption) | with_reducible exact pc_b1 (pf_scan hX S0 _ (by assumption)) (fun _ h8 => pc_some h8) | with_reducible exact pc_some (by assumption) | with_reducible refine pc_chk (fun _ => ?_) | with_reducible refine pc_if (fun _ => ?_) (fun _ => ?_) | with_reducible refine pf_wr (by assumption) (hX _ (by omega) (by omega)) (hX _ (by omega) (by omega)) (fun _ _ => ?_) | with_reducible refine pf_lt (by assumption) (hX _ (by omega) (by omega)) (fun _ _ => ?_) | with_reducible refine pf_b1 (fun _ => ?_)
theorem pf_readWords {X : Nat → Nat → Prop} (hX : XSC X) (S0 S : SS) (v1 : Int) (hv : X 204 v1.toNat) (h : fr X S0 S) : pc (f_M_readWords S v1) (fun u => fr X S0 u.2) := by
  unfold f_M_readWords
  repeat' first | with_reducible exact pfl_rw19 hX S0 v1 hv FU _ (by assumption) | with_reducible exact pc_some (by assumption) | with_reducible refine pc_if (fun _ => ?_) (fun _ => ?_) | with_reducible refine pf_wr (by assumption) (hX _ (by omega) (by omega)) (hX _ (by omega) (by omega)) (fun _ _ => ?_) | with_reducible refine pf_b1 (fun _ => ?_)
/-- what reading a line behind its numbers may change -/
abbrev XF4 (m : Nat) (r k : Nat) : Prop := (r = 204 ∧ k = m) ∨ (r = 192 ∧ 9 ≤ k ∧ k ≤ 15)
theorem XF4_S (m : Nat) : XSC (XF4 m) := fun k a c => .inr ⟨rfl, a, c⟩
theorem pf_rl505 (S0 S : SS) (m : Nat) (h : fr (XF4 m) S0 S) : pc (f_M_readLine_505 (m : Int) S) (fun u => fr (XF4 m) S0 u.2) := by
  unfold f_M_readLine_505
  refine pf_b1 (fun _ => pc_if (fun _ => pf_wr h (XF4_S m _ (by omega) (by omega)) (XF4_S m _ (by omega) (by omega)) (fun _ h => pc_some h)) (fun _ => pc_b1 (pf_scan (XF4_S m) S0 S h) (fun _ h8 => pc_some h8)))
theorem pf_rl480 (S0 S : SS) (m : Nat) (h : fr (XF4 m) S0 S) : pc (f_M_readLine_480 (m : Int) S) (fun u => fr (XF4 m) S0 u.2) := by
  have h500 : pc (f_M_readLine_500 (m : Int) S) (fun u => fr (XF4 m) S0 u.2) := by
    unfold f_M_readLine_500
    exact pc_b3 (pf_readWords (XF4_S m) S0 S (m : Int) (.inl ⟨rfl, Int.toNat_natCast m⟩) h) (fun s h => pc_some h) (fun _ s h => pf_rl505 S0 s m h)
  unfold f_M_readLine_480
  exact pc_chk (fun _ => pc_if (fun _ => h500) (fun _ => pc_chk (fun _ => pc_if (fun _ => h500) (fun _ => pf_rl505 S0 S m h))))
theorem m_val_fr {S S1 : SS} {k : Nat} (h : m_val S k) (e1 : gi S1 199 k = gi S 199 k) (e2 : gi S1 201 k = gi S 201 k) (e3 : gi S1 202 k = gi S 202 k) (e4 : gi S1 203 k = gi S 203 k) (e5 : gi S1 192 3 = gi S 192 3) : m_val S1 k := by
  unfold m_val
  rw [e1, e2, e3, e4, e5]; exact h
/-- what reading a line may change -/
abbrev XFL (m : Nat) (r k : Nat) : Prop := (199 ≤ r ∧ r ≤ 208 ∧ k = m) ∨ (r = 192 ∧ 9 ≤ k ∧ k ≤ 15)
theorem XFL_S (m : Nat) : XSC (XFL m) := fun k a c => .inr ⟨rfl, a, c⟩
abbrev QFL (m : Nat) (S0 : SS) (u : Option Unit × SS) : Prop := fr (XFL m) S0 u.2 ∧ (u.1 ≠ none → m_val u.2 m)
theorem pf_rl480v (S0 S : SS) (m : Nat) (h : fr (XFL m) S0 S) (hv : m_val S m) : pc (f_M_readLine_480 (m : Int) S) (QFL m S0) := by
  refine pc_mono (pf_rl480 S S m (fr_refl _ S)) (fun u hu => ⟨fr_trans h (fr_mono hu (fun r k q => by omega)), fun _ => ?_⟩)
  exact m_val_fr hv (hu 199 m (by omega)) (hu 201 m (by omega)) (hu 202 m (by omega)) (hu 203 m (by omega)) (hu 192 3 (by omega))
abbrev XFN (r k : Nat) : Prop := r = 192 ∧ 9 ≤ k ∧ k ≤ 15
theorem XFN_S : XSC XFN := fun k a c => ⟨rfl, a, c⟩
theorem gi_at (S : SS) (r k : Nat) (v : Int) : gi (si S r k v) r k = v := by rw [gi_si, if_pos ⟨rfl, rfl⟩]
theorem gi_off {S : SS} {r k r' k' : Nat} {v : Int} (h : ¬ (r' = r ∧ k' = k)) : gi (si S r k v) r' k' = gi S r' k' := by rw [gi_si, if_neg h]
theorem pf_num (S : SS) (a c : Int) : pc (f_M_number S a c) (fun u => fr XFN S u.2 ∧ ∀ r, u.1 = some r → a ≤ r ∧ r ≤ c ∧ r = gi S 192 13 ∧ gi S 192 12 = 2) := by
  unfold f_M_number
  have i01 := in01 S (gi S 192 13) a c
  refine pc_if (fun c1 => pc_if (fun c2 => ?_) (fun c2 => ?_)) (fun c1 => ?_)
  · exact pc_some ⟨fr_wrong (fr_refl _ S) (XFN_S _ (by omega) (by omega)) (XFN_S _ (by omega) (by omega)), fun r e => nomatch e⟩
  · exact pc_b1 (pf_scan XFN_S S S (fr_refl _ S)) (fun S8 h8 => pc_some ⟨h8, fun r e => by cases e; exact ⟨by omega, by omega, rfl, c1⟩⟩)
  · exact pc_some ⟨fr_wrong (fr_refl _ S) (XFN_S _ (by omega) (by omega)) (XFN_S _ (by omega) (by omega)), fun r e => nomatch e⟩
theorem XFN_L {m : Nat} {S0 S S1 : SS} (h : fr (XFL m) S0 S) (h1 : fr XFN S S1) : fr (XFL m) S0 S1 := fr_trans h (fr_mono h1 (fun r k q => .inr q))
theorem XFL_si {m : Nat} {S0 S : SS} (h : fr (XFL m) S0 S) {r : Nat} {v : Int} (h1 : 199 ≤ r) (h2 : r ≤ 208) : fr (XFL m) S0 (si S r m v) := fr_si h (.inl ⟨h1, h2, rfl⟩)
theorem pf_rm105 (S0 S : SS) (m : Nat) (h : fr (XFL m) S0 S) (hk : gi S 199 m = 4) (h1 : 0 ≤ gi S 201 m ∧ gi S 201 m ≤ gi S 202 m ∧ gi S 202 m < gi S 192 3) (hg : gi S 192 12 = 2 → gi S 192 13 < gi S 201 m ∨ gi S 202 m + 1 < gi S 192 13) : pc (f_M_readMove_105 (m : Int) S) (QFL m S0) := by
  unfold f_M_readMove_105
  refine pc_b3 (pf_num S 0 (gi S 192 3)) (fun s hs => pc_some ⟨XFN_L h hs.1, fun q => absurd rfl q⟩) (fun r s hs => pc_chk (fun _ => pc_lt (fun S6 e6 => pc_some ⟨?_, fun _ => ?_⟩)))
  · rw [e6, Int.toNat_natCast]; exact XFL_si (XFN_L h hs.1) (by omega) (by omega)
  · have hr := hs.2 r rfl
    have hg := hg hr.2.2.2
    rw [Int.toNat_natCast] at e6
    have f1 : gi s 199 m = gi S 199 m := hs.1 199 m (by omega)
    have f2 : gi s 201 m = gi S 201 m := hs.1 201 m (by omega)
    have f3 : gi s 202 m = gi S 202 m := hs.1 202 m (by omega)
    have f4 : gi s 192 3 = gi S 192 3 := hs.1 192 3 (by omega)
    right; right; right; left
    rw [e6, gi_at, gi_off (by omega), gi_off (by omega), gi_off (by omega), gi_off (by omega)]
    omega
theorem pf_rm56 (S0 S : SS) (m : Nat) (h : fr (XFL m) S0 S) (hk : gi S 199 m = 4) (h1 : 0 ≤ gi S 201 m) (a : Int) (ha : a < gi S 192 3) : pc (f_M_readMove_56 (m : Int) S a (gi S 201 m) (m : Int)) (QFL m S0) := by
  unfold f_M_readMove_56
  refine pc_b3 (pf_num S (gi S 201 m) a) (fun s hs => pc_some ⟨XFN_L h hs.1, fun q => absurd rfl q⟩) (fun r s hs => pc_chk (fun _ => pc_lt (fun S5 e5 => ?_)))
  have hr := hs.2 r rfl
  rw [Int.toNat_natCast] at e5 ⊢
  have hL : fr (XFL m) S0 S5 := by rw [e5]; exact XFL_si (XFN_L h hs.1) (by omega) (by omega)
  have f1 : gi S5 199 m = 4 := by rw [e5, gi_off (by omega), hs.1 199 m (by omega)]; exact hk
  have f2 : gi S5 201 m = gi S 201 m := by rw [e5, gi_off (by omega), hs.1 201 m (by omega)]
  have f3 : gi S5 202 m = r := by rw [e5, gi_at]
  have f4 : gi S5 192 3 = gi S 192 3 := by rw [e5, gi_off (by omega), hs.1 192 3 (by omega)]
  have i01 := in01 S5 (gi S5 192 13) (gi S5 201 m) (gi S5 202 m + 1)
  refine pc_if (fun c1 => pc_chk (fun _ => pc_chk (fun _ => pc_chk (fun _ => pc_if (fun c2 => pf_rm105 S0 S5 m hL f1 (by omega) (fun _ => by omega)) (fun c2 => ?_))))) (fun c1 => pf_rm105 S0 S5 m hL f1 (by omega) (fun q => absurd q c1))
  exact pc_some ⟨fr_wrong hL (XFL_S m _ (by omega) (by omega)) (XFL_S m _ (by omega) (by omega)), fun q => absurd rfl q⟩
theorem pf_rm23 (S0 S : SS) (m : Nat) (h : fr (XFL m) S0 S) (hk : gi S 199 m = 4) (a : Int) (ha : 0 ≤ a) : pc (f_M_readMove_23 (m : Int) S (gi S 192 3 - 1) a (m : Int)) (QFL m S0) := by
  unfold f_M_readMove_23
  refine pc_b3 (pf_num S a (gi S 192 3 - 1)) (fun s hs => pc_some ⟨XFN_L h hs.1, fun q => absurd rfl q⟩) (fun r s hs => pc_chk (fun _ => pc_lt (fun S5 e5 => pc_chk (fun _ => pc_chk (fun _ => ?_)))))
  have hr := hs.2 r rfl
  rw [Int.toNat_natCast] at e5 ⊢
  have hL : fr (XFL m) S0 S5 := by rw [e5]; exact XFL_si (XFN_L h hs.1) (by omega) (by omega)
  have f1 : gi S5 199 m = 4 := by rw [e5, gi_off (by omega), hs.1 199 m (by omega)]; exact hk
  have f2 : gi S5 201 m = r := by rw [e5, gi_at]
  have f4 : gi S5 192 3 = gi S 192 3 := by rw [e5, gi_off (by omega), hs.1 192 3 (by omega)]
  exact pc_if (fun c1 => pc_chk (fun _ => pf_rm56 S0 S5 m hL f1 (by omega) _ (by omega))) (fun c1 => pf_rm56 S0 S5 m hL f1 (by omega) _ (by omega))
theorem pf_readMove (S0 S : SS) (m : Nat) (h : fr (XFL m) S0 S) (hk : gi S 199 m = 4) : pc (f_M_readMove S (m : Int)) (QFL m S0) := by
  unfold f_M_readMove
  exact pc_chk (fun _ => pc_if (fun c1 => pf_rm23 S0 S m h hk 0 (by decide)) (fun c1 => pf_rm23 S0 S m h hk 1 (by decide)))
theorem pf_two (S0 S : SS) (m : Nat) (h : fr (XFL m) S0 S) (hk : gi S 199 m = 0 ∨ gi S 199 m = 2) (g : SS → Option (Option Unit × SS)) (hg : ∀ S', fr (XFL m) S0 S' → m_val S' m → pc (g S') (QFL m S0)) : pc (w_b3 (f_M_number S 0 (gi S 192 3 - 1)) (fun S9_z => some (none, S9_z)) (fun r7_z S8_z => w_chk (0 ≤ (m : Int) ∧ (m : Int) < 41) (w_lt (si S8_z 201 (m : Int).toNat r7_z) (fun S11_z => w_chk (0 ≤ (m : Int) ∧ (m : Int) < 41) (w_b3 (f_M_number S11_z (gi S11_z 201 (m : Int).toNat) (gi S 192 3 - 1)) (fun S15_z => some (none, S15_z)) (fun r13_z S14_z => w_chk (0 ≤ (m : Int) ∧ (m : Int) < 41) (w_lt (si S14_z 202 (m : Int).toNat r13_z) (fun S17_z => g S17_z)))))))) (QFL m S0) := by
  refine pc_b3 (pf_num S 0 (gi S 192 3 - 1)) (fun s hs => pc_some ⟨XFN_L h hs.1, fun q => absurd rfl q⟩) (fun r s hs => pc_chk (fun _ => pc_lt (fun S5 e5 => pc_chk (fun _ => ?_))))
  have hr := hs.2 r rfl
  rw [Int.toNat_natCast] at e5 ⊢
  have hL : fr (XFL m) S0 S5 := by rw [e5]; exact XFL_si (XFN_L h hs.1) (by omega) (by omega)
  have f1 : gi S5 199 m = gi S 199 m := by rw [e5, gi_off (by omega), hs.1 199 m (by omega)]
  have f2 : gi S5 201 m = r := by rw [e5, gi_at]
  have f4 : gi S5 192 3 = gi S 192 3 := by rw [e5, gi_off (by omega), hs.1 192 3 (by omega)]
  refine pc_b3 (pf_num S5 (gi S5 201 m) (gi S 192 3 - 1)) (fun s hs => pc_some ⟨XFN_L hL hs.1, fun q => absurd rfl q⟩) (fun r2 s2 hs2 => pc_chk (fun _ => pc_lt (fun S7 e7 => ?_)))
  have hr2 := hs2.2 r2 rfl
  refine hg S7 (by rw [e7]; exact XFL_si (XFN_L hL hs2.1) (by omega) (by omega)) (.inl ?_)
  have g1 : gi s2 199 m = gi S5 199 m := hs2.1 199 m (by omega)
  have g2 : gi s2 201 m = gi S5 201 m := hs2.1 201 m (by omega)
  have g4 : gi s2 192 3 = gi S5 192 3 := hs2.1 192 3 (by omega)
  rw [e7, gi_at, gi_off (by omega), gi_off (by omega), gi_off (by omega)]
  omega
theorem pf_rl250 (S0 S : SS) (m : Nat) (h : fr (XFL m) S0 S) (v : Int) (hv : -1 ≤ v ∧ v ≤ 5) : pc (f_M_readLine_250 (m : Int) S (gi S 192 3 - 1) v (m : Int)) (QFL m S0) := by
  unfold f_M_readLine_250
  refine pc_chk (fun _ => pc_lt (fun S1 e1 => pc_chk (fun _ => ?_)))
  rw [Int.toNat_natCast] at e1
  have hL : fr (XFL m) S0 S1 := by rw [e1]; exact XFL_si h (by omega) (by omega)
  have f4 : gi S 192 3 = gi S1 192 3 := by rw [e1, gi_off (by omega)]
  rw [f4]
  refine pc_if (fun c1 => pc_some ⟨fr_wrong hL (XFL_S m _ (by omega) (by omega)) (XFL_S m _ (by omega) (by omega)), fun q => absurd rfl q⟩) (fun c1 => pc_b1 (pf_scan XFN_S S1 S1 (fr_refl _ S1)) (fun S3 h3 => pc_chk (fun _ => ?_)))
  have f5 : gi S1 192 3 = gi S3 192 3 := (h3 192 3 (by omega)).symm
  have hL3 := XFN_L hL h3
  rw [f5]
  refine pc_if (fun c2 => ?_) (fun c2 => pc_if (fun c3 => ?_) (fun c3 => pc_if (fun c4 => ?_) (fun c4 => pc_if (fun c5 => pc_chk (fun _ => ?_)) (fun c5 => pc_if (fun c6 => ?_) (fun c6 => ?_)))))
  · rw [Int.toNat_natCast] at c2
    exact pf_two S0 S3 m hL3 (.inl c2) _ (fun S' a d => pf_rl480v S0 S' m a d)
  · rw [Int.toNat_natCast] at c3
    refine pc_b3 (pf_num S3 0 (gi S3 192 3)) (fun s hs => pc_some ⟨XFN_L hL3 hs.1, fun q => absurd rfl q⟩) (fun r s hs => pc_chk (fun _ => pc_lt (fun S5 e5 => ?_)))
    have hr := hs.2 r rfl
    rw [Int.toNat_natCast] at e5
    refine pf_rl480v S0 S5 m (by rw [e5]; exact XFL_si (XFN_L hL3 hs.1) (by omega) (by omega)) (.inr (.inl ?_))
    have g1 : gi s 199 m = gi S3 199 m := hs.1 199 m (by omega)
    have g4 : gi s 192 3 = gi S3 192 3 := hs.1 192 3 (by omega)
    rw [e5, gi_at, gi_off (by omega), gi_off (by omega)]
    omega
  · rw [Int.toNat_natCast] at c4
    exact pf_two S0 S3 m hL3 (.inr c4) _ (fun S' a d => pf_rl480v S0 S' m a d)
  · rw [Int.toNat_natCast] at c5
    refine pc_b3 (pf_num S3 0 (gi S3 192 3 - 1 - 1)) (fun s hs => pc_some ⟨XFN_L hL3 hs.1, fun q => absurd rfl q⟩) (fun r s hs => pc_chk (fun _ => pc_lt (fun S5 e5 => pc_chk (fun _ => pc_chk (fun _ => ?_)))))
    have hr := hs.2 r rfl
    rw [Int.toNat_natCast] at e5 ⊢
    have hL5 : fr (XFL m) S0 S5 := by rw [e5]; exact XFL_si (XFN_L hL3 hs.1) (by omega) (by omega)
    have a1 : gi S5 199 m = gi S3 199 m := by rw [e5, gi_off (by omega), hs.1 199 m (by omega)]
    have a2 : gi S5 201 m = r := by rw [e5, gi_at]
    have a4 : gi S5 192 3 = gi S3 192 3 := by rw [e5, gi_off (by omega), hs.1 192 3 (by omega)]
    refine pc_b3 (pf_num S5 (gi S5 201 m + 1) (gi S3 192 3 - 1)) (fun s hs => pc_some ⟨XFN_L hL5 hs.1, fun q => absurd rfl q⟩) (fun r2 s2 hs2 => pc_chk (fun _ => pc_lt (fun S7 e7 => pc_chk (fun _ => ?_))))
    have hr2 := hs2.2 r2 rfl
    have hL7 : fr (XFL m) S0 S7 := by rw [e7]; exact XFL_si (XFN_L hL5 hs2.1) (by omega) (by omega)
    have d1 : gi S7 199 m = gi S3 199 m := by rw [e7, gi_off (by omega), hs2.1 199 m (by omega)]; exact a1
    have d2 : gi S7 201 m = r := by rw [e7, gi_off (by omega), hs2.1 201 m (by omega)]; exact a2
    have d3 : gi S7 202 m = r2 := by rw [e7, gi_at]
    have d4 : gi S7 192 3 = gi S3 192 3 := by rw [e7, gi_off (by omega), hs2.1 192 3 (by omega)]; exact a4
    refine pc_b3 (pf_num S7 (gi S7 202 m) (gi S3 192 3 - 1)) (fun s hs => pc_some ⟨XFN_L hL7 hs.1, fun q => absurd rfl q⟩) (fun r3 s3 hs3 => pc_chk (fun _ => pc_lt (fun S9 e9 => ?_)))
    have hr3 := hs3.2 r3 rfl
    refine pf_rl480v S0 S9 m (by rw [e9]; exact XFL_si (XFN_L hL7 hs3.1) (by omega) (by omega)) (.inr (.inr (.inl ?_)))
    have b1 : gi s3 199 m = gi S7 199 m := hs3.1 199 m (by omega)
    have b2 : gi s3 201 m = gi S7 201 m := hs3.1 201 m (by omega)
    have b3 : gi s3 202 m = gi S7 202 m := hs3.1 202 m (by omega)
    have b4 : gi s3 192 3 = gi S7 192 3 := hs3.1 192 3 (by omega)
    rw [e9, gi_at, gi_off (by omega), gi_off (by omega), gi_off (by omega), gi_off (by omega)]
    omega
  · rw [Int.toNat_natCast] at c6
    exact pc_b3 (pf_readMove S0 S3 m hL3 c6) (fun s hs => pc_some ⟨hs.1, fun q => absurd rfl q⟩) (fun r s hs => pf_rl480v S0 s m hs.1 (hs.2 (fun q => nomatch q)))
  · rw [Int.toNat_natCast] at c1 c2 c3 c4 c5 c6
    have k5 : gi S3 199 m = 5 := by
      have e : gi S3 199 m = v := by rw [h3 199 m (by omega), e1, gi_at]
      have e' : gi S1 199 m = v := by rw [e1, gi_at]
      omega
    have h456 : pc (f_M_readLine_456 (m : Int) S3) (QFL m S0) := by
      unfold f_M_readLine_456
      exact pc_some ⟨fr_wrong hL3 (XFL_S m _ (by omega) (by omega)) (XFL_S m _ (by omega) (by omega)), fun q => absurd rfl q⟩
    have h466 : pc (f_M_readLine_466 (m : Int) S3) (QFL m S0) := by
      unfold f_M_readLine_466
      refine pc_chk (fun _ => pc_b3 (pf_num S3 0 ((m : Int) - 1)) (fun s hs => pc_some ⟨XFN_L hL3 hs.1, fun q => absurd rfl q⟩) (fun r s hs => pc_chk (fun _ => pc_lt (fun S5 e5 => ?_))))
      have hr := hs.2 r rfl
      rw [Int.toNat_natCast] at e5
      refine pf_rl480v S0 S5 m (by rw [e5]; exact XFL_si (XFN_L hL3 hs.1) (by omega) (by omega)) (.inr (.inr (.inr (.inr ?_))))
      have g1 : gi s 199 m = gi S3 199 m := hs.1 199 m (by omega)
      rw [e5, gi_at, gi_off (by omega)]
      omega
    exact pc_if (fun _ => pc_if (fun _ => h456) (fun _ => pc_chk (fun _ => pc_if (fun _ => h456) (fun _ => h466)))) (fun _ => h466)
theorem pf_rl150 (S0 S : SS) (m : Nat) (h : fr (XFL m) S0 S) : pc (f_M_readLine_150 (m : Int) S) (QFL m S0) := by
  have h249 : pc (f_M_readLine_249 (m : Int) S (gi S 192 3 - 1) (m : Int)) (QFL m S0) := by
    unfold f_M_readLine_249; exact pf_rl250 S0 S m h (-1) (by decide)
  unfold f_M_readLine_150
  refine pc_chk (fun _ => pf_b1 (fun _ => pc_if (fun _ => pf_b1 (fun _ => pc_if (fun _ => pf_b1 (fun _ => pc_if (fun _ => pf_b1 (fun _ => pc_if (fun _ => pf_b1 (fun _ => pc_if (fun _ => pf_b1 (fun _ => pc_if (fun _ => h249) (fun _ => pc_chk (fun _ => pc_if (fun _ => pf_rl250 S0 S m h 5 (by decide)) (fun _ => h249))))) (fun _ => pf_rl250 S0 S m h 4 (by decide)))) (fun _ => pf_rl250 S0 S m h 3 (by decide)))) (fun _ => pf_rl250 S0 S m h 2 (by decide)))) (fun _ => pf_rl250 S0 S m h 1 (by decide)))) (fun _ => pf_rl250 S0 S m h 0 (by decide))))
theorem pf_rl40 (S : SS) (m : Nat) (v : Int) : pc (f_M_readLine_40 (m : Int) S v) (QFL m S) := by
  have h0 := fr_refl (XFL m) S
  have hw : ∀ a c : Int, QFL m S (none, f_M_wrong S a c) := fun a c => ⟨fr_wrong h0 (XFL_S m _ (by omega) (by omega)) (XFL_S m _ (by omega) (by omega)), fun q => absurd rfl q⟩
  unfold f_M_readLine_40
  rw [Int.toNat_natCast]
  refine pc_if (fun _ => pc_some (hw _ _)) (fun _ => pc_if (fun _ => pc_some (hw _ _)) (fun _ => ?_))
  refine pc_chk (fun _ => pf_lt h0 (.inl ⟨by omega, by omega, rfl⟩) (fun S1 h1 => ?_))
  refine pc_chk (fun _ => pf_lt h1 (.inl ⟨by omega, by omega, rfl⟩) (fun S2 h2 => ?_))
  refine pc_chk (fun _ => pf_lt h2 (.inl ⟨by omega, by omega, rfl⟩) (fun S3 h3 => ?_))
  refine pc_chk (fun _ => pf_lt h3 (.inl ⟨by omega, by omega, rfl⟩) (fun S4 h4 => ?_))
  refine pc_chk (fun _ => pf_lt h4 (.inl ⟨by omega, by omega, rfl⟩) (fun S5 h5 => ?_))
  refine pc_chk (fun _ => pf_lt h5 (.inl ⟨by omega, by omega, rfl⟩) (fun S6 h6 => ?_))
  refine pc_chk (fun _ => pf_lt h6 (.inl ⟨by omega, by omega, rfl⟩) (fun S7 h7 => ?_))
  refine pc_b1 (pf_scan (XFL_S m) S S7 h7) (fun S8 h8 => pf_b1 (fun r => pc_chk (fun _ => pc_chk (fun _ => pf_lt h8 (.inl ⟨by omega, by omega, rfl⟩) (fun S13 h13 => pc_chk (fun _ => ?_))))))
  exact pc_if (fun _ => pf_rl150 S S13 m h13) (fun _ => pc_b1 (pf_scan (XFL_S m) S S13 h13) (fun S15 h15 => pf_rl150 S S15 m h15))
theorem pf_readLine (S : SS) (m : Nat) : pc (f_M_readLine S (m : Int)) (QFL m S) := by
  unfold f_M_readLine
  exact pf_b1 (fun _ => pc_if (fun _ => pf_b1 (fun _ => pc_if (fun _ => pf_b1 (fun _ => pc_if (fun _ => pf_rl40 S m _) (fun _ => pf_rl40 S m _))) (fun _ => pf_rl40 S m _))) (fun _ => pf_rl40 S m _))
/-- what reading marks may change: marks from n on -/
abbrev XFM (n : Nat) (r k : Nat) : Prop := (199 ≤ r ∧ r ≤ 208 ∧ n ≤ k) ∨ (r = 192 ∧ 9 ≤ k ∧ k ≤ 15)
theorem pfl_marks (S0 : SS) (n0 : Nat) (e0 : gi S0 192 27 = (n0 : Int)) : ∀ (n : Nat) (S : SS) (m : Nat), n0 ≤ m → fr (XFM n0) S0 S → NX S0 → (∀ j, n0 ≤ j → j < m → m_val S j) → pc (f_M_marks_13 n S (m : Int)) (fun u => NX u.2) := by
  intro n
  induction n with
  | zero => intro S m _ _ _ _ r e; exact absurd e (by simp [f_M_marks_13])
  | succ n ih =>
    intro S m hm h hN hv
    have old : ∀ S', fr (XFM n0) S0 S' → ∀ k : Nat, k < n0 → m_val S' k := fun S' h' k hk => m_val_fr (hN k (by omega)) (h' 199 k (by omega)) (h' 201 k (by omega)) (h' 202 k (by omega)) (h' 203 k (by omega)) (h' 192 3 (by omega))
    show pc (f_M_marks_13_b (f_M_marks_13 n) S (m : Int)) _
    unfold f_M_marks_13_b
    refine pc_if (fun _ => pc_chk (fun _ => pc_lt (fun S4 e4 => pc_some ?_))) (fun _ => pc_b3 (pf_readLine S m) (fun s hs => pc_some ?_) (fun a s hs => pc_chk (fun _ => ?_)))
    · intro k hk
      show m_val S4 k
      have hk : (k : Int) < gi S4 192 27 := hk
      rw [e4, gi_at] at hk
      have v : m_val S k := by
        by_cases c : k < n0
        · exact old S h k c
        · exact hv k (by omega) (by omega)
      rw [e4]
      exact m_val_fr v (gi_off (by omega)) (gi_off (by omega)) (gi_off (by omega)) (gi_off (by omega)) (gi_off (by omega))
    · have hS : fr (XFM n0) S0 s := fr_trans h (fr_mono hs.1 (fun r k q => by omega))
      intro k hk
      have hk : (k : Int) < gi s 192 27 := hk
      rw [hS 192 27 (by omega)] at hk
      exact old s hS k (by omega)
    · have hS : fr (XFM n0) S0 s := fr_trans h (fr_mono hs.1 (fun r k q => by omega))
      rw [show (m : Int) + 1 = ((m + 1 : Nat) : Int) by omega]
      refine ih s (m + 1) (by omega) hS hN (fun j h1 h2 => ?_)
      by_cases c : j = m
      · rw [c]; exact hs.2 (fun q => nomatch q)
      · exact m_val_fr (hv j h1 (by omega)) (hs.1 199 j (by omega)) (hs.1 201 j (by omega)) (hs.1 202 j (by omega)) (hs.1 203 j (by omega)) (hs.1 192 3 (by omega))
theorem nx_fr {X : Nat → Nat → Prop} {S S1 : SS} (hN : NX S) (h : fr X S S1) (hx : ∀ k, ¬ X 199 k ∧ ¬ X 201 k ∧ ¬ X 202 k ∧ ¬ X 203 k) (h3 : ¬ X 192 3) (h27 : ¬ X 192 27) : NX S1 := by
  intro k hk
  rw [h 192 27 h27] at hk
  exact m_val_fr (hN k hk) (h 199 k (hx k).1) (h 201 k (hx k).2.1) (h 202 k (hx k).2.2.1) (h 203 k (hx k).2.2.2) (h 192 3 h3)
abbrev XFB (r k : Nat) : Prop := r = 192 ∧ 8 ≤ k ∧ k ≤ 15
theorem nx_marks {b : Nat} (S : SS) (hC : MX b S) (hN : NX S) : pc (f_M_marks S) (fun u => NX u.2) := by
  have b27 := mx_192_27 hC
  unfold f_M_marks
  refine pc_lt (fun S1 e1 => ?_)
  have h1 : fr XFB S S1 := by rw [e1]; exact fr_begin (fun k a c => ⟨rfl, by omega, c⟩) ⟨rfl, by omega, by omega⟩ (fr_refl _ S)
  have n1 : NX S1 := nx_fr hN h1 (fun k => by omega) (by omega) (by omega)
  have e27 : gi S1 192 27 = gi S 192 27 := h1 192 27 (by omega)
  refine pc_b1 (pf_scan XFN_S S1 S1 (fr_refl _ S1)) (fun S4 h4 => ?_)
  rw [show gi S1 192 27 = (((gi S1 192 27).toNat : Nat) : Int) by omega]
  exact pfl_marks S1 (gi S1 192 27).toNat (by omega) FU S4 _ (Nat.le_refl _) (fr_mono h4 (fun r k q => .inr q)) n1 (fun j a d => by omega)
theorem nx_0 {S : SS} (h : gi S 192 27 = 0) : NX S := fun k hk => by omega
/-- what reading marks changes in the reference's ints, behind the beginning -/
abbrev XMK (r k : Nat) : Prop := (199 ≤ r ∧ r ≤ 208) ∨ (r = 192 ∧ ((9 ≤ k ∧ k ≤ 15) ∨ k = 27))
theorem pfm_marks (S0 : SS) : ∀ (n : Nat) (S : SS) (m : Nat), fr XMK S0 S → pc (f_M_marks_13 n S (m : Int)) (fun u => fr XMK S0 u.2) := by
  intro n
  induction n with
  | zero => intro S m _ r e; exact absurd e (by simp [f_M_marks_13])
  | succ n ih =>
    intro S m h
    show pc (f_M_marks_13_b (f_M_marks_13 n) S (m : Int)) _
    unfold f_M_marks_13_b
    refine pc_if (fun _ => pc_chk (fun _ => pf_lt h (by omega) (fun S4 h4 => pc_some h4))) (fun _ => pc_b3 (pf_readLine S m) (fun s hs => pc_some (fr_trans h (fr_mono hs.1 (fun r k q => by omega)))) (fun a s hs => pc_chk (fun _ => ?_)))
    rw [show (m : Int) + 1 = ((m + 1 : Nat) : Int) by omega]
    exact ih s (m + 1) (fr_trans h (fr_mono hs.1 (fun r k q => by omega)))
theorem fm_marks {b : Nat} (T : SS) (hM : MX b T) : pc (f_M_marks T) (fun u => gi u.2 192 8 = 0 ∧ ∀ r k, ¬ XMK r k → ¬ (r = 192 ∧ k = 8) → gi u.2 r k = gi T r k) := by
  have b27 := mx_192_27 hM
  unfold f_M_marks
  refine pc_lt (fun S1 e1 => ?_)
  have h1 : fr XFB T S1 := by rw [e1]; exact fr_begin (fun k a c => ⟨rfl, by omega, c⟩) ⟨rfl, by omega, by omega⟩ (fr_refl _ T)
  have z1 : gi S1 192 8 = 0 := by
    rw [e1]
    show gi (si (si (si (si (si T 192 9 (gi T 192 8)) 192 8 0) 192 11 0) 192 14 0) 192 15 (-1)) 192 8 = 0
    rw [gi_off (by omega), gi_off (by omega), gi_off (by omega), gi_at]
  have e27 : gi S1 192 27 = gi T 192 27 := h1 192 27 (by omega)
  refine pc_b1 (pf_scan XFN_S S1 S1 (fr_refl _ S1)) (fun S4 h4 => ?_)
  rw [show gi S1 192 27 = (((gi S1 192 27).toNat : Nat) : Int) by omega]
  refine pc_mono (pfm_marks S1 FU S4 _ (fr_mono h4 (fun r k q => by omega))) (fun u hu => ⟨by rw [hu 192 8 (by omega)]; exact z1, fun r k a c => ?_⟩)
  rw [hu r k a]; exact h1 r k (by omega)
abbrev XZ (r k : Nat) : Prop := ¬ (r = 199 ∨ r = 201 ∨ r = 202 ∨ r = 203 ∨ (r = 192 ∧ (k = 3 ∨ k = 27)))
theorem nx_z {S S1 : SS} (hN : NX S) (h : fr XZ S S1) : NX S1 := nx_fr hN h (fun k => by omega) (by omega) (by omega)
theorem XZ_S : XSC XZ := fun k a c => by omega
theorem fz_judge {b : Nat} (S : SS) (hC : MX b S) : pc (f_M_judge S) (fun S1 => fr XZ S S1) := pc_mono (pc_judge S hC) (fun S1 h r k a => h.1.2 r k (by omega) (by omega))
theorem fz_begun {b : Nat} {w : Int} {S Su S1 : SS} (h : q_begun b w S Su) (h1 : q_fp Su S1) : fr XZ S S1 := fun r k a => (h1.1 r k (by omega)).trans (h.2.2.2.1 r k (by omega) (by omega) (by omega) (by omega))
theorem pfl_lay (S0 : SS) (v1 : Int) : ∀ (n : Nat) (S : SS) (v2 : Int), fr XZ S0 S → pc (f_M_lay_3 v1 n S v2) (fr XZ S0) := by
  intro n
  induction n with
  | zero => intro S v2 h r e; exact absurd e (by simp [f_M_lay_3])
  | succ n ih =>
    intro S v2 h
    show pc (f_M_lay_3_b v1 (f_M_lay_3 v1 n) S v2) _
    unfold f_M_lay_3_b
    repeat' first | with_reducible exact ih _ _ (by assumption) | with_reducible exact pc_some (by assumption) | with_reducible refine pc_chk (fun _ => ?_) | with_reducible refine pc_if (fun _ => ?_) (fun _ => ?_) | with_reducible refine pf_lt (by assumption) (by omega) (fun _ _ => ?_)
theorem fz_feed (S : SS) (v1 v2 v3 v4 v5 : Int) : pc (f_M_feed S v1 v2 v3 v4 v5) (fun u => fr XZ S u.2) := by
  unfold f_M_feed f_M_lay
  exact pc_chk (fun _ => pc_if (fun _ => pc_b1 (pfl_lay S v1 FU S 24 (fr_refl _ S)) (fun _ h => pc_b1 (pfl_lay S v2 FU _ 24 h) (fun _ h => pc_b1 (pfl_lay S v3 FU _ 24 h) (fun _ h => pc_b1 (pfl_lay S v4 FU _ 24 h) (fun _ h => pc_b1 (pfl_lay S v5 FU _ 24 h) (fun _ h => pc_some h)))))) (fun _ => pc_some (fr_refl _ S)))
theorem fz_end (S : SS) (v1 : Int) : pc (f_M_end S v1) (fun u => fr XZ S u.2) := by
  unfold f_M_end
  exact pc_if (fun _ => pc_some (fr_refl _ S)) (fun _ => pf_lt (fr_refl _ S) (by omega) (fun _ h => pc_some h))
theorem pfl_readProof (S0 : SS) (v1 : Int) : ∀ (n : Nat) (S : SS) (v2 v3 v4 : Int), fr XZ S0 S → pc (f_M_readProof_7 v1 n S v2 v3 v4) (fun u => fr XZ S0 u.2) := by
  intro n
  induction n with
  | zero => intro S v2 v3 v4 h r e; exact absurd e (by simp [f_M_readProof_7])
  | succ n ih =>
    intro S v2 v3 v4 h
    show pc (f_M_readProof_7_b v1 (f_M_readProof_7 v1 n) S v2 v3 v4) _
    unfold f_M_readProof_7_b f_M_readProof_86 f_M_readProof_112 f_M_readProof_51
    repeat' first | with_reducible exact ih _ _ _ _ (by assumption) | with_reducible exact pc_some (by assumption) | with_reducible refine pc_chk (fun _ => ?_) | with_reducible refine pc_if (fun _ => ?_) (fun _ => ?_) | with_reducible refine pf_wr (by assumption) (by omega) (by omega) (fun _ _ => ?_) | with_reducible refine pf_lts (by assumption) (fun _ _ => ?_) | with_reducible refine pf_b1 (fun _ => ?_)
theorem pfl_first (S0 : SS) (hN : NX S0) : ∀ (n : Nat) (S : SS) (v1 v2 : Int), pc (f_M_first_19 n S v1 v2) (fun u => NX u.2) := by
  intro n
  induction n with
  | zero => intro S v1 v2 r e; exact absurd e (by simp [f_M_first_19])
  | succ n ih =>
    intro S v1 v2
    show pc (f_M_first_19_b (f_M_first_19 n) S v1 v2) _
    unfold f_M_first_19_b
    exact pc_if (fun _ => pc_lt (fun S1 _ => pc_lt (fun S2 e2 => pc_some (nx_0 (by rw [e2, gi_at]))))) (fun _ => pc_chk (fun _ => pc_chk (fun _ => pc_lt (fun S4 _ => pc_chk (fun _ => ih S4 _ _)))))
theorem nx_first (S : SS) (hN : NX S) : pc (f_M_first S) (fun u => NX u.2) := by
  unfold f_M_first f_M_readProof
  refine pc_lt (fun S1 e1 => ?_)
  have h1 : fr XZ S S1 := by rw [e1]; exact fr_begin XZ_S (by omega) (fr_refl _ S)
  exact pc_b3 (pfl_readProof S 60 FU S1 0 0 0 h1) (fun s h => pc_some (nx_z hN h)) (fun r s h => pfl_first S hN FU s r 0)
theorem pfl_second (S0 : SS) : ∀ (n : Nat) (S : SS) (v1 v2 : Int), fr XZ S0 S → pc (f_M_second_20 n S v1 v2) (fun u => fr XZ S0 u.2) := by
  intro n
  induction n with
  | zero => intro S v1 v2 h r e; exact absurd e (by simp [f_M_second_20])
  | succ n ih =>
    intro S v1 v2 h
    show pc (f_M_second_20_b (f_M_second_20 n) S v1 v2) _
    unfold f_M_second_20_b
    exact pc_if (fun _ => pf_lt h (by omega) (fun S1 h => pc_some h)) (fun _ => pc_chk (fun _ => pc_chk (fun _ => pf_lts h (fun S4 h => pc_chk (fun _ => ih S4 _ _ h)))))
theorem fz_second (S : SS) : pc (f_M_second S) (fun u => fr XZ S u.2) := by
  unfold f_M_second f_M_readProof
  refine pc_lt (fun S1 e1 => ?_)
  have h1 : fr XZ S S1 := by rw [e1]; exact fr_begin XZ_S (by omega) (fr_refl _ S)
  exact pc_b3 (pfl_readProof S 150 FU S1 0 0 0 h1) (fun s h => pc_some h) (fun r s h => pfl_second S FU s r 0 h)
theorem fz_mark {b : Nat} (S : SS) (v1 v2 : Int) (hC : MX b S) : pc (f_M_mark S v1 v2) (fun u => fr XZ S u.2) := by
  unfold f_M_mark
  have h0 := fr_refl XZ S
  repeat' first | with_reducible exact pc_some (by assumption) | with_reducible refine pc_b1 (fz_judge S hC) (fun _ _ => ?_) | with_reducible refine pc_chk (fun _ => ?_) | with_reducible refine pc_if (fun _ => ?_) (fun _ => ?_) | with_reducible refine pf_b1 (fun _ => ?_)
theorem fz_answer {b : Nat} (S : SS) (v1 v2 : Int) (hC : MX b S) : pc (f_M_answer S v1 v2) (fun u => fr XZ S u.2) := by
  unfold f_M_answer f_M_answer_42
  have h0 := fr_refl XZ S
  repeat' first | with_reducible exact pc_some (by assumption) | with_reducible refine pc_b1 (fz_judge S hC) (fun _ _ => ?_) | with_reducible refine pc_chk (fun _ => ?_) | with_reducible refine pc_if (fun _ => ?_) (fun _ => ?_) | with_reducible refine pf_lt (by assumption) (by omega) (fun _ _ => ?_) | with_reducible refine pf_b1 (fun _ => ?_)
theorem fz_rank (S : SS) (v1 v2 : Int) : pc (f_M_rank S v1 v2) (fun u => fr XZ S u.2) := by
  unfold f_M_rank
  have h0 := fr_refl XZ S
  repeat' first | with_reducible exact pc_some (by assumption) | with_reducible refine pc_chk (fun _ => ?_) | with_reducible refine pc_if (fun _ => ?_) (fun _ => ?_) | with_reducible refine pf_lt (by assumption) (by omega) (fun _ _ => ?_)
theorem fz_costs (S : SS) (v1 v2 : Int) : pc (f_M_costs S v1 v2) (fun u => fr XZ S u.2) := by
  unfold f_M_costs
  have h0 := fr_refl XZ S
  repeat' first | with_reducible exact pc_some (by assumption) | with_reducible refine pc_chk (fun _ => ?_) | with_reducible refine pc_if (fun _ => ?_) (fun _ => ?_) | with_reducible refine pf_lt (by assumption) (by omega) (fun _ _ => ?_)
theorem fz_error (S : SS) (v1 v2 : Int) : pc (f_M_error S v1 v2) (fun u => fr XZ S u.2) := by
  unfold f_M_error
  have h0 := fr_refl XZ S
  repeat' first | with_reducible exact pc_some (by assumption) | with_reducible refine pc_chk (fun _ => ?_) | with_reducible refine pc_if (fun _ => ?_) (fun _ => ?_) | with_reducible refine pf_lt (by assumption) (by omega) (fun _ _ => ?_) | with_reducible refine pf_b1 (fun _ => ?_)
theorem fz_price (S : SS) (v1 v2 : Int) : pc (f_M_price S v1 v2) (fun u => fr XZ S u.2) := by
  unfold f_M_price
  have h0 := fr_refl XZ S
  repeat' first | with_reducible exact pc_some (by assumption) | with_reducible refine pc_chk (fun _ => ?_) | with_reducible refine pc_if (fun _ => ?_) (fun _ => ?_) | with_reducible refine pf_lt (by assumption) (by omega) (fun _ _ => ?_)
theorem pfl_next : ∀ (n : Nat) (S : SS) (v1 : Int), pc (f_M_next_20 n S v1) (fun u => NX u.2) := by
  intro n
  induction n with
  | zero => intro S v1 r e; exact absurd e (by simp [f_M_next_20])
  | succ n ih =>
    intro S v1
    show pc (f_M_next_20_b (f_M_next_20 n) S v1) _
    unfold f_M_next_20_b
    exact pc_if (fun _ => pc_lt (fun S1 _ => pc_lt (fun S2 _ => pc_lt (fun S5 e5 => pc_some (nx_0 (by rw [e5, gi_at])))))) (fun _ => pc_chk (fun _ => pc_chk (fun _ => pc_lt (fun S4 _ => pc_chk (fun _ => ih S4 _)))))
theorem nx_next (S : SS) (hN : NX S) : pc (f_M_next S) (fun u => NX u.2) := by
  unfold f_M_next
  exact pc_if (fun _ => pc_some hN) (fun _ => pfl_next FU S 0)
/-- while the second proof is held: only these change -/
abbrev XH (r k : Nat) : Prop := (r = 192 ∧ (k = 5 ∨ (35 ≤ k ∧ k ≤ 38))) ∨ (212 ≤ r ∧ r ≤ 219)
theorem m_st_congr {S S1 : SS} (h : fr XH S S1) : m_st S1 = m_st S := by
  have e : ∀ r k, r < 212 → r ≠ 192 → gi S1 r k = gi S r k := fun r k a c => h r k (by omega)
  have e27 : gi S1 192 27 = gi S 192 27 := h 192 27 (by omega)
  have emd : ∀ j k, j ≠ 5 → q_md S1 j k = q_md S j k := by
    intro j k hj
    unfold q_md
    rw [e 199 k (by omega) (by omega), e 201 k (by omega) (by omega), e 202 k (by omega) (by omega), e 203 k (by omega) (by omega), if_neg hj, if_neg hj]
  have enm : q_nm (q_md S1) = q_nm (q_md S) := by
    funext k o
    unfold q_nm q_wi q_ins q_ov q_cut q_kd q_lo q_hi q_gp q_mi
    rw [emd 0 k (by decide), emd 0 o (by decide), emd 1 k (by decide), emd 1 o (by decide), emd 2 k (by decide), emd 2 o (by decide), emd 3 k (by decide), emd 3 o (by decide), emd 4 k (by decide), emd 4 o (by decide)]
  have erk : m_rk S1 = m_rk S := by
    funext k
    unfold m_rk
    rw [e 200 k (by omega) (by omega), e 209 _ (by omega) (by omega)]
  have es : m_s0 S1 = m_s0 S := by
    funext k
    have eo : m_ov S1 k = m_ov S k := by
      unfold m_ov
      rw [e27]
      have : ∀ s, gi S1 199 s = gi S 199 s := fun s => e 199 s (by omega) (by omega)
      have h2 : ∀ s, gi S1 201 s = gi S 201 s := fun s => e 201 s (by omega) (by omega)
      simp only [this, h2]
    unfold m_s0
    rw [eo, e 199 k (by omega) (by omega), e 207 k (by omega) (by omega), e 205 k (by omega) (by omega)]
  unfold m_st
  rw [enm, e27, erk, es]
def HI (T0 S : SS) : Prop := MX 0 S ∧ fr XH T0 S ∧ ∀ j : Nat, (j : Int) < gi T0 192 27 → gi S 212 j = m_st T0 j
theorem HI_nx {T0 S : SS} (hN : NX T0) (h : HI T0 S) : NX S := nx_fr hN h.2.1 (fun k => by omega) (by omega) (by omega)
theorem HI_judge {S : SS} (hC : MX 0 S) : okk (f_M_judge S) (HI S) := ok_mono (ok_and (ok_M_judge S hC) (pc_judge S hC)) (fun S1 h => ⟨h.1.1, fun r k a => h.2.1.2 r k (by omega) (by omega), h.2.2⟩)
theorem HI_make {T0 S : SS} (hN : NX T0) (hC : MX 0 S) (h : fr XH T0 S) (w : Int) : okk (f_M_make S w) (HI T0) := by
  refine ok_mono (ok_make S w hC (nx_fr hN h (fun k => by omega) (by omega) (by omega))) (fun S1 h1 => ?_)
  obtain ⟨m1, Su, bg, fp, _⟩ := h1
  refine ⟨m1, fun r k a => ((fp.1 r k (by omega)).trans (bg.2.2.2.1 r k (by omega) (by omega) (by omega) (by omega))).trans (h r k a), fun j hj => ?_⟩
  have e27 : gi S 192 27 = gi T0 192 27 := h 192 27 (by omega)
  rw [fp.1 212 j (by omega), (bg.2.2.2.2.1 j (by omega)).1, m_st_congr h]
theorem HI_si {T0 S : SS} (h : HI T0 S) {r k : Nat} {v : Int} (hx : XH r k) (h2 : r ≠ 212) (hm : MX 0 (si S r k v)) : HI T0 (si S r k v) := ⟨hm, fr_si h.2.1 hx, fun j hj => by rw [gi_off (by omega)]; exact h.2.2 j hj⟩
theorem HI_FF {T0 S S1 : SS} (h : HI T0 S) (hm : MX 0 S1) (hf : FF S S1) : HI T0 S1 := ⟨hm, fun r k a => (hf r k (by omega)).trans (h.2.1 r k a), fun j hj => (hf 212 j (by omega)).trans (h.2.2 j hj)⟩
theorem ok_M_wordsOf {S : SS} (hC : MX 0 S) (hN : NX S) (v1 : Int) (hv : 0 ≤ v1 ∧ v1 ≤ 2) : okk (f_M_wordsOf S v1) (fun u => MX 0 u.2 ∧ fr XH S u.2 ∧ cpt v1 u.1 ∧ u.1 ≤ 300) := by
  have b3 := mx_192_3 hC
  have b4 := mx_192_4 hC
  unfold f_M_wordsOf f_M_wordsOf_10
  refine ok_if (fun c => ok_b1 (HI_make hN hC (fr_refl _ S) 0) (fun S1 h1 => ?_)) (fun c => ?_)
  · have b5 := mx_192_5 h1.1
    refine ok_if (fun c2 => absurd c2 (by omega)) (fun _ => ok_if (fun c3 => absurd c3 (by omega)) (fun _ => ok_some ⟨h1.1, h1.2.1, ⟨b5.1, by show gi S1 192 5 ≤ 320; omega, fun q => absurd q (by omega), fun q => absurd q (by omega)⟩, b5.2⟩))
  · refine ok_if (fun c2 => ok_some ⟨hC, fr_refl _ S, ⟨b3.1, by show gi S 192 3 ≤ 320; omega, fun _ => b3.2, fun q => absurd q (by omega)⟩, by show gi S 192 3 ≤ 300; omega⟩) (fun _ => ok_if (fun c3 => ok_some ⟨hC, fr_refl _ S, ⟨b4.1, by show gi S 192 4 ≤ 320; omega, fun q => absurd q (by omega), fun _ => b4.2⟩, by show gi S 192 4 ≤ 300; omega⟩) (fun c3 => absurd hv (by omega)))
theorem ok_M_word {S : SS} (hC : MX 0 S) (hN : NX S) (v1 v2 : Int) : okk (f_M_word S v1 v2) (fun u => MX 0 u.2 ∧ NX u.2) := by
  unfold f_M_word
  refine ok_b1 (ok_M_isText S v1 hC) (fun r1 h1 => ok_if (fun c => ok_some ⟨hC, hN⟩) (fun c => ok_b2 (ok_M_wordsOf hC hN v1 (by omega)) (fun r5 S4 h4 => ?_)))
  obtain ⟨m4, f4, c4, l4⟩ := h4
  have n4 : NX S4 := nx_fr hN f4 (fun k => by omega) (by omega) (by omega)
  have c4' := c4
  unfold cpt at c4'
  have i01 := in01 S4 v2 0 (r5 - 1)
  exact ok_chk (by omega) (ok_if (fun _ => ok_some ⟨m4, n4⟩) (fun c5 => ok_b1 (ok_M_wordAt S4 v1 v2 r5 m4 c4 (by omega)) (fun w _ => ok_some ⟨m4, n4⟩)))
theorem ok_M_distance {S : SS} (hC : MX 0 S) (hN : NX S) (v1 v2 : Int) : okk (f_M_distance S v1 v2) (fun u => MX 0 u.2 ∧ NX u.2) := by
  unfold f_M_distance
  refine ok_b1 (ok_M_isText S v1 hC) (fun r1 h1 => ok_if (fun c => ok_some ⟨hC, hN⟩) (fun c => ok_b1 (ok_M_isText S v2 hC) (fun r3 h3 => ok_if (fun c2 => ok_some ⟨hC, hN⟩) (fun c2 => ok_b2 (ok_M_wordsOf hC hN v1 (by omega)) (fun r6 S5 h5 => ?_)))))
  have n5 : NX S5 := nx_fr hN h5.2.1 (fun k => by omega) (by omega) (by omega)
  refine ok_b2 (ok_M_wordsOf h5.1 n5 v2 (by omega)) (fun r9 S8 h8 => ?_)
  have n8 : NX S8 := nx_fr n5 h8.2.1 (fun k => by omega) (by omega) (by omega)
  refine ok_b2 (ok_M_apart S8 v1 r6 v2 r9 h8.1 h5.2.2.1 h8.2.2.1) (fun r12 S11 h11 => ok_some ⟨h11.1, nx_fr (X := XZ) n8 (fun r k a => h11.2.1 r k (by omega)) (fun k => by omega) (by omega) (by omega)⟩)
theorem okl_M_count (v1 : Int) (hv : 4 ≤ v1 ∧ v1 ≤ 8) (S : SS) (hC : MX 0 S) : ∀ (n : Nat) (v2 v3 : Int), 0 ≤ v2 ∧ v2 ≤ v3 ∧ v3 ≤ 40 → 40 - v3 < (n : Int) → okk (f_M_count_87 v1 n S v2 v3) (fun u => u.2 = S) := by
  intro n
  induction n with
  | zero => intro v2 v3 h1 h2; exfalso; omega
  | succ n ih =>
    intro v2 v3 h1 h2
    have b27 := mx_192_27 hC
    have go : ∀ a : Int, 0 ≤ a ∧ a ≤ 1 → v3 < gi S 192 27 → okk (f_M_count_136 v1 (f_M_count_87 v1 n) S v3 a v2) (fun u => u.2 = S) := by
      intro a ha hlt
      unfold f_M_count_136
      exact ok_chk (by omega) (ok_chk (by omega) (ih _ _ (by omega) (by omega)))
    show okk (f_M_count_87_b v1 (f_M_count_87 v1 n) S v2 v3) _
    unfold f_M_count_87_b
    exact ok_if (fun _ => ok_some rfl) (fun c => ok_if (fun _ => ok_chk (by omega) (ok_if (fun _ => go 0 (by decide) (by omega)) (fun _ => go 1 (by decide) (by omega)))) (fun _ => ok_chk (by omega) (ok_chk (by omega) (ok_if (fun _ => go 1 (by decide) (by omega)) (fun _ => go 0 (by decide) (by omega))))))
theorem ok_M_count {S : SS} (hC : MX 0 S) (hN : NX S) (v1 : Int) : okk (f_M_count S v1) (fun u => MX 0 u.2 ∧ NX u.2) := by
  have i1 := in01 S v1 0 2
  have i2 := in01 S v1 10 12
  have i3 := in01 S v1 4 8
  unfold f_M_count
  refine ok_if (fun c1 => ok_if (fun c2 => ok_if (fun _ => ok_some ⟨hC, hN⟩) (fun _ => ok_if (fun _ => ok_some ⟨hC, hN⟩) (fun _ => ok_if (fun _ => ok_some ⟨hC, hN⟩) (fun c3 => ?_)))) (fun c2 => ok_chk (by omega) (ok_chk (by omega) (ok_some ⟨hC, hN⟩)))) (fun c1 => ok_b2 (ok_M_wordsOf hC hN v1 (by omega)) (fun r S13 h => ok_some ⟨h.1, nx_fr hN h.2.1 (fun k => by omega) (by omega) (by omega)⟩))
  refine ok_b1 (HI_judge hC) (fun S7 h7 => ok_mono (okl_M_count v1 (by omega) S7 h7.1 FU 0 0 (by omega) (by unfold FU; omega)) (fun u e => ?_))
  rw [e]; exact ⟨h7.1, HI_nx hN h7⟩
theorem okl_M_pays (v1 : Int) (T0 S : SS) (hN : NX T0) (h : HI T0 S) : ∀ (n : Nat) (v2 : Int) (k : Nat), 0 ≤ v2 ∧ v2 ≤ 999 * (k : Int) → (k : Int) ≤ 40 → 40 - (k : Int) < (n : Int) → okk (f_M_pays_21 v1 n S v2 (k : Int)) (fun u => u.2 = S) := by
  intro n
  induction n with
  | zero => intro v2 k h1 h2 h3; exfalso; omega
  | succ n ih =>
    intro v2 k h1 h2 h3
    have b27 := mx_192_27 h.1
    have e27 : gi S 192 27 = gi T0 192 27 := h.2.1 192 27 (by omega)
    have go : ∀ a : Int, 0 ≤ a ∧ a ≤ 999 → (k : Int) < gi S 192 27 → okk (f_M_pays_91 v1 (f_M_pays_21 v1 n) S (k : Int) a v2) (fun u => u.2 = S) := by
      intro a ha hlt
      unfold f_M_pays_91
      refine ok_chk (by omega) (ok_chk (by omega) ?_)
      rw [show (k : Int) + 1 = ((k + 1 : Nat) : Int) by omega]
      exact ih _ _ (by omega) (by omega) (by omega)
    show okk (f_M_pays_21_b v1 (f_M_pays_21 v1 n) S v2 (k : Int)) _
    unfold f_M_pays_21_b
    rw [Int.toNat_natCast]
    refine ok_if (fun _ => ok_some rfl) (fun c => ok_chk (by omega) (ok_if (fun c2 => ?_) (fun _ => go 0 (by decide) (by omega))))
    have st : m_st T0 k = 0 := by rw [← h.2.2 k (by omega)]; exact c2
    have k5 := (m_st_ok T0 k (by omega) (.inl st)).1
    have e199 : gi S 199 k = gi T0 199 k := h.2.1 199 k (by omega)
    have vv := hN k (by omega)
    unfold m_val at vv
    have kk : 0 ≤ gi S 199 k ∧ gi S 199 k < 5 := by omega
    have b210 := mx_210 h.1 (gi S 199 k).toNat
    have g73 : ∀ a c : Int, okk (f_M_pays_73 v1 (f_M_pays_21 v1 n) S (k : Int) a c v2) (fun u => u.2 = S) := by
      intro a c'
      unfold f_M_pays_73 f_M_pays_90
      rw [Int.toNat_natCast]
      exact ok_if (fun _ => ok_chk (by omega) (ok_chk kk (go _ b210 (by omega)))) (fun _ => go 0 (by decide) (by omega))
    have g63 : ∀ a : Int, okk (f_M_pays_63 v1 (f_M_pays_21 v1 n) S (k : Int) a v2) (fun u => u.2 = S) := by
      intro a
      unfold f_M_pays_63
      exact ok_if (fun _ => g73 _ _) (fun _ => g73 _ _)
    unfold f_M_pays_58
    exact ok_chk (by omega) (ok_if (fun _ => g63 _) (fun _ => ok_chk (by omega) (ok_if (fun _ => g63 _) (fun _ => g63 _))))
theorem ok_M_pays {S : SS} (hC : MX 0 S) (hN : NX S) (v1 : Int) : okk (f_M_pays S v1) (fun u => MX 0 u.2 ∧ NX u.2) := by
  unfold f_M_pays
  refine ok_if (fun _ => ok_some ⟨hC, hN⟩) (fun _ => ok_b1 (HI_judge hC) (fun S3 h3 => ok_mono (okl_M_pays v1 S S3 hN h3 FU 0 0 (by omega) (by omega) (by unfold FU; omega)) (fun u e => ?_)))
  rw [e]; exact ⟨h3.1, HI_nx hN h3⟩
theorem pfl_trace (S0 : SS) : ∀ (n : Nat) (S : SS) (v1 v2 v3 : Int), fr XH S0 S → pc (f_M_trace_24 n S v1 v2 v3) (fr XH S0) := by
  intro n
  induction n with
  | zero => intro S v1 v2 v3 h r e; exact absurd e (by simp [f_M_trace_24])
  | succ n ih =>
    have b258 : ∀ S a c d e, fr XH S0 S → pc (f_M_trace_258 (f_M_trace_24 n) S a c d e) (fr XH S0) := fun S a c d e h => by
      unfold f_M_trace_258; exact pc_chk (fun _ => ih _ _ _ _ h)
    have b245 : ∀ S a c d e f, fr XH S0 S → pc (f_M_trace_245 (f_M_trace_24 n) S a c d e f) (fr XH S0) := fun S a c d e f h => by
      unfold f_M_trace_245; exact pc_chk (fun _ => pc_if (fun _ => b258 _ _ _ _ _ h) (fun _ => b258 _ _ _ _ _ h))
    have b240 : ∀ S a c d e, fr XH S0 S → pc (f_M_trace_240 (f_M_trace_24 n) S a c d e) (fr XH S0) := fun S a c d e h => by
      unfold f_M_trace_240; exact b245 _ _ _ _ _ _ h
    have b195 : ∀ S a c d e f g i, fr XH S0 S → pc (f_M_trace_195 (f_M_trace_24 n) S a c d e f g i) (fr XH S0) := fun S a c d e f g i h => by
      unfold f_M_trace_195
      exact pc_chk (fun _ => pf_lt h (by omega) (fun _ h => pc_chk (fun _ => pf_lt h (by omega) (fun _ h => pc_chk (fun _ => pf_lt h (by omega) (fun _ h => pc_chk (fun _ => pf_lt h (by omega) (fun _ h => pc_chk (fun _ => pc_if (fun _ => pc_if (fun _ => b245 _ _ _ _ _ _ h) (fun _ => b240 _ _ _ _ _ h)) (fun _ => b240 _ _ _ _ _ h))))))))))
    have b166 : ∀ S a c d e f, fr XH S0 S → pc (f_M_trace_166 (f_M_trace_24 n) S a c d e f) (fr XH S0) := fun S a c d e f h => by
      unfold f_M_trace_166; exact pc_if (fun _ => pc_if (fun _ => b195 _ _ _ _ _ _ _ _ h) (fun _ => b195 _ _ _ _ _ _ _ _ h)) (fun _ => b195 _ _ _ _ _ _ _ _ h)
    have b165 : ∀ S a c d e, fr XH S0 S → pc (f_M_trace_165 (f_M_trace_24 n) S a c d e) (fr XH S0) := fun S a c d e h => by
      unfold f_M_trace_165; exact b166 _ _ _ _ _ _ h
    have b128 : ∀ S a c d e, fr XH S0 S → pc (f_M_trace_128 (f_M_trace_24 n) S a c d e) (fr XH S0) := fun S a c d e h => by
      unfold f_M_trace_128
      exact pc_if (fun _ => pc_if (fun _ => b165 _ _ _ _ _ h) (fun _ => pc_chk (fun _ => pf_b1 (fun _ => pc_chk (fun _ => pc_chk (fun _ => pc_if (fun _ => b166 _ _ _ _ _ _ h) (fun _ => b165 _ _ _ _ _ h))))))) (fun _ => b165 _ _ _ _ _ h)
    have b127 : ∀ S a c d, fr XH S0 S → pc (f_M_trace_127 (f_M_trace_24 n) S a c d) (fr XH S0) := fun S a c d h => by
      unfold f_M_trace_127; exact b128 _ _ _ _ _ h
    have b87 : ∀ S a c d, fr XH S0 S → pc (f_M_trace_87 (f_M_trace_24 n) S a c d) (fr XH S0) := fun S a c d h => by
      unfold f_M_trace_87
      exact pc_if (fun _ => b127 _ _ _ _ h) (fun _ => pc_if (fun _ => b127 _ _ _ _ h) (fun _ => pc_chk (fun _ => pc_chk (fun _ => pf_b1 (fun _ => pc_chk (fun _ => pc_chk (fun _ => pc_if (fun _ => b128 _ _ _ _ _ h) (fun _ => b127 _ _ _ _ h))))))))
    intro S v1 v2 v3 h
    show pc (f_M_trace_24_b (f_M_trace_24 n) S v1 v2 v3) _
    unfold f_M_trace_24_b
    exact pc_if (fun _ => pc_some h) (fun _ => pc_if (fun _ => b87 _ _ _ _ h) (fun _ => pc_if (fun _ => b87 _ _ _ _ h) (fun _ => pc_chk (fun _ => pc_chk (fun _ => pc_if (fun _ => pc_chk (fun _ => pc_chk (fun _ => pf_b1 (fun _ => pc_chk (fun _ => pc_if (fun _ => pc_chk (fun _ => pc_chk (fun _ => ih _ _ _ _ h))) (fun _ => b87 _ _ _ _ h)))))) (fun _ => b87 _ _ _ _ h))))))
theorem cpt2 {S : SS} (hC : MX 0 S) : cpt 2 (gi S 192 5) ∧ cpt 1 (gi S 192 4) := by
  have b5 := mx_192_5 hC
  have b4 := mx_192_4 hC
  unfold cpt
  omega
theorem fh_trace {S0 S : SS} (hC : MX 0 S) (h : fr XH S0 S) : pc (f_M_trace S) (fr XH S0) := by
  unfold f_M_trace
  have c := cpt2 hC
  refine pc_b2 (ok_true (ok_M_apart S 2 (gi S 192 5) 1 (gi S 192 4) hC c.1 c.2)) (fun r S3 h3 => ?_)
  have h3' : fr XH S0 S3 := fr_trans h (fun r k a => h3.2.1 r k (by omega))
  exact pf_lt h3' (by omega) (fun S6 h6 => pfl_trace S0 FU S6 _ _ _ h6)
theorem m_dn_lt (st : Nat → Int) (k : Nat) (h : st k = 0) : ∀ n, k < n → m_dn st k < m_dn st n := by
  have mono : ∀ n, k ≤ n → m_dn st k ≤ m_dn st n := by
    intro n
    induction n with
    | zero => intro hk; rw [show k = 0 by omega]; exact Nat.le_refl _
    | succ n ih =>
      intro hk
      by_cases e : k = n + 1
      · rw [e]; exact Nat.le_refl _
      · have := ih (by omega)
        rw [m_dn]; omega
  intro n hk
  obtain ⟨n, rfl⟩ : ∃ n', n = n' + 1 := ⟨n - 1, by omega⟩
  by_cases e : k = n
  · rw [m_dn, ← e, if_pos h]; omega
  · have h1 : m_dn st (k + 1) = m_dn st k + 1 := by rw [m_dn, if_pos h]
    have m2 : ∀ n, k + 1 ≤ n → m_dn st (k + 1) ≤ m_dn st n := by
      intro n
      induction n with
      | zero => intro hk; omega
      | succ n ih =>
        intro hk
        by_cases e : k + 1 = n + 1
        · rw [e]; exact Nat.le_refl _
        · have := ih (by omega)
          show _ ≤ m_dn st n + _
          omega
    have := m2 (n + 1) (by omega)
    omega
theorem okl_M_hold_182 (T0 : SS) (hN : NX T0) (hd : m_dn (m_st T0) (gi T0 192 27).toNat ≤ 8) (v2 v3 : Int) : ∀ (n : Nat) (S : SS) (k : Nat), HI T0 S → (k : Int) ≤ gi T0 192 27 → gi S 192 36 ≤ (m_dn (m_st T0) k : Int) → gi T0 192 27 - (k : Int) < (n : Int) → okk (f_M_hold_182 n S v2 v3 (m_dn (m_st T0) k : Int) (k : Int)) (fun u => MX 0 u.2 ∧ fr XH T0 u.2) := by
  intro n
  induction n with
  | zero => intro S k h h1 h2 h3; exfalso; omega
  | succ n ih =>
    intro S k h h1 h2 h3
    have b27 := mx_192_27 h.1
    have b36 := mx_192_36 h.1
    have e27 : gi S 192 27 = gi T0 192 27 := h.2.1 192 27 (by omega)
    have dle : ∀ j, m_dn (m_st T0) j ≤ j := by
      intro j
      induction j with
      | zero => exact Nat.le_refl _
      | succ j ih => rw [m_dn]; split <;> omega
    have g238 : ∀ S', HI T0 S' → ∀ d : Nat, d = m_dn (m_st T0) (k + 1) → gi S' 192 36 ≤ (d : Int) → (k : Int) < gi T0 192 27 → okk (f_M_hold_238 (f_M_hold_182 n) S' v2 v3 (d : Int) (k : Int)) (fun u => MX 0 u.2 ∧ fr XH T0 u.2) := by
      intro S' h' d ed hle hlt
      unfold f_M_hold_238
      refine ok_chk (by omega) ?_
      rw [show (k : Int) + 1 = ((k + 1 : Nat) : Int) by omega, ed]
      exact ih S' (k + 1) h' (by omega) (by omega) (by omega)
    show okk (f_M_hold_182_b (f_M_hold_182 n) S v2 v3 (m_dn (m_st T0) k : Int) (k : Int)) _
    unfold f_M_hold_182_b
    rw [Int.toNat_natCast]
    refine ok_if (fun c => ?_) (fun c => ok_chk (by omega) (ok_if (fun c2 => ?_) (fun c2 => ?_)))
    · refine ok_b1 (HI_make hN h.1 h.2.1 v2) (fun S2 hS2 => ok_b1 (ok_and (ok_M_trace S2 hS2.1) (fh_trace hS2.1 hS2.2.1)) (fun S4 h4 => ok_some ⟨h4.1.1, h4.2⟩))
    · have st : m_st T0 k = 0 := by rw [← h.2.2 k (by omega)]; exact c2
      have dl := m_dn_lt (m_st T0) k st (gi T0 192 27).toNat (by omega)
      have ed : m_dn (m_st T0) k + 1 = m_dn (m_st T0) (k + 1) := by
        show _ = m_dn (m_st T0) k + _
        rw [if_pos st]
      have g235 : ∀ S', HI T0 S' → gi S' 192 36 ≤ (m_dn (m_st T0) k : Int) + 1 → okk (f_M_hold_235 (f_M_hold_182 n) S' v2 v3 (m_dn (m_st T0) k : Int) (k : Int)) (fun u => MX 0 u.2 ∧ fr XH T0 u.2) := by
        intro S' h' hle
        unfold f_M_hold_235
        refine ok_chk (by omega) ?_
        rw [show (m_dn (m_st T0) k : Int) + 1 = ((m_dn (m_st T0) k + 1 : Nat) : Int) by omega]
        exact g238 S' h' _ ed (by omega) (by omega)
      refine ok_if (fun c3 => ok_chk (by omega) (ok_lt (fun S10 e10 => ?_))) (fun c3 => g235 S h (by omega))
      have h10 : HI T0 S10 := by rw [e10]; exact HI_si h (by omega) (by omega) (ms_216 h.1 (by omega) (by omega))
      have e36 : gi S10 192 36 = gi S 192 36 := by rw [e10, gi_off (by omega)]
      refine ok_chk (by omega) (ok_lt (fun S13 e13 => g235 S13 ?_ ?_))
      · rw [e13]; exact HI_si h10 (by omega) (by omega) (ms_192_36 h10.1 (by omega) (by omega))
      · rw [e13, gi_at]; omega
    · have st : m_st T0 k ≠ 0 := by rw [← h.2.2 k (by omega)]; exact c2
      have ed : m_dn (m_st T0) k = m_dn (m_st T0) (k + 1) := by
        show _ = m_dn (m_st T0) k + _
        rw [if_neg st]; rfl
      exact g238 S h _ ed h2 (by omega)
theorem mul9 {a c : Int} (ha : 0 ≤ a ∧ a ≤ 9) (hc : 0 ≤ c ∧ c ≤ 450) : 0 ≤ a * c ∧ a * c ≤ 4050 := by
  refine ⟨Int.mul_nonneg ha.1 hc.1, ?_⟩
  have h1 : a * c ≤ 9 * c := Int.mul_le_mul_of_nonneg_right ha.2 hc.1
  omega
theorem okl_M_hold_55 (T0 : SS) (hN : NX T0) (d : Int) (hd0 : 0 ≤ d ∧ d ≤ 8) (hd : m_dn (m_st T0) (gi T0 192 27).toNat ≤ 8) : ∀ (n : Nat) (S : SS) (v2 v3 v4 : Int), HI T0 S → (-2147483648 ≤ v2 ∧ v2 ≤ 2147483647) → (0 ≤ v4 ∧ v4 ≤ 256) → 256 - v4 < (n : Int) → okk (f_M_hold_55 n S d v2 v3 v4) (fun u => MX 0 u.2 ∧ fr XH T0 u.2) := by
  intro n
  induction n with
  | zero => intro S v2 v3 v4 h h2 h3 h4; exfalso; omega
  | succ n ih =>
    intro S v2 v3 v4 h h2 h3 h4
    have sh := shl1 d hd0
    show okk (f_M_hold_55_b (f_M_hold_55 n) S d v2 v3 v4) _
    unfold f_M_hold_55_b
    refine ok_if (fun c => ok_lt (fun S2 e2 => ok_lt (fun S3 e3 => ok_lt (fun S4 e4 => ?_)))) (fun c => ok_b1 (HI_make hN h.1 h.2.1 v4) (fun S5 h5 => ?_))
    · have H2 : HI T0 S2 := by rw [e2]; exact HI_si h (by omega) (by omega) (ms_192_38 h.1 (by decide) (by decide))
      have H3 : HI T0 S3 := by rw [e3]; exact HI_si H2 (by omega) (by omega) (ms_192_35 H2.1 h2.1 h2.2)
      have H4 : HI T0 S4 := by rw [e4]; exact HI_si H3 (by omega) (by omega) (ms_192_36 H3.1 (by decide) (by decide))
      have b27 := mx_192_27 H4.1
      have e27 : gi S4 192 27 = gi T0 192 27 := H4.2.1 192 27 (by omega)
      exact okl_M_hold_182 T0 hN hd v2 v3 FU S4 0 H4 (by omega) (by rw [e4, gi_at]; exact Int.le_refl _) (by unfold FU; omega)
    · have cc := cpt2 h5.1
      have b5 := mx_192_5 h5.1
      have b4 := mx_192_4 h5.1
      refine ok_b2 (ok_M_apart S5 2 (gi S5 192 5) 1 (gi S5 192 4) h5.1 cc.1 cc.2) (fun r11 S10 h10 => ?_)
      have H10 : HI T0 S10 := HI_FF h5 h10.1 h10.2.1
      have hr : 0 ≤ r11 ∧ r11 ≤ gi S5 192 5 + gi S5 192 4 := ⟨h10.2.2.1, h10.2.2.2⟩
      have m1 := mul9 (mx_211 h5.1 0) (show 0 ≤ r11 ∧ r11 ≤ 450 by omega)
      refine ok_chk (by omega) (ok_b1 (ok_M_bits S10 v4 H10.1) (fun r15 h15 => ?_))
      have m2 := mul9 (mx_211 H10.1 1) (show 0 ≤ r15 ∧ r15 ≤ 450 by omega)
      have g155 : ∀ a c, -2147483648 ≤ a ∧ a ≤ 2147483647 → okk (f_M_hold_155 (f_M_hold_55 n) S10 d a c v4) (fun u => MX 0 u.2 ∧ fr XH T0 u.2) := by
        intro a c' ha
        unfold f_M_hold_155
        exact ok_chk (by omega) (ih S10 a c' (v4 + 1) H10 ha (by omega) (by omega))
      have g139 : ∀ e f, okk (f_M_hold_139 (f_M_hold_55 n) S10 d v2 v3 v4 e f) (fun u => MX 0 u.2 ∧ fr XH T0 u.2) := by
        intro e f
        unfold f_M_hold_139
        exact ok_if (fun _ => g155 _ _ h2) (fun _ => g155 _ _ (by omega))
      have g134 : ∀ e, okk (f_M_hold_134 (f_M_hold_55 n) S10 d v2 v3 v4 e) (fun u => MX 0 u.2 ∧ fr XH T0 u.2) := fun e => by unfold f_M_hold_134; exact g139 _ _
      have g138 : ∀ e, okk (f_M_hold_138 (f_M_hold_55 n) S10 d v2 v3 v4 e) (fun u => MX 0 u.2 ∧ fr XH T0 u.2) := fun e => by unfold f_M_hold_138; exact g139 _ _
      refine ok_chk (by omega) (ok_chk (by omega) (ok_if (fun _ => g134 _) (fun _ => ok_if (fun _ => g134 _) (fun _ => ok_if (fun _ => ok_b1 (ok_M_bits S10 v4 H10.1) (fun r19 _ => ok_b1 (ok_M_bits S10 v2 H10.1) (fun r21 _ => ok_if (fun _ => g138 _) (fun _ => g134 _)))) (fun _ => g138 _)))))
theorem okl_M_hold_8 (T0 : SS) (hN : NX T0) : ∀ (n : Nat) (S : SS) (k : Nat), HI T0 S → (k : Int) ≤ gi T0 192 27 → gi T0 192 27 - (k : Int) < (n : Int) → okk (f_M_hold_8 n S (m_dn (m_st T0) k : Int) (k : Int)) (fun u => MX 0 u.2 ∧ fr XH T0 u.2) := by
  intro n
  induction n with
  | zero => intro S k h h1 h2; exfalso; omega
  | succ n ih =>
    intro S k h h1 h2
    have b27 := mx_192_27 h.1
    have e27 : gi S 192 27 = gi T0 192 27 := h.2.1 192 27 (by omega)
    have dle : ∀ j, m_dn (m_st T0) j ≤ j := by
      intro j
      induction j with
      | zero => exact Nat.le_refl _
      | succ j ih => rw [m_dn]; split <;> omega
    have dk := dle k
    show okk (f_M_hold_8_b (f_M_hold_8 n) S (m_dn (m_st T0) k : Int) (k : Int)) _
    unfold f_M_hold_8_b f_M_hold_31
    rw [Int.toNat_natCast]
    refine ok_if (fun c => ok_if (fun c2 => ?_) (fun _ => ok_some ⟨h.1, h.2.1⟩)) (fun c => ok_chk (by omega) (ok_if (fun c2 => ?_) (fun c2 => ?_)))
    · have ek : (gi T0 192 27).toNat = k := by omega
      exact okl_M_hold_55 T0 hN (m_dn (m_st T0) k : Int) (by omega) (by rw [ek]; omega) FU S (-1) 0 0 h (by omega) (by omega) (by unfold FU; omega)
    · have st : m_st T0 k = 0 := by rw [← h.2.2 k (by omega)]; exact c2
      have ed : (m_dn (m_st T0) k : Int) + 1 = (m_dn (m_st T0) (k + 1) : Int) := by
        rw [m_dn, if_pos st]; omega
      refine ok_chk (by omega) (ok_chk (by omega) ?_)
      rw [ed, show (k : Int) + 1 = ((k + 1 : Nat) : Int) by omega]
      exact ih S (k + 1) h (by omega) (by omega)
    · have st : m_st T0 k ≠ 0 := by rw [← h.2.2 k (by omega)]; exact c2
      have ed : (m_dn (m_st T0) k : Int) + 0 = (m_dn (m_st T0) (k + 1) : Int) := by
        rw [m_dn, if_neg st]; omega
      refine ok_chk (by omega) (ok_chk (by omega) ?_)
      rw [ed, show (k : Int) + 1 = ((k + 1 : Nat) : Int) by omega]
      exact ih S (k + 1) h (by omega) (by omega)
theorem ok_M_hold {S : SS} (hC : MX 0 S) (hN : NX S) : okk (f_M_hold S) (fun u => MX 0 u.2 ∧ NX u.2) := by
  have b27 := mx_192_27 hC
  unfold f_M_hold
  refine ok_b1 (HI_judge hC) (fun S1 h1 => ok_mono (okl_M_hold_8 S hN FU S1 0 h1 (by omega) (by unfold FU; omega)) (fun u hu => ⟨hu.1, nx_fr hN hu.2 (fun k => by omega) (by omega) (by omega)⟩))
/-- all ints of the class stay but at the places X; the sheet that the setter sets into stays -/
def FX (X : Nat → Nat → Prop) (S0 S : SS) : Prop := (∀ r k, ¬ X r k → gi S r k = gi S0 r k) ∧ gq S 178 4 = gq S0 178 4
theorem FX_refl (X : Nat → Nat → Prop) (S : SS) : FX X S S := ⟨fun _ _ _ => rfl, rfl⟩
theorem FX_si {X : Nat → Nat → Prop} {S0 S : SS} {r k : Nat} {v : Int} (h : FX X S0 S) (hx : X r k) : FX X S0 (si S r k v) := ⟨fun r' k' a => by rw [gi_si, if_neg (fun q => a (by rw [q.1, q.2]; exact hx))]; exact h.1 r' k' a, h.2⟩
theorem FX_sl {X : Nat → Nat → Prop} {S0 S : SS} {r k : Nat} {v : Int64} (h : FX X S0 S) : FX X S0 (sl S r k v) := h
theorem gq_off {S : SS} {r k r' k' : Nat} {v : Option Nat} (h : ¬ (r' = r ∧ k' = k)) : gq (sq S r k v) r' k' = gq S r' k' := by
  unfold gq sq up2
  by_cases e : r' = r
  · by_cases e2 : k' = k
    · exact absurd ⟨e, e2⟩ h
    · simp [e, e2]
  · simp [e]
theorem gq_at (S : SS) (r k : Nat) (v : Option Nat) : gq (sq S r k v) r k = v := by unfold gq sq up2; simp
theorem FX_sq {X : Nat → Nat → Prop} {S0 S : SS} {r k : Nat} {v : Option Nat} (h : FX X S0 S) (hx : ¬ (178 = r ∧ 4 = k)) : FX X S0 (sq S r k v) := ⟨h.1, by rw [gq_off hx]; exact h.2⟩
theorem xf_lt {β : Type} {X : Nat → Nat → Prop} {S0 S : SS} {r k : Nat} {v : Int} {g : SS → Option β} {P : β → Prop} (h : FX X S0 S) (hx : X r k) (hk : ∀ y, FX X S0 y → pc (g y) P) : pc (w_lt (si S r k v) g) P := hk _ (FX_si h hx)
theorem xf_lts {β : Type} {X : Nat → Nat → Prop} {S0 S : SS} {r k : Nat} {v : Int64} {g : SS → Option β} {P : β → Prop} (h : FX X S0 S) (hk : ∀ y, FX X S0 y → pc (g y) P) : pc (w_lt (sl S r k v) g) P := hk _ (FX_sl h)
theorem xf_ltq {β : Type} {X : Nat → Nat → Prop} {S0 S : SS} {r k : Nat} {v : Option Nat} {g : SS → Option β} {P : β → Prop} (h : FX X S0 S) (hx : ¬ (178 = r ∧ 4 = k)) (hk : ∀ y, FX X S0 y → pc (g y) P) : pc (w_lt (sq S r k v) g) P := hk _ (FX_sq h hx)
theorem xf_let {β : Type} {X : Nat → Nat → Prop} {S0 x : SS} {g : SS → Option β} {P : β → Prop} (h : FX X S0 x) (hk : ∀ y, FX X S0 y → pc (g y) P) : pc (w_lt x g) P := hk _ h
theorem xf_ltv {α β : Type} {x : α} {g : α → Option β} {P : β → Prop} (hk : ∀ y, pc (g y) P) : pc (w_lt x g) P := hk _
theorem pc_none {α : Type} {P : α → Prop} : pc (none : Option α) P := fun r e => nomatch e
theorem pc_on {β : Type} {P : β → Prop} {o : Option Nat} {x : Option β} {k : Nat → Option β} (h1 : pc x P) (h2 : ∀ j, o = some j → pc (k j) P) : pc (w_on o x k) P := by
  cases o with
  | none => exact h1
  | some j => exact h2 j rfl
theorem fx_Fault_clear {X : Nat → Nat → Prop} {S0 : SS} (x_3_0 : X 3 0) (x_3_1 : X 3 1) : ∀ S, FX X S0 S → FX X S0 (f_Fault_clear S) := fun S h => FX_si (FX_si h x_3_0) x_3_1
theorem fx_Sheet_clear {X : Nat → Nat → Prop} {S0 : SS} {q0 : Nat} (x_q0 : X q0 1) : ∀ S, FX X S0 S → FX X S0 (f_Sheet_clear S q0) := fun S h => FX_si h x_q0
theorem fx_Pile_clear {X : Nat → Nat → Prop} {S0 : SS} (x_10_3 : X 10 3) (x_10_4 : X 10 4) (x_10_5 : X 10 5) : ∀ S, FX X S0 S → FX X S0 (f_Pile_clear S) := fun S h => FX_si (FX_si (FX_si h x_10_3) x_10_4) x_10_5
theorem fx_Mark_voidByStet {X : Nat → Nat → Prop} {S0 : SS} (x_m_8 : ∀ j, j < 40 → X (14 + 4 * j) 8) (x_m_10 : ∀ j, j < 40 → X (14 + 4 * j) 10) : ∀ S j v, j < 40 → FX X S0 S → FX X S0 (f_Mark_voidByStet S j v) := by
  intro S j v hj h
  unfold f_Mark_voidByStet
  by_cases c : gi S (14 + 4 * j) 8 = 0
  · rw [if_pos c]; exact FX_si (FX_si h (x_m_8 j hj)) (x_m_10 j hj)
  · rw [if_neg c]; exact h
set_option maxHeartbeats 4000000 in
theorem fx_Fault_tellOf {X : Nat → Nat → Prop} {S0 : SS} (x_3_0 : X 3 0) (x_3_1 : X 3 1) : ∀ (S : SS) (v1 : Int) (v2 : Int), FX X S0 S → pc (f_Fault_tellOf S v1 v2) (fun u => FX X S0 u.2) := by
  intro S v1 v2 h
  unfold f_Fault_tellOf
  repeat' first | with_reducible exact pc_some (by assumption) | with_reducible exact pc_none | with_reducible refine pc_chk (fun _ => ?_) | with_reducible refine pc_if (fun _ => ?_) (fun _ => ?_) | with_reducible refine pc_on ?_ (fun _ _ => ?_) | with_reducible refine xf_lt (by assumption) (by first | exact x_3_0 | exact x_3_1) (fun _ _ => ?_) | with_reducible refine xf_lts (by assumption) (fun _ _ => ?_) | with_reducible refine xf_ltq (by assumption) (by omega) (fun _ _ => ?_) | with_reducible refine pf_b1 (fun _ => ?_) | with_reducible refine xf_ltv (fun _ => ?_)
set_option maxHeartbeats 4000000 in
theorem fxl_Tape_addFour_3 {X : Nat → Nat → Prop} {S0 : SS} (x_2 : ∀ k, X 2 k) (x_1_1 : X 1 1) (v1 : Int)  : ∀ (n : Nat) (S : SS) (v2_ : Int), FX X S0 S → pc (f_Tape_addFour_3 v1 n S v2_) (FX X S0) := by
  intro n
  induction n with
  | zero => intro S v2_ h r e; exact absurd e (by simp [f_Tape_addFour_3])
  | succ n ih =>
    intro S v2_ h
    show pc (f_Tape_addFour_3_b v1 (f_Tape_addFour_3 v1 n) S v2_) _
    unfold f_Tape_addFour_3_b
    repeat' first | with_reducible exact ih _ _ (by assumption) | with_reducible unfold f_Tape_addFour_49 | with_reducible exact pc_some (by assumption) | with_reducible exact pc_none | with_reducible refine pc_chk (fun _ => ?_) | with_reducible refine pc_if (fun _ => ?_) (fun _ => ?_) | with_reducible refine pc_on ?_ (fun _ _ => ?_) | with_reducible refine xf_lt (by assumption) (by first | exact x_2 _ | exact x_1_1) (fun _ _ => ?_) | with_reducible refine xf_lts (by assumption) (fun _ _ => ?_) | with_reducible refine xf_ltq (by assumption) (by omega) (fun _ _ => ?_) | with_reducible refine pf_b1 (fun _ => ?_) | with_reducible refine xf_ltv (fun _ => ?_)
set_option maxHeartbeats 4000000 in
theorem fx_Tape_addFour {X : Nat → Nat → Prop} {S0 : SS} (x_2 : ∀ k, X 2 k) (x_1_1 : X 1 1) : ∀ (S : SS) (v1 : Int), FX X S0 S → pc (f_Tape_addFour S v1) (FX X S0) := by
  intro S v1 h
  unfold f_Tape_addFour
  repeat' first | with_reducible exact fxl_Tape_addFour_3 (x_2 := x_2) (x_1_1 := x_1_1) _ FU _ _ (by assumption) | with_reducible unfold f_Tape_addFour_49 | with_reducible exact pc_some (by assumption) | with_reducible exact pc_none | with_reducible refine pc_chk (fun _ => ?_) | with_reducible refine pc_if (fun _ => ?_) (fun _ => ?_) | with_reducible refine pc_on ?_ (fun _ _ => ?_) | with_reducible refine xf_lt (by assumption) (by first | exact x_2 _ | exact x_1_1) (fun _ _ => ?_) | with_reducible refine xf_lts (by assumption) (fun _ _ => ?_) | with_reducible refine xf_ltq (by assumption) (by omega) (fun _ _ => ?_) | with_reducible refine pf_b1 (fun _ => ?_) | with_reducible refine xf_ltv (fun _ => ?_)
set_option maxHeartbeats 4000000 in
theorem fx_Sheet_add {X : Nat → Nat → Prop} {S0 : SS}  {q0 : Nat} (x_q0 : X q0 1) : ∀ (S : SS) (w1 : Int64), FX X S0 S → pc (f_Sheet_add S q0 w1) (FX X S0) := by
  intro S w1 h
  unfold f_Sheet_add
  repeat' first | with_reducible exact pc_some (by assumption) | with_reducible exact pc_none | with_reducible refine pc_chk (fun _ => ?_) | with_reducible refine pc_if (fun _ => ?_) (fun _ => ?_) | with_reducible refine pc_on ?_ (fun _ _ => ?_) | with_reducible refine xf_lt (by assumption) (by first | exact x_q0) (fun _ _ => ?_) | with_reducible refine xf_lts (by assumption) (fun _ _ => ?_) | with_reducible refine xf_ltq (by assumption) (by omega) (fun _ _ => ?_) | with_reducible refine pf_b1 (fun _ => ?_) | with_reducible refine xf_ltv (fun _ => ?_)
set_option maxHeartbeats 4000000 in
theorem fxl_Sheet_addAll_2 {X : Nat → Nat → Prop} {S0 : SS}  {q0 : Nat} (x_q0 : X q0 1) (q1 : Nat)  : ∀ (n : Nat) (S : SS) (v2_ : Int), FX X S0 S → pc (f_Sheet_addAll_2 q0 q1 n S v2_) (FX X S0) := by
  intro n
  induction n with
  | zero => intro S v2_ h r e; exact absurd e (by simp [f_Sheet_addAll_2])
  | succ n ih =>
    intro S v2_ h
    show pc (f_Sheet_addAll_2_b q0 q1 (f_Sheet_addAll_2 q0 q1 n) S v2_) _
    unfold f_Sheet_addAll_2_b
    repeat' first | with_reducible exact ih _ _ (by assumption) | with_reducible exact pc_some (by assumption) | with_reducible exact pc_none | with_reducible refine pc_chk (fun _ => ?_) | with_reducible refine pc_if (fun _ => ?_) (fun _ => ?_) | with_reducible refine pc_on ?_ (fun _ _ => ?_) | with_reducible refine pc_b1 (fx_Sheet_add (x_q0 := (by first | exact x_q0)) _ _ (by assumption)) (fun _ _ => ?_) | with_reducible refine xf_lt (by assumption) (by first | exact x_q0) (fun _ _ => ?_) | with_reducible refine xf_lts (by assumption) (fun _ _ => ?_) | with_reducible refine xf_ltq (by assumption) (by omega) (fun _ _ => ?_) | with_reducible refine pf_b1 (fun _ => ?_) | with_reducible refine xf_ltv (fun _ => ?_)
set_option maxHeartbeats 4000000 in
theorem fx_Sheet_addAll {X : Nat → Nat → Prop} {S0 : SS}  {q0 : Nat} (x_q0 : X q0 1) : ∀ (S : SS) (q1 : Nat), FX X S0 S → pc (f_Sheet_addAll S q0 q1) (FX X S0) := by
  intro S q1 h
  unfold f_Sheet_addAll
  repeat' first | with_reducible exact fxl_Sheet_addAll_2 (x_q0 := x_q0) _ FU _ _ (by assumption) | with_reducible exact pc_some (by assumption) | with_reducible exact pc_none | with_reducible refine pc_chk (fun _ => ?_) | with_reducible refine pc_if (fun _ => ?_) (fun _ => ?_) | with_reducible refine pc_on ?_ (fun _ _ => ?_) | with_reducible refine pc_b1 (fx_Sheet_add (x_q0 := (by first | exact x_q0)) _ _ (by assumption)) (fun _ _ => ?_) | with_reducible refine xf_lt (by assumption) (by first | exact x_q0) (fun _ _ => ?_) | with_reducible refine xf_lts (by assumption) (fun _ _ => ?_) | with_reducible refine xf_ltq (by assumption) (by omega) (fun _ _ => ?_) | with_reducible refine pf_b1 (fun _ => ?_) | with_reducible refine xf_ltv (fun _ => ?_)
set_option maxHeartbeats 4000000 in
theorem fx_Sheet_copyFrom {X : Nat → Nat → Prop} {S0 : SS}  {q0 : Nat} (x_q0 : X q0 1) : ∀ (S : SS) (q1 : Nat), FX X S0 S → pc (f_Sheet_copyFrom S q0 q1) (FX X S0) := by
  intro S q1 h
  unfold f_Sheet_copyFrom
  repeat' first | with_reducible exact pc_some (by assumption) | with_reducible exact pc_none | with_reducible refine pc_chk (fun _ => ?_) | with_reducible refine pc_if (fun _ => ?_) (fun _ => ?_) | with_reducible refine pc_on ?_ (fun _ _ => ?_) | with_reducible refine xf_let (fx_Sheet_clear (x_q0 := (by first | exact x_q0)) _ (by assumption)) (fun _ _ => ?_) | with_reducible refine pc_b1 (fx_Sheet_addAll (x_q0 := (by first | exact x_q0)) _ _ (by assumption)) (fun _ _ => ?_) | with_reducible refine xf_lt (by assumption) (by first | exact x_q0) (fun _ _ => ?_) | with_reducible refine xf_lts (by assumption) (fun _ _ => ?_) | with_reducible refine xf_ltq (by assumption) (by omega) (fun _ _ => ?_) | with_reducible refine pf_b1 (fun _ => ?_) | with_reducible refine xf_ltv (fun _ => ?_)
set_option maxHeartbeats 4000000 in
theorem fx_Bill_setPrice {X : Nat → Nat → Prop} {S0 : SS} (x_191 : ∀ k, X 191 k) : ∀ (S : SS) (v1 : Int) (v2 : Int), FX X S0 S → pc (f_Bill_setPrice S v1 v2) (fun u => FX X S0 u.2) := by
  intro S v1 v2 h
  unfold f_Bill_setPrice
  repeat' first | with_reducible exact pc_some (by assumption) | with_reducible exact pc_none | with_reducible refine pc_chk (fun _ => ?_) | with_reducible refine pc_if (fun _ => ?_) (fun _ => ?_) | with_reducible refine pc_on ?_ (fun _ _ => ?_) | with_reducible refine xf_lt (by assumption) (by first | exact x_191 _) (fun _ _ => ?_) | with_reducible refine xf_lts (by assumption) (fun _ _ => ?_) | with_reducible refine xf_ltq (by assumption) (by omega) (fun _ _ => ?_) | with_reducible refine pf_b1 (fun _ => ?_) | with_reducible refine xf_ltv (fun _ => ?_)
set_option maxHeartbeats 4000000 in
theorem fxl_Mark_clear_2 {X : Nat → Nat → Prop} {S0 : SS} (x_m_2 : ∀ j, j < 40 → X (14 + 4 * j) 2) (x_m_3 : ∀ j, j < 40 → X (14 + 4 * j) 3) (x_m_7 : ∀ j, j < 40 → X (14 + 4 * j) 7) (x_m_8 : ∀ j, j < 40 → X (14 + 4 * j) 8) (x_m_9 : ∀ j, j < 40 → X (14 + 4 * j) 9) (x_m_10 : ∀ j, j < 40 → X (14 + 4 * j) 10) (x_m_11 : ∀ j, j < 40 → X (14 + 4 * j) 11) (x_m_12 : ∀ j, j < 40 → X (14 + 4 * j) 12) (x_mn : ∀ j k, j < 40 → X (14 + 4 * j + 1) k) (x_ms : ∀ j, j < 40 → X (14 + 4 * j + 2) 1) (j0 : Nat) (hj_j0 : j0 < 40)  : ∀ (n : Nat) (S : SS) (v1_ : Int), FX X S0 S → pc (f_Mark_clear_2 j0 n S v1_) (FX X S0) := by
  intro n
  induction n with
  | zero => intro S v1_ h r e; exact absurd e (by simp [f_Mark_clear_2])
  | succ n ih =>
    intro S v1_ h
    show pc (f_Mark_clear_2_b j0 (f_Mark_clear_2 j0 n) S v1_) _
    unfold f_Mark_clear_2_b
    repeat' first | with_reducible exact ih _ _ (by assumption) | with_reducible exact pc_some (by assumption) | with_reducible exact pc_none | with_reducible refine pc_chk (fun _ => ?_) | with_reducible refine pc_if (fun _ => ?_) (fun _ => ?_) | with_reducible refine pc_on ?_ (fun _ _ => ?_) | with_reducible refine xf_let (fx_Sheet_clear (x_q0 := (by first | exact x_m_2 _ (by omega) | exact x_m_3 _ (by omega) | exact x_m_7 _ (by omega) | exact x_m_8 _ (by omega) | exact x_m_9 _ (by omega) | exact x_m_10 _ (by omega) | exact x_m_11 _ (by omega) | exact x_m_12 _ (by omega) | exact x_mn _ _ (by omega) | exact x_ms _ (by omega))) _ (by assumption)) (fun _ _ => ?_) | with_reducible refine xf_lt (by assumption) (by first | exact x_m_2 _ (by omega) | exact x_m_3 _ (by omega) | exact x_m_7 _ (by omega) | exact x_m_8 _ (by omega) | exact x_m_9 _ (by omega) | exact x_m_10 _ (by omega) | exact x_m_11 _ (by omega) | exact x_m_12 _ (by omega) | exact x_mn _ _ (by omega) | exact x_ms _ (by omega)) (fun _ _ => ?_) | with_reducible refine xf_lts (by assumption) (fun _ _ => ?_) | with_reducible refine xf_ltq (by assumption) (by omega) (fun _ _ => ?_) | with_reducible refine pf_b1 (fun _ => ?_) | with_reducible refine xf_ltv (fun _ => ?_)
set_option maxHeartbeats 4000000 in
theorem fx_Mark_clear {X : Nat → Nat → Prop} {S0 : SS} (x_m_2 : ∀ j, j < 40 → X (14 + 4 * j) 2) (x_m_3 : ∀ j, j < 40 → X (14 + 4 * j) 3) (x_m_7 : ∀ j, j < 40 → X (14 + 4 * j) 7) (x_m_8 : ∀ j, j < 40 → X (14 + 4 * j) 8) (x_m_9 : ∀ j, j < 40 → X (14 + 4 * j) 9) (x_m_10 : ∀ j, j < 40 → X (14 + 4 * j) 10) (x_m_11 : ∀ j, j < 40 → X (14 + 4 * j) 11) (x_m_12 : ∀ j, j < 40 → X (14 + 4 * j) 12) (x_mn : ∀ j k, j < 40 → X (14 + 4 * j + 1) k) (x_ms : ∀ j, j < 40 → X (14 + 4 * j + 2) 1) : ∀ (S : SS) (j0 : Nat), j0 < 40 → FX X S0 S → pc (f_Mark_clear S j0) (FX X S0) := by
  intro S j0 hj0 h
  unfold f_Mark_clear
  repeat' first | with_reducible exact fxl_Mark_clear_2 (x_m_2 := x_m_2) (x_m_3 := x_m_3) (x_m_7 := x_m_7) (x_m_8 := x_m_8) (x_m_9 := x_m_9) (x_m_10 := x_m_10) (x_m_11 := x_m_11) (x_m_12 := x_m_12) (x_mn := x_mn) (x_ms := x_ms) _ (by assumption) FU _ _ (by assumption) | with_reducible exact pc_some (by assumption) | with_reducible exact pc_none | with_reducible refine pc_chk (fun _ => ?_) | with_reducible refine pc_if (fun _ => ?_) (fun _ => ?_) | with_reducible refine pc_on ?_ (fun _ _ => ?_) | with_reducible refine xf_let (fx_Sheet_clear (x_q0 := (by first | exact x_m_2 _ (by omega) | exact x_m_3 _ (by omega) | exact x_m_7 _ (by omega) | exact x_m_8 _ (by omega) | exact x_m_9 _ (by omega) | exact x_m_10 _ (by omega) | exact x_m_11 _ (by omega) | exact x_m_12 _ (by omega) | exact x_mn _ _ (by omega) | exact x_ms _ (by omega))) _ (by assumption)) (fun _ _ => ?_) | with_reducible refine xf_lt (by assumption) (by first | exact x_m_2 _ (by omega) | exact x_m_3 _ (by omega) | exact x_m_7 _ (by omega) | exact x_m_8 _ (by omega) | exact x_m_9 _ (by omega) | exact x_m_10 _ (by omega) | exact x_m_11 _ (by omega) | exact x_m_12 _ (by omega) | exact x_mn _ _ (by omega) | exact x_ms _ (by omega)) (fun _ _ => ?_) | with_reducible refine xf_lts (by assumption) (fun _ _ => ?_) | with_reducible refine xf_ltq (by assumption) (by omega) (fun _ _ => ?_) | with_reducible refine pf_b1 (fun _ => ?_) | with_reducible refine xf_ltv (fun _ => ?_)
set_option maxHeartbeats 4000000 in
theorem fx_Mark_setNumber {X : Nat → Nat → Prop} {S0 : SS} (x_mn : ∀ j k, j < 40 → X (14 + 4 * j + 1) k) : ∀ (S : SS) (j0 : Nat) (v1 : Int) (v2 : Int), j0 < 40 → FX X S0 S → pc (f_Mark_setNumber S j0 v1 v2) (FX X S0) := by
  intro S j0 v1 v2 hj0 h
  unfold f_Mark_setNumber
  repeat' first | with_reducible exact pc_some (by assumption) | with_reducible exact pc_none | with_reducible refine pc_chk (fun _ => ?_) | with_reducible refine pc_if (fun _ => ?_) (fun _ => ?_) | with_reducible refine pc_on ?_ (fun _ _ => ?_) | with_reducible refine xf_lt (by assumption) (by first | exact x_mn _ _ (by omega)) (fun _ _ => ?_) | with_reducible refine xf_lts (by assumption) (fun _ _ => ?_) | with_reducible refine xf_ltq (by assumption) (by omega) (fun _ _ => ?_) | with_reducible refine pf_b1 (fun _ => ?_) | with_reducible refine xf_ltv (fun _ => ?_)
set_option maxHeartbeats 4000000 in
theorem fx_Mark_place {X : Nat → Nat → Prop} {S0 : SS} (x_m_6 : ∀ j, j < 40 → X (14 + 4 * j) 6) (x_m_5 : ∀ j, j < 40 → X (14 + 4 * j) 5) (x_m_4 : ∀ j, j < 40 → X (14 + 4 * j) 4) : ∀ (S : SS) (j0 : Nat), j0 < 40 → FX X S0 S → pc (f_Mark_place S j0) (FX X S0) := by
  intro S j0 hj0 h
  unfold f_Mark_place
  repeat' first | with_reducible unfold f_Mark_place_104 | with_reducible unfold f_Mark_place_89 | with_reducible unfold f_Mark_place_65 | with_reducible unfold f_Mark_place_58 | with_reducible unfold f_Mark_place_36 | with_reducible unfold f_Mark_place_21 | with_reducible unfold f_Mark_place_20 | with_reducible exact pc_some (by assumption) | with_reducible exact pc_none | with_reducible refine pc_chk (fun _ => ?_) | with_reducible refine pc_if (fun _ => ?_) (fun _ => ?_) | with_reducible refine pc_on ?_ (fun _ _ => ?_) | with_reducible refine xf_lt (by assumption) (by first | exact x_m_6 _ (by omega) | exact x_m_5 _ (by omega) | exact x_m_4 _ (by omega)) (fun _ _ => ?_) | with_reducible refine xf_lts (by assumption) (fun _ _ => ?_) | with_reducible refine xf_ltq (by assumption) (by omega) (fun _ _ => ?_) | with_reducible refine pf_b1 (fun _ => ?_) | with_reducible refine xf_ltv (fun _ => ?_)
set_option maxHeartbeats 4000000 in
theorem fx_Pile_blank {X : Nat → Nat → Prop} {S0 : SS} (x_m_2 : ∀ j, j < 40 → X (14 + 4 * j) 2) (x_m_3 : ∀ j, j < 40 → X (14 + 4 * j) 3) (x_m_7 : ∀ j, j < 40 → X (14 + 4 * j) 7) (x_m_8 : ∀ j, j < 40 → X (14 + 4 * j) 8) (x_m_9 : ∀ j, j < 40 → X (14 + 4 * j) 9) (x_m_10 : ∀ j, j < 40 → X (14 + 4 * j) 10) (x_m_11 : ∀ j, j < 40 → X (14 + 4 * j) 11) (x_m_12 : ∀ j, j < 40 → X (14 + 4 * j) 12) (x_mn : ∀ j k, j < 40 → X (14 + 4 * j + 1) k) (x_ms : ∀ j, j < 40 → X (14 + 4 * j + 2) 1) : ∀ (S : SS) , FX X S0 S → pc (f_Pile_blank S ) (fun u => FX X S0 u.2) := by
  intro S h
  unfold f_Pile_blank
  repeat' first | with_reducible exact pc_some (by assumption) | with_reducible exact pc_none | with_reducible refine pc_chk (fun _ => ?_) | with_reducible refine pc_if (fun _ => ?_) (fun _ => ?_) | with_reducible refine pc_on ?_ (fun _ _ => ?_) | with_reducible refine pc_b1 (fx_Mark_clear (x_m_2 := x_m_2) (x_m_3 := x_m_3) (x_m_7 := x_m_7) (x_m_8 := x_m_8) (x_m_9 := x_m_9) (x_m_10 := x_m_10) (x_m_11 := x_m_11) (x_m_12 := x_m_12) (x_mn := x_mn) (x_ms := x_ms) _ _ (by omega) (by assumption)) (fun _ _ => ?_) | with_reducible refine xf_lt (by assumption) (by first | exact x_m_2 _ (by omega) | exact x_m_3 _ (by omega) | exact x_m_7 _ (by omega) | exact x_m_8 _ (by omega) | exact x_m_9 _ (by omega) | exact x_m_10 _ (by omega) | exact x_m_11 _ (by omega) | exact x_m_12 _ (by omega) | exact x_mn _ _ (by omega) | exact x_ms _ (by omega)) (fun _ _ => ?_) | with_reducible refine xf_lts (by assumption) (fun _ _ => ?_) | with_reducible refine xf_ltq (by assumption) (by omega) (fun _ _ => ?_) | with_reducible refine pf_b1 (fun _ => ?_) | with_reducible refine xf_ltv (fun _ => ?_)
set_option maxHeartbeats 4000000 in
theorem fxl_Pile_accept_30 {X : Nat → Nat → Prop} {S0 : SS} (x_10_3 : X 10 3) (x_10_4 : X 10 4) (x_m_8 : ∀ j, j < 40 → X (14 + 4 * j) 8) (x_m_10 : ∀ j, j < 40 → X (14 + 4 * j) 10)   : ∀ (n : Nat) (S : SS) (v1_ : Int) (v2_ : Int), FX X S0 S → pc (f_Pile_accept_30  n S v1_ v2_) (fun u => FX X S0 u.2) := by
  intro n
  induction n with
  | zero => intro S v1_ v2_ h r e; exact absurd e (by simp [f_Pile_accept_30])
  | succ n ih =>
    intro S v1_ v2_ h
    show pc (f_Pile_accept_30_b (f_Pile_accept_30 n) S v1_ v2_) _
    unfold f_Pile_accept_30_b
    repeat' first | with_reducible exact ih _ _ _ (by assumption) | with_reducible unfold f_Pile_accept_81 | with_reducible exact pc_some (by assumption) | with_reducible exact pc_none | with_reducible refine pc_chk (fun _ => ?_) | with_reducible refine pc_if (fun _ => ?_) (fun _ => ?_) | with_reducible refine pc_on ?_ (fun _ _ => ?_) | with_reducible refine xf_let (fx_Mark_voidByStet (x_m_8 := x_m_8) (x_m_10 := x_m_10) _ _ _ (by omega) (by assumption)) (fun _ _ => ?_) | with_reducible refine xf_lt (by assumption) (by first | exact x_10_3 | exact x_10_4 | exact x_m_8 _ (by omega) | exact x_m_10 _ (by omega)) (fun _ _ => ?_) | with_reducible refine xf_lts (by assumption) (fun _ _ => ?_) | with_reducible refine xf_ltq (by assumption) (by omega) (fun _ _ => ?_) | with_reducible refine pf_b1 (fun _ => ?_) | with_reducible refine xf_ltv (fun _ => ?_)
set_option maxHeartbeats 4000000 in
theorem fx_Pile_accept {X : Nat → Nat → Prop} {S0 : SS} (x_10_3 : X 10 3) (x_10_4 : X 10 4) (x_m_8 : ∀ j, j < 40 → X (14 + 4 * j) 8) (x_m_10 : ∀ j, j < 40 → X (14 + 4 * j) 10) : ∀ (S : SS) , FX X S0 S → pc (f_Pile_accept S ) (fun u => FX X S0 u.2) := by
  intro S h
  unfold f_Pile_accept
  repeat' first | with_reducible exact fxl_Pile_accept_30 (x_10_3 := x_10_3) (x_10_4 := x_10_4) (x_m_8 := x_m_8) (x_m_10 := x_m_10) FU _ _ _ (by assumption) | with_reducible unfold f_Pile_accept_81 | with_reducible exact pc_some (by assumption) | with_reducible exact pc_none | with_reducible refine pc_chk (fun _ => ?_) | with_reducible refine pc_if (fun _ => ?_) (fun _ => ?_) | with_reducible refine pc_on ?_ (fun _ _ => ?_) | with_reducible refine xf_let (fx_Mark_voidByStet (x_m_8 := x_m_8) (x_m_10 := x_m_10) _ _ _ (by omega) (by assumption)) (fun _ _ => ?_) | with_reducible refine xf_lt (by assumption) (by first | exact x_10_3 | exact x_10_4 | exact x_m_8 _ (by omega) | exact x_m_10 _ (by omega)) (fun _ _ => ?_) | with_reducible refine xf_lts (by assumption) (fun _ _ => ?_) | with_reducible refine xf_ltq (by assumption) (by omega) (fun _ _ => ?_) | with_reducible refine pf_b1 (fun _ => ?_) | with_reducible refine xf_ltv (fun _ => ?_)
set_option maxHeartbeats 4000000 in
theorem fxl_Pile_listDone_7 {X : Nat → Nat → Prop} {S0 : SS} (x_13 : ∀ k, X 13 k) (x_10_5 : X 10 5)   : ∀ (n : Nat) (S : SS) (v1_ : Int), FX X S0 S → pc (f_Pile_listDone_7  n S v1_) (FX X S0) := by
  intro n
  induction n with
  | zero => intro S v1_ h r e; exact absurd e (by simp [f_Pile_listDone_7])
  | succ n ih =>
    intro S v1_ h
    show pc (f_Pile_listDone_7_b (f_Pile_listDone_7 n) S v1_) _
    unfold f_Pile_listDone_7_b
    repeat' first | with_reducible exact ih _ _ (by assumption) | with_reducible unfold f_Pile_listDone_64 | with_reducible exact pc_some (by assumption) | with_reducible exact pc_none | with_reducible refine pc_chk (fun _ => ?_) | with_reducible refine pc_if (fun _ => ?_) (fun _ => ?_) | with_reducible refine pc_on ?_ (fun _ _ => ?_) | with_reducible refine xf_lt (by assumption) (by first | exact x_13 _ | exact x_10_5) (fun _ _ => ?_) | with_reducible refine xf_lts (by assumption) (fun _ _ => ?_) | with_reducible refine xf_ltq (by assumption) (by omega) (fun _ _ => ?_) | with_reducible refine pf_b1 (fun _ => ?_) | with_reducible refine xf_ltv (fun _ => ?_)
set_option maxHeartbeats 4000000 in
theorem fx_Pile_listDone {X : Nat → Nat → Prop} {S0 : SS} (x_13 : ∀ k, X 13 k) (x_10_5 : X 10 5) : ∀ (S : SS) , FX X S0 S → pc (f_Pile_listDone S ) (FX X S0) := by
  intro S h
  unfold f_Pile_listDone
  repeat' first | with_reducible exact fxl_Pile_listDone_7 (x_13 := x_13) (x_10_5 := x_10_5) FU _ _ (by assumption) | with_reducible unfold f_Pile_listDone_64 | with_reducible exact pc_some (by assumption) | with_reducible exact pc_none | with_reducible refine pc_chk (fun _ => ?_) | with_reducible refine pc_if (fun _ => ?_) (fun _ => ?_) | with_reducible refine pc_on ?_ (fun _ _ => ?_) | with_reducible refine xf_lt (by assumption) (by first | exact x_13 _ | exact x_10_5) (fun _ _ => ?_) | with_reducible refine xf_lts (by assumption) (fun _ _ => ?_) | with_reducible refine xf_ltq (by assumption) (by omega) (fun _ _ => ?_) | with_reducible refine pf_b1 (fun _ => ?_) | with_reducible refine xf_ltv (fun _ => ?_)
set_option maxHeartbeats 4000000 in
theorem fxl_Pile_decide_49 {X : Nat → Nat → Prop} {S0 : SS} (x_m_11 : ∀ j, j < 40 → X (14 + 4 * j) 11) (x_m_12 : ∀ j, j < 40 → X (14 + 4 * j) 12) (x_13 : ∀ k, X 13 k) (x_10_5 : X 10 5)   (kf41_ : SS → Int → Option SS) (hkf41_ : ∀ S a0, FX X S0 S → pc (kf41_ S a0) (FX X S0)): ∀ (n : Nat) (S : SS) (v1_ : Int) (v2_ : Int), FX X S0 S → pc (f_Pile_decide_49 kf41_ n S v1_ v2_) (FX X S0) := by
  intro n
  induction n with
  | zero => intro S v1_ v2_ h r e; exact absurd e (by simp [f_Pile_decide_49])
  | succ n ih =>
    intro S v1_ v2_ h
    show pc (f_Pile_decide_49_b kf41_ (f_Pile_decide_49 kf41_ n) S v1_ v2_) _
    unfold f_Pile_decide_49_b
    repeat' first | with_reducible exact ih _ _ _ (by assumption) | with_reducible exact hkf41_ _ _ (by assumption) | with_reducible unfold f_Pile_decide_33 | with_reducible unfold f_Pile_decide_112 | with_reducible unfold f_Pile_decide_109 | with_reducible exact pc_some (by assumption) | with_reducible exact pc_none | with_reducible refine pc_chk (fun _ => ?_) | with_reducible refine pc_if (fun _ => ?_) (fun _ => ?_) | with_reducible refine pc_on ?_ (fun _ _ => ?_) | with_reducible refine pc_b1 (fx_Pile_listDone (x_13 := x_13) (x_10_5 := x_10_5) _ (by assumption)) (fun _ _ => ?_) | with_reducible refine xf_lt (by assumption) (by first | exact x_m_11 _ (by omega) | exact x_m_12 _ (by omega) | exact x_13 _ | exact x_10_5) (fun _ _ => ?_) | with_reducible refine xf_lts (by assumption) (fun _ _ => ?_) | with_reducible refine xf_ltq (by assumption) (by omega) (fun _ _ => ?_) | with_reducible refine pf_b1 (fun _ => ?_) | with_reducible refine xf_ltv (fun _ => ?_)
set_option maxHeartbeats 4000000 in
theorem fxl_Pile_decide_41 {X : Nat → Nat → Prop} {S0 : SS} (x_m_11 : ∀ j, j < 40 → X (14 + 4 * j) 11) (x_m_12 : ∀ j, j < 40 → X (14 + 4 * j) 12) (x_13 : ∀ k, X 13 k) (x_10_5 : X 10 5)   : ∀ (n : Nat) (S : SS) (v1_ : Int), FX X S0 S → pc (f_Pile_decide_41  n S v1_) (FX X S0) := by
  intro n
  induction n with
  | zero => intro S v1_ h r e; exact absurd e (by simp [f_Pile_decide_41])
  | succ n ih =>
    intro S v1_ h
    show pc (f_Pile_decide_41_b (f_Pile_decide_41 n) S v1_) _
    unfold f_Pile_decide_41_b
    repeat' first | with_reducible exact ih _ _ (by assumption) | with_reducible exact fxl_Pile_decide_49 (x_m_11 := x_m_11) (x_m_12 := x_m_12) (x_13 := x_13) (x_10_5 := x_10_5) _ (fun _ _  h => ih _ _ h) FU _ _ _ (by assumption) | with_reducible unfold f_Pile_decide_33 | with_reducible unfold f_Pile_decide_112 | with_reducible unfold f_Pile_decide_109 | with_reducible exact pc_some (by assumption) | with_reducible exact pc_none | with_reducible refine pc_chk (fun _ => ?_) | with_reducible refine pc_if (fun _ => ?_) (fun _ => ?_) | with_reducible refine pc_on ?_ (fun _ _ => ?_) | with_reducible refine pc_b1 (fx_Pile_listDone (x_13 := x_13) (x_10_5 := x_10_5) _ (by assumption)) (fun _ _ => ?_) | with_reducible refine xf_lt (by assumption) (by first | exact x_m_11 _ (by omega) | exact x_m_12 _ (by omega) | exact x_13 _ | exact x_10_5) (fun _ _ => ?_) | with_reducible refine xf_lts (by assumption) (fun _ _ => ?_) | with_reducible refine xf_ltq (by assumption) (by omega) (fun _ _ => ?_) | with_reducible refine pf_b1 (fun _ => ?_) | with_reducible refine xf_ltv (fun _ => ?_)
set_option maxHeartbeats 4000000 in
theorem fxl_Pile_decide_2 {X : Nat → Nat → Prop} {S0 : SS} (x_m_11 : ∀ j, j < 40 → X (14 + 4 * j) 11) (x_m_12 : ∀ j, j < 40 → X (14 + 4 * j) 12) (x_13 : ∀ k, X 13 k) (x_10_5 : X 10 5)   : ∀ (n : Nat) (S : SS) (v1_ : Int), FX X S0 S → pc (f_Pile_decide_2  n S v1_) (FX X S0) := by
  intro n
  induction n with
  | zero => intro S v1_ h r e; exact absurd e (by simp [f_Pile_decide_2])
  | succ n ih =>
    intro S v1_ h
    show pc (f_Pile_decide_2_b (f_Pile_decide_2 n) S v1_) _
    unfold f_Pile_decide_2_b
    repeat' first | with_reducible exact ih _ _ (by assumption) | with_reducible exact fxl_Pile_decide_49 (x_m_11 := x_m_11) (x_m_12 := x_m_12) (x_13 := x_13) (x_10_5 := x_10_5) _ (fun _ _  h => ih _ _ h) FU _ _ _ (by assumption) | with_reducible exact fxl_Pile_decide_41 (x_m_11 := x_m_11) (x_m_12 := x_m_12) (x_13 := x_13) (x_10_5 := x_10_5) FU _ _ (by assumption) | with_reducible unfold f_Pile_decide_33 | with_reducible unfold f_Pile_decide_112 | with_reducible unfold f_Pile_decide_109 | with_reducible exact pc_some (by assumption) | with_reducible exact pc_none | with_reducible refine pc_chk (fun _ => ?_) | with_reducible refine pc_if (fun _ => ?_) (fun _ => ?_) | with_reducible refine pc_on ?_ (fun _ _ => ?_) | with_reducible refine pc_b1 (fx_Pile_listDone (x_13 := x_13) (x_10_5 := x_10_5) _ (by assumption)) (fun _ _ => ?_) | with_reducible refine xf_lt (by assumption) (by first | exact x_m_11 _ (by omega) | exact x_m_12 _ (by omega) | exact x_13 _ | exact x_10_5) (fun _ _ => ?_) | with_reducible refine xf_lts (by assumption) (fun _ _ => ?_) | with_reducible refine xf_ltq (by assumption) (by omega) (fun _ _ => ?_) | with_reducible refine pf_b1 (fun _ => ?_) | with_reducible refine xf_ltv (fun _ => ?_)
set_option maxHeartbeats 4000000 in
theorem fx_Pile_decide {X : Nat → Nat → Prop} {S0 : SS} (x_m_11 : ∀ j, j < 40 → X (14 + 4 * j) 11) (x_m_12 : ∀ j, j < 40 → X (14 + 4 * j) 12) (x_13 : ∀ k, X 13 k) (x_10_5 : X 10 5) : ∀ (S : SS) , FX X S0 S → pc (f_Pile_decide S ) (FX X S0) := by
  intro S h
  unfold f_Pile_decide
  repeat' first | with_reducible exact fxl_Pile_decide_41 (x_m_11 := x_m_11) (x_m_12 := x_m_12) (x_13 := x_13) (x_10_5 := x_10_5) FU _ _ (by assumption) | with_reducible exact fxl_Pile_decide_2 (x_m_11 := x_m_11) (x_m_12 := x_m_12) (x_13 := x_13) (x_10_5 := x_10_5) FU _ _ (by assumption) | with_reducible unfold f_Pile_decide_33 | with_reducible unfold f_Pile_decide_112 | with_reducible unfold f_Pile_decide_109 | with_reducible exact pc_some (by assumption) | with_reducible exact pc_none | with_reducible refine pc_chk (fun _ => ?_) | with_reducible refine pc_if (fun _ => ?_) (fun _ => ?_) | with_reducible refine pc_on ?_ (fun _ _ => ?_) | with_reducible refine pc_b1 (fx_Pile_listDone (x_13 := x_13) (x_10_5 := x_10_5) _ (by assumption)) (fun _ _ => ?_) | with_reducible refine xf_lt (by assumption) (by first | exact x_m_11 _ (by omega) | exact x_m_12 _ (by omega) | exact x_13 _ | exact x_10_5) (fun _ _ => ?_) | with_reducible refine xf_lts (by assumption) (fun _ _ => ?_) | with_reducible refine xf_ltq (by assumption) (by omega) (fun _ _ => ?_) | with_reducible refine pf_b1 (fun _ => ?_) | with_reducible refine xf_ltv (fun _ => ?_)
set_option maxHeartbeats 4000000 in
theorem fx_Setter_mind {X : Nat → Nat → Prop} {S0 : SS} (x_180 : ∀ k, X 180 k) : ∀ (S : SS) (v1 : Int) (v2 : Int), FX X S0 S → pc (f_Setter_mind S v1 v2) (FX X S0) := by
  intro S v1 v2 h
  unfold f_Setter_mind
  repeat' first | with_reducible exact pc_some (by assumption) | with_reducible exact pc_none | with_reducible refine pc_chk (fun _ => ?_) | with_reducible refine pc_if (fun _ => ?_) (fun _ => ?_) | with_reducible refine pc_on ?_ (fun _ _ => ?_) | with_reducible refine xf_lt (by assumption) (by first | exact x_180 _) (fun _ _ => ?_) | with_reducible refine xf_lts (by assumption) (fun _ _ => ?_) | with_reducible refine xf_ltq (by assumption) (by omega) (fun _ _ => ?_) | with_reducible refine pf_b1 (fun _ => ?_) | with_reducible refine xf_ltv (fun _ => ?_)
set_option maxHeartbeats 4000000 in
theorem fxl_Setter_takeDone_7 {X : Nat → Nat → Prop} {S0 : SS} (x_180 : ∀ k, X 180 k) (x_178_2 : X 178 2) (v2 : Int)  : ∀ (n : Nat) (S : SS) (v3_ : Int), FX X S0 S → pc (f_Setter_takeDone_7 v2 n S v3_) (FX X S0) := by
  intro n
  induction n with
  | zero => intro S v3_ h r e; exact absurd e (by simp [f_Setter_takeDone_7])
  | succ n ih =>
    intro S v3_ h
    show pc (f_Setter_takeDone_7_b v2 (f_Setter_takeDone_7 v2 n) S v3_) _
    unfold f_Setter_takeDone_7_b
    repeat' first | with_reducible exact ih _ _ (by assumption) | with_reducible unfold f_Setter_takeDone_101 | with_reducible unfold f_Setter_takeDone_35 | with_reducible unfold f_Setter_takeDone_34 | with_reducible exact pc_some (by assumption) | with_reducible exact pc_none | with_reducible refine pc_chk (fun _ => ?_) | with_reducible refine pc_if (fun _ => ?_) (fun _ => ?_) | with_reducible refine pc_on ?_ (fun _ _ => ?_) | with_reducible refine xf_lt (by assumption) (by first | exact x_180 _ | exact x_178_2) (fun _ _ => ?_) | with_reducible refine xf_lts (by assumption) (fun _ _ => ?_) | with_reducible refine xf_ltq (by assumption) (by omega) (fun _ _ => ?_) | with_reducible refine pf_b1 (fun _ => ?_) | with_reducible refine xf_ltv (fun _ => ?_)
set_option maxHeartbeats 4000000 in
theorem fx_Setter_takeDone {X : Nat → Nat → Prop} {S0 : SS} (x_180 : ∀ k, X 180 k) (x_178_2 : X 178 2) : ∀ (S : SS) (v2 : Int), FX X S0 S → pc (f_Setter_takeDone S v2) (FX X S0) := by
  intro S v2 h
  unfold f_Setter_takeDone
  repeat' first | with_reducible exact fxl_Setter_takeDone_7 (x_180 := x_180) (x_178_2 := x_178_2) _ FU _ _ (by assumption) | with_reducible unfold f_Setter_takeDone_101 | with_reducible unfold f_Setter_takeDone_35 | with_reducible unfold f_Setter_takeDone_34 | with_reducible exact pc_some (by assumption) | with_reducible exact pc_none | with_reducible refine pc_chk (fun _ => ?_) | with_reducible refine pc_if (fun _ => ?_) (fun _ => ?_) | with_reducible refine pc_on ?_ (fun _ _ => ?_) | with_reducible refine xf_lt (by assumption) (by first | exact x_180 _ | exact x_178_2) (fun _ _ => ?_) | with_reducible refine xf_lts (by assumption) (fun _ _ => ?_) | with_reducible refine xf_ltq (by assumption) (by omega) (fun _ _ => ?_) | with_reducible refine pf_b1 (fun _ => ?_) | with_reducible refine xf_ltv (fun _ => ?_)
set_option maxHeartbeats 4000000 in
theorem fxl_Ruler_fillRow_101 {X : Nat → Nat → Prop} {S0 : SS} (x_182 : ∀ k, X 182 k) (v1 : Int) (w2 : Int64) (q3 : Nat) (v4 : Int) (v5 : Int)  : ∀ (n : Nat) (S : SS) (v8_ : Int) (v9_ : Int) (v10_ : Int) (v11_ : Int), FX X S0 S → pc (f_Ruler_fillRow_101 v1 w2 q3 v4 v5 n S v8_ v9_ v10_ v11_) (fun u => FX X S0 u.2) := by
  intro n
  induction n with
  | zero => intro S v8_ v9_ v10_ v11_ h r e; exact absurd e (by simp [f_Ruler_fillRow_101])
  | succ n ih =>
    intro S v8_ v9_ v10_ v11_ h
    show pc (f_Ruler_fillRow_101_b v1 w2 q3 v4 v5 (f_Ruler_fillRow_101 v1 w2 q3 v4 v5 n) S v8_ v9_ v10_ v11_) _
    unfold f_Ruler_fillRow_101_b
    repeat' first | with_reducible exact ih _ _ _ _ _ (by assumption) | with_reducible unfold f_Ruler_fillRow_174 | with_reducible unfold f_Ruler_fillRow_85 | with_reducible exact pc_some (by assumption) | with_reducible exact pc_none | with_reducible refine pc_chk (fun _ => ?_) | with_reducible refine pc_if (fun _ => ?_) (fun _ => ?_) | with_reducible refine pc_on ?_ (fun _ _ => ?_) | with_reducible refine xf_lt (by assumption) (by first | exact x_182 _) (fun _ _ => ?_) | with_reducible refine xf_lts (by assumption) (fun _ _ => ?_) | with_reducible refine xf_ltq (by assumption) (by omega) (fun _ _ => ?_) | with_reducible refine pf_b1 (fun _ => ?_) | with_reducible refine xf_ltv (fun _ => ?_)
set_option maxHeartbeats 4000000 in
theorem fx_Ruler_fillRow {X : Nat → Nat → Prop} {S0 : SS} (x_182 : ∀ k, X 182 k) : ∀ (S : SS) (v1 : Int) (w2 : Int64) (q3 : Nat) (v4 : Int) (v5 : Int), FX X S0 S → pc (f_Ruler_fillRow S v1 w2 q3 v4 v5) (fun u => FX X S0 u.2) := by
  intro S v1 w2 q3 v4 v5 h
  unfold f_Ruler_fillRow
  repeat' first | with_reducible exact fxl_Ruler_fillRow_101 (x_182 := x_182) _ _ _ _ _ FU _ _ _ _ _ (by assumption) | with_reducible unfold f_Ruler_fillRow_174 | with_reducible unfold f_Ruler_fillRow_85 | with_reducible exact pc_some (by assumption) | with_reducible exact pc_none | with_reducible refine pc_chk (fun _ => ?_) | with_reducible refine pc_if (fun _ => ?_) (fun _ => ?_) | with_reducible refine pc_on ?_ (fun _ _ => ?_) | with_reducible refine xf_lt (by assumption) (by first | exact x_182 _) (fun _ _ => ?_) | with_reducible refine xf_lts (by assumption) (fun _ _ => ?_) | with_reducible refine xf_ltq (by assumption) (by omega) (fun _ _ => ?_) | with_reducible refine pf_b1 (fun _ => ?_) | with_reducible refine xf_ltv (fun _ => ?_)
set_option maxHeartbeats 4000000 in
theorem fxl_Ruler_measure_85 {X : Nat → Nat → Prop} {S0 : SS} (x_182 : ∀ k, X 182 k) (q1 : Nat) (v2 : Int) (q3 : Nat) (v4 : Int) (v5 : Int)  : ∀ (n : Nat) (S : SS) (v6_ : Int) (v7_ : Int) (v8_ : Int) (v9_ : Int), FX X S0 S → pc (f_Ruler_measure_85 q1 v2 q3 v4 v5 n S v6_ v7_ v8_ v9_) (fun u => FX X S0 u.2) := by
  intro n
  induction n with
  | zero => intro S v6_ v7_ v8_ v9_ h r e; exact absurd e (by simp [f_Ruler_measure_85])
  | succ n ih =>
    intro S v6_ v7_ v8_ v9_ h
    show pc (f_Ruler_measure_85_b q1 v2 q3 v4 v5 (f_Ruler_measure_85 q1 v2 q3 v4 v5 n) S v6_ v7_ v8_ v9_) _
    unfold f_Ruler_measure_85_b
    repeat' first | with_reducible exact ih _ _ _ _ _ (by assumption) | with_reducible exact pc_some (by assumption) | with_reducible exact pc_none | with_reducible refine pc_chk (fun _ => ?_) | with_reducible refine pc_if (fun _ => ?_) (fun _ => ?_) | with_reducible refine pc_on ?_ (fun _ _ => ?_) | with_reducible refine pc_b2 (fx_Ruler_fillRow (x_182 := x_182) _ _ _ _ _ _ (by assumption)) (fun _ _ _ => ?_) | with_reducible refine xf_lt (by assumption) (by first | exact x_182 _) (fun _ _ => ?_) | with_reducible refine xf_lts (by assumption) (fun _ _ => ?_) | with_reducible refine xf_ltq (by assumption) (by omega) (fun _ _ => ?_) | with_reducible refine pf_b1 (fun _ => ?_) | with_reducible refine xf_ltv (fun _ => ?_)
set_option maxHeartbeats 4000000 in
theorem fxl_Ruler_measure_60 {X : Nat → Nat → Prop} {S0 : SS} (x_182 : ∀ k, X 182 k) (q1 : Nat) (v2 : Int) (q3 : Nat) (v4 : Int) (v5 : Int)  : ∀ (n : Nat) (S : SS) (v6_ : Int) (v7_ : Int) (v8_ : Int) (v9_ : Int), FX X S0 S → pc (f_Ruler_measure_60 q1 v2 q3 v4 v5 n S v6_ v7_ v8_ v9_) (fun u => FX X S0 u.2) := by
  intro n
  induction n with
  | zero => intro S v6_ v7_ v8_ v9_ h r e; exact absurd e (by simp [f_Ruler_measure_60])
  | succ n ih =>
    intro S v6_ v7_ v8_ v9_ h
    show pc (f_Ruler_measure_60_b q1 v2 q3 v4 v5 (f_Ruler_measure_60 q1 v2 q3 v4 v5 n) S v6_ v7_ v8_ v9_) _
    unfold f_Ruler_measure_60_b
    repeat' first | with_reducible exact ih _ _ _ _ _ (by assumption) | with_reducible exact fxl_Ruler_measure_85 (x_182 := x_182) _ _ _ _ _ FU _ _ _ _ _ (by assumption) | with_reducible exact pc_some (by assumption) | with_reducible exact pc_none | with_reducible refine pc_chk (fun _ => ?_) | with_reducible refine pc_if (fun _ => ?_) (fun _ => ?_) | with_reducible refine pc_on ?_ (fun _ _ => ?_) | with_reducible refine pc_b2 (fx_Ruler_fillRow (x_182 := x_182) _ _ _ _ _ _ (by assumption)) (fun _ _ _ => ?_) | with_reducible refine xf_lt (by assumption) (by first | exact x_182 _) (fun _ _ => ?_) | with_reducible refine xf_lts (by assumption) (fun _ _ => ?_) | with_reducible refine xf_ltq (by assumption) (by omega) (fun _ _ => ?_) | with_reducible refine pf_b1 (fun _ => ?_) | with_reducible refine xf_ltv (fun _ => ?_)
set_option maxHeartbeats 4000000 in
theorem fx_Ruler_measure {X : Nat → Nat → Prop} {S0 : SS} (x_182 : ∀ k, X 182 k) : ∀ (S : SS) (q1 : Nat) (v2 : Int) (q3 : Nat) (v4 : Int) (v5 : Int), FX X S0 S → pc (f_Ruler_measure S q1 v2 q3 v4 v5) (fun u => FX X S0 u.2) := by
  intro S q1 v2 q3 v4 v5 h
  unfold f_Ruler_measure
  repeat' first | with_reducible exact fxl_Ruler_measure_85 (x_182 := x_182) _ _ _ _ _ FU _ _ _ _ _ (by assumption) | with_reducible exact fxl_Ruler_measure_60 (x_182 := x_182) _ _ _ _ _ FU _ _ _ _ _ (by assumption) | with_reducible exact pc_some (by assumption) | with_reducible exact pc_none | with_reducible refine pc_chk (fun _ => ?_) | with_reducible refine pc_if (fun _ => ?_) (fun _ => ?_) | with_reducible refine pc_on ?_ (fun _ _ => ?_) | with_reducible refine pc_b2 (fx_Ruler_fillRow (x_182 := x_182) _ _ _ _ _ _ (by assumption)) (fun _ _ _ => ?_) | with_reducible refine xf_lt (by assumption) (by first | exact x_182 _) (fun _ _ => ?_) | with_reducible refine xf_lts (by assumption) (fun _ _ => ?_) | with_reducible refine xf_ltq (by assumption) (by omega) (fun _ _ => ?_) | with_reducible refine pf_b1 (fun _ => ?_) | with_reducible refine xf_ltv (fun _ => ?_)
set_option maxHeartbeats 4000000 in
theorem fxl_Holding_listMissed_7 {X : Nat → Nat → Prop} {S0 : SS} (x_186 : ∀ k, X 186 k) (x_183_9 : X 183 9)   : ∀ (n : Nat) (S : SS) (v2_ : Int), FX X S0 S → pc (f_Holding_listMissed_7  n S v2_) (FX X S0) := by
  intro n
  induction n with
  | zero => intro S v2_ h r e; exact absurd e (by simp [f_Holding_listMissed_7])
  | succ n ih =>
    intro S v2_ h
    show pc (f_Holding_listMissed_7_b (f_Holding_listMissed_7 n) S v2_) _
    unfold f_Holding_listMissed_7_b
    repeat' first | with_reducible exact ih _ _ (by assumption) | with_reducible unfold f_Holding_listMissed_61 | with_reducible exact pc_some (by assumption) | with_reducible exact pc_none | with_reducible refine pc_chk (fun _ => ?_) | with_reducible refine pc_if (fun _ => ?_) (fun _ => ?_) | with_reducible refine pc_on ?_ (fun _ _ => ?_) | with_reducible refine xf_lt (by assumption) (by first | exact x_186 _ | exact x_183_9) (fun _ _ => ?_) | with_reducible refine xf_lts (by assumption) (fun _ _ => ?_) | with_reducible refine xf_ltq (by assumption) (by omega) (fun _ _ => ?_) | with_reducible refine pf_b1 (fun _ => ?_) | with_reducible refine xf_ltv (fun _ => ?_)
set_option maxHeartbeats 4000000 in
theorem fx_Holding_listMissed {X : Nat → Nat → Prop} {S0 : SS} (x_186 : ∀ k, X 186 k) (x_183_9 : X 183 9) : ∀ (S : SS) , FX X S0 S → pc (f_Holding_listMissed S ) (FX X S0) := by
  intro S h
  unfold f_Holding_listMissed
  repeat' first | with_reducible exact fxl_Holding_listMissed_7 (x_186 := x_186) (x_183_9 := x_183_9) FU _ _ (by assumption) | with_reducible unfold f_Holding_listMissed_61 | with_reducible exact pc_some (by assumption) | with_reducible exact pc_none | with_reducible refine pc_chk (fun _ => ?_) | with_reducible refine pc_if (fun _ => ?_) (fun _ => ?_) | with_reducible refine pc_on ?_ (fun _ _ => ?_) | with_reducible refine xf_lt (by assumption) (by first | exact x_186 _ | exact x_183_9) (fun _ _ => ?_) | with_reducible refine xf_lts (by assumption) (fun _ _ => ?_) | with_reducible refine xf_ltq (by assumption) (by omega) (fun _ _ => ?_) | with_reducible refine pf_b1 (fun _ => ?_) | with_reducible refine xf_ltv (fun _ => ?_)
set_option maxHeartbeats 4000000 in
theorem fx_Holding_note {X : Nat → Nat → Prop} {S0 : SS} (x_187 : ∀ k, X 187 k) (x_188 : ∀ k, X 188 k) (x_189 : ∀ k, X 189 k) (x_183_11 : X 183 11) : ∀ (S : SS) (v1 : Int) (v2 : Int) (v3 : Int), FX X S0 S → pc (f_Holding_note S v1 v2 v3) (FX X S0) := by
  intro S v1 v2 v3 h
  unfold f_Holding_note
  repeat' first | with_reducible exact pc_some (by assumption) | with_reducible exact pc_none | with_reducible refine pc_chk (fun _ => ?_) | with_reducible refine pc_if (fun _ => ?_) (fun _ => ?_) | with_reducible refine pc_on ?_ (fun _ _ => ?_) | with_reducible refine xf_lt (by assumption) (by first | exact x_187 _ | exact x_188 _ | exact x_189 _ | exact x_183_11) (fun _ _ => ?_) | with_reducible refine xf_lts (by assumption) (fun _ _ => ?_) | with_reducible refine xf_ltq (by assumption) (by omega) (fun _ _ => ?_) | with_reducible refine pf_b1 (fun _ => ?_) | with_reducible refine xf_ltv (fun _ => ?_)
set_option maxHeartbeats 4000000 in
theorem fxl_Holding_listChanges_33 {X : Nat → Nat → Prop} {S0 : SS} (x_183_11 : X 183 11) (x_187 : ∀ k, X 187 k) (x_188 : ∀ k, X 188 k) (x_189 : ∀ k, X 189 k) (x_182 : ∀ k, X 182 k) (q1 : Nat)  : ∀ (n : Nat) (S : SS) (v3_ : Int) (v4_ : Int) (v5_ : Int) (v6_ : Int) (v7_ : Int), FX X S0 S → pc (f_Holding_listChanges_33 q1 n S v3_ v4_ v5_ v6_ v7_) (FX X S0) := by
  intro n
  induction n with
  | zero => intro S v3_ v4_ v5_ v6_ v7_ h r e; exact absurd e (by simp [f_Holding_listChanges_33])
  | succ n ih =>
    intro S v3_ v4_ v5_ v6_ v7_ h
    show pc (f_Holding_listChanges_33_b q1 (f_Holding_listChanges_33 q1 n) S v3_ v4_ v5_ v6_ v7_) _
    unfold f_Holding_listChanges_33_b
    repeat' first | with_reducible exact ih _ _ _ _ _ _ (by assumption) | with_reducible unfold f_Holding_listChanges_224 | with_reducible unfold f_Holding_listChanges_213 | with_reducible unfold f_Holding_listChanges_167 | with_reducible unfold f_Holding_listChanges_119 | with_reducible unfold f_Holding_listChanges_85 | with_reducible unfold f_Holding_listChanges_84 | with_reducible unfold f_Holding_listChanges_60 | with_reducible exact pc_some (by assumption) | with_reducible exact pc_none | with_reducible refine pc_chk (fun _ => ?_) | with_reducible refine pc_if (fun _ => ?_) (fun _ => ?_) | with_reducible refine pc_on ?_ (fun _ _ => ?_) | with_reducible refine pc_b1 (fx_Holding_note (x_187 := x_187) (x_188 := x_188) (x_189 := x_189) (x_183_11 := x_183_11) _ _ _ _ (by assumption)) (fun _ _ => ?_) | with_reducible refine pc_b2 (fx_Ruler_measure (x_182 := x_182) _ _ _ _ _ _ (by assumption)) (fun _ _ _ => ?_) | with_reducible refine xf_lt (by assumption) (by first | exact x_183_11 | exact x_187 _ | exact x_188 _ | exact x_189 _ | exact x_182 _) (fun _ _ => ?_) | with_reducible refine xf_lts (by assumption) (fun _ _ => ?_) | with_reducible refine xf_ltq (by assumption) (by omega) (fun _ _ => ?_) | with_reducible refine pf_b1 (fun _ => ?_) | with_reducible refine xf_ltv (fun _ => ?_)
set_option maxHeartbeats 4000000 in
theorem fx_Holding_listChanges {X : Nat → Nat → Prop} {S0 : SS} (x_183_11 : X 183 11) (x_187 : ∀ k, X 187 k) (x_188 : ∀ k, X 188 k) (x_189 : ∀ k, X 189 k) (x_182 : ∀ k, X 182 k) : ∀ (S : SS) (q1 : Nat), FX X S0 S → pc (f_Holding_listChanges S q1) (FX X S0) := by
  intro S q1 h
  unfold f_Holding_listChanges
  repeat' first | with_reducible exact fxl_Holding_listChanges_33 (x_183_11 := x_183_11) (x_187 := x_187) (x_188 := x_188) (x_189 := x_189) (x_182 := x_182) _ FU _ _ _ _ _ _ (by assumption) | with_reducible unfold f_Holding_listChanges_224 | with_reducible unfold f_Holding_listChanges_213 | with_reducible unfold f_Holding_listChanges_167 | with_reducible unfold f_Holding_listChanges_119 | with_reducible unfold f_Holding_listChanges_85 | with_reducible unfold f_Holding_listChanges_84 | with_reducible unfold f_Holding_listChanges_60 | with_reducible exact pc_some (by assumption) | with_reducible exact pc_none | with_reducible refine pc_chk (fun _ => ?_) | with_reducible refine pc_if (fun _ => ?_) (fun _ => ?_) | with_reducible refine pc_on ?_ (fun _ _ => ?_) | with_reducible refine pc_b1 (fx_Holding_note (x_187 := x_187) (x_188 := x_188) (x_189 := x_189) (x_183_11 := x_183_11) _ _ _ _ (by assumption)) (fun _ _ => ?_) | with_reducible refine pc_b2 (fx_Ruler_measure (x_182 := x_182) _ _ _ _ _ _ (by assumption)) (fun _ _ _ => ?_) | with_reducible refine xf_lt (by assumption) (by first | exact x_183_11 | exact x_187 _ | exact x_188 _ | exact x_189 _ | exact x_182 _) (fun _ _ => ?_) | with_reducible refine xf_lts (by assumption) (fun _ _ => ?_) | with_reducible refine xf_ltq (by assumption) (by omega) (fun _ _ => ?_) | with_reducible refine pf_b1 (fun _ => ?_) | with_reducible refine xf_ltv (fun _ => ?_)
set_option maxHeartbeats 4000000 in
theorem fx_SheetReader_addWord {X : Nat → Nat → Prop} {S0 : SS} (x_175_1 : X 175 1) : ∀ (S : SS) (w1 : Int64) (v2 : Int), FX X S0 S → pc (f_SheetReader_addWord S w1 v2) (FX X S0) := by
  intro S w1 v2 h
  unfold f_SheetReader_addWord
  repeat' first | with_reducible exact pc_some (by assumption) | with_reducible exact pc_none | with_reducible refine pc_chk (fun _ => ?_) | with_reducible refine pc_if (fun _ => ?_) (fun _ => ?_) | with_reducible refine pc_on ?_ (fun _ _ => ?_) | with_reducible refine pc_b1 (fx_Sheet_add (x_q0 := (by first | exact x_175_1)) _ _ (by assumption)) (fun _ _ => ?_) | with_reducible refine xf_lt (by assumption) (by first | exact x_175_1) (fun _ _ => ?_) | with_reducible refine xf_lts (by assumption) (fun _ _ => ?_) | with_reducible refine xf_ltq (by assumption) (by omega) (fun _ _ => ?_) | with_reducible refine pf_b1 (fun _ => ?_) | with_reducible refine xf_ltv (fun _ => ?_)
set_option maxHeartbeats 4000000 in
theorem fxl_MarkReader_skipBlanks_5 {X : Nat → Nat → Prop} {S0 : SS} (x_177_4 : X 177 4)   : ∀ (n : Nat) (S : SS) (v1_ : Int), FX X S0 S → pc (f_MarkReader_skipBlanks_5  n S v1_) (FX X S0) := by
  intro n
  induction n with
  | zero => intro S v1_ h r e; exact absurd e (by simp [f_MarkReader_skipBlanks_5])
  | succ n ih =>
    intro S v1_ h
    show pc (f_MarkReader_skipBlanks_5_b (f_MarkReader_skipBlanks_5 n) S v1_) _
    unfold f_MarkReader_skipBlanks_5_b
    repeat' first | with_reducible exact ih _ _ (by assumption) | with_reducible exact pc_some (by assumption) | with_reducible exact pc_none | with_reducible refine pc_chk (fun _ => ?_) | with_reducible refine pc_if (fun _ => ?_) (fun _ => ?_) | with_reducible refine pc_on ?_ (fun _ _ => ?_) | with_reducible refine xf_lt (by assumption) (by first | exact x_177_4) (fun _ _ => ?_) | with_reducible refine xf_lts (by assumption) (fun _ _ => ?_) | with_reducible refine xf_ltq (by assumption) (by omega) (fun _ _ => ?_) | with_reducible refine pf_b1 (fun _ => ?_) | with_reducible refine xf_ltv (fun _ => ?_)
set_option maxHeartbeats 4000000 in
theorem fx_MarkReader_skipBlanks {X : Nat → Nat → Prop} {S0 : SS} (x_177_4 : X 177 4) : ∀ (S : SS) , FX X S0 S → pc (f_MarkReader_skipBlanks S ) (FX X S0) := by
  intro S h
  unfold f_MarkReader_skipBlanks
  repeat' first | with_reducible exact fxl_MarkReader_skipBlanks_5 (x_177_4 := x_177_4) FU _ _ (by assumption) | with_reducible exact pc_some (by assumption) | with_reducible exact pc_none | with_reducible refine pc_chk (fun _ => ?_) | with_reducible refine pc_if (fun _ => ?_) (fun _ => ?_) | with_reducible refine pc_on ?_ (fun _ _ => ?_) | with_reducible refine xf_lt (by assumption) (by first | exact x_177_4) (fun _ _ => ?_) | with_reducible refine xf_lts (by assumption) (fun _ _ => ?_) | with_reducible refine xf_ltq (by assumption) (by omega) (fun _ _ => ?_) | with_reducible refine pf_b1 (fun _ => ?_) | with_reducible refine xf_ltv (fun _ => ?_)
set_option maxHeartbeats 4000000 in
theorem fxl_MarkReader_readToken_67 {X : Nat → Nat → Prop} {S0 : SS} (x_177_4 : X 177 4) (x_177_5 : X 177 5) (x_177_6 : X 177 6)   : ∀ (n : Nat) (S : SS) (v1_ : Int), FX X S0 S → pc (f_MarkReader_readToken_67  n S v1_) (FX X S0) := by
  intro n
  induction n with
  | zero => intro S v1_ h r e; exact absurd e (by simp [f_MarkReader_readToken_67])
  | succ n ih =>
    intro S v1_ h
    show pc (f_MarkReader_readToken_67_b (f_MarkReader_readToken_67 n) S v1_) _
    unfold f_MarkReader_readToken_67_b
    repeat' first | with_reducible exact ih _ _ (by assumption) | with_reducible unfold f_MarkReader_readToken_54 | with_reducible exact pc_some (by assumption) | with_reducible exact pc_none | with_reducible refine pc_chk (fun _ => ?_) | with_reducible refine pc_if (fun _ => ?_) (fun _ => ?_) | with_reducible refine pc_on ?_ (fun _ _ => ?_) | with_reducible refine pc_b1 (fx_MarkReader_skipBlanks (x_177_4 := x_177_4) _ (by assumption)) (fun _ _ => ?_) | with_reducible refine xf_lt (by assumption) (by first | exact x_177_4 | exact x_177_5 | exact x_177_6) (fun _ _ => ?_) | with_reducible refine xf_lts (by assumption) (fun _ _ => ?_) | with_reducible refine xf_ltq (by assumption) (by omega) (fun _ _ => ?_) | with_reducible refine pf_b1 (fun _ => ?_) | with_reducible refine xf_ltv (fun _ => ?_)
set_option maxHeartbeats 4000000 in
theorem fx_MarkReader_readToken {X : Nat → Nat → Prop} {S0 : SS} (x_177_4 : X 177 4) (x_177_5 : X 177 5) (x_177_6 : X 177 6) : ∀ (S : SS) , FX X S0 S → pc (f_MarkReader_readToken S ) (FX X S0) := by
  intro S h
  unfold f_MarkReader_readToken
  repeat' first | with_reducible exact fxl_MarkReader_readToken_67 (x_177_4 := x_177_4) (x_177_5 := x_177_5) (x_177_6 := x_177_6) FU _ _ (by assumption) | with_reducible unfold f_MarkReader_readToken_54 | with_reducible exact pc_some (by assumption) | with_reducible exact pc_none | with_reducible refine pc_chk (fun _ => ?_) | with_reducible refine pc_if (fun _ => ?_) (fun _ => ?_) | with_reducible refine pc_on ?_ (fun _ _ => ?_) | with_reducible refine pc_b1 (fx_MarkReader_skipBlanks (x_177_4 := x_177_4) _ (by assumption)) (fun _ _ => ?_) | with_reducible refine xf_lt (by assumption) (by first | exact x_177_4 | exact x_177_5 | exact x_177_6) (fun _ _ => ?_) | with_reducible refine xf_lts (by assumption) (fun _ _ => ?_) | with_reducible refine xf_ltq (by assumption) (by omega) (fun _ _ => ?_) | with_reducible refine pf_b1 (fun _ => ?_) | with_reducible refine xf_ltv (fun _ => ?_)
set_option maxHeartbeats 4000000 in
theorem fx_MarkReader_refuse {X : Nat → Nat → Prop} {S0 : SS} (x_3_0 : X 3 0) (x_3_1 : X 3 1) : ∀ (S : SS) (v1 : Int), FX X S0 S → pc (f_MarkReader_refuse S v1) (fun u => FX X S0 u.2) := by
  intro S v1 h
  unfold f_MarkReader_refuse
  repeat' first | with_reducible exact pc_some (by assumption) | with_reducible exact pc_none | with_reducible refine pc_chk (fun _ => ?_) | with_reducible refine pc_if (fun _ => ?_) (fun _ => ?_) | with_reducible refine pc_on ?_ (fun _ _ => ?_) | with_reducible refine pc_b2 (fx_Fault_tellOf (x_3_0 := x_3_0) (x_3_1 := x_3_1) _ _ _ (by assumption)) (fun _ _ _ => ?_) | with_reducible refine xf_lt (by assumption) (by first | exact x_3_0 | exact x_3_1) (fun _ _ => ?_) | with_reducible refine xf_lts (by assumption) (fun _ _ => ?_) | with_reducible refine xf_ltq (by assumption) (by omega) (fun _ _ => ?_) | with_reducible refine pf_b1 (fun _ => ?_) | with_reducible refine xf_ltv (fun _ => ?_)
set_option maxHeartbeats 4000000 in
theorem fx_MP_feed {X : Nat → Nat → Prop} {S0 : SS} (x_2 : ∀ k, X 2 k) (x_1_1 : X 1 1) : ∀ (S : SS) (v1 : Int) (v2 : Int) (v3 : Int) (v4 : Int) (v5 : Int), FX X S0 S → pc (f_MP_feed S v1 v2 v3 v4 v5) (fun u => FX X S0 u.2) := by
  intro S v1 v2 v3 v4 v5 h
  unfold f_MP_feed
  repeat' first | with_reducible exact pc_some (by assumption) | with_reducible exact pc_none | with_reducible refine pc_chk (fun _ => ?_) | with_reducible refine pc_if (fun _ => ?_) (fun _ => ?_) | with_reducible refine pc_on ?_ (fun _ _ => ?_) | with_reducible refine pc_b1 (fx_Tape_addFour (x_2 := x_2) (x_1_1 := x_1_1) _ _ (by assumption)) (fun _ _ => ?_) | with_reducible refine xf_lt (by assumption) (by first | exact x_2 _ | exact x_1_1) (fun _ _ => ?_) | with_reducible refine xf_lts (by assumption) (fun _ _ => ?_) | with_reducible refine xf_ltq (by assumption) (by omega) (fun _ _ => ?_) | with_reducible refine pf_b1 (fun _ => ?_) | with_reducible refine xf_ltv (fun _ => ?_)
set_option maxHeartbeats 4000000 in
theorem fx_MP_end {X : Nat → Nat → Prop} {S0 : SS} (x_1_1 : X 1 1) : ∀ (S : SS) (v1 : Int), FX X S0 S → pc (f_MP_end S v1) (fun u => FX X S0 u.2) := by
  intro S v1 h
  unfold f_MP_end
  repeat' first | with_reducible exact pc_some (by assumption) | with_reducible exact pc_none | with_reducible refine pc_chk (fun _ => ?_) | with_reducible refine pc_if (fun _ => ?_) (fun _ => ?_) | with_reducible refine pc_on ?_ (fun _ _ => ?_) | with_reducible refine xf_lt (by assumption) (by first | exact x_1_1) (fun _ _ => ?_) | with_reducible refine xf_lts (by assumption) (fun _ _ => ?_) | with_reducible refine xf_ltq (by assumption) (by omega) (fun _ _ => ?_) | with_reducible refine pf_b1 (fun _ => ?_) | with_reducible refine xf_ltv (fun _ => ?_)
set_option maxHeartbeats 4000000 in
theorem fx_MP_costs {X : Nat → Nat → Prop} {S0 : SS} (x_183_5 : X 183 5) (x_183_6 : X 183 6) : ∀ (S : SS) (v1 : Int) (v2 : Int), FX X S0 S → pc (f_MP_costs S v1 v2) (fun u => FX X S0 u.2) := by
  intro S v1 v2 h
  unfold f_MP_costs
  repeat' first | with_reducible exact pc_some (by assumption) | with_reducible exact pc_none | with_reducible refine pc_chk (fun _ => ?_) | with_reducible refine pc_if (fun _ => ?_) (fun _ => ?_) | with_reducible refine pc_on ?_ (fun _ _ => ?_) | with_reducible refine xf_lt (by assumption) (by first | exact x_183_5 | exact x_183_6) (fun _ _ => ?_) | with_reducible refine xf_lts (by assumption) (fun _ _ => ?_) | with_reducible refine xf_ltq (by assumption) (by omega) (fun _ _ => ?_) | with_reducible refine pf_b1 (fun _ => ?_) | with_reducible refine xf_ltv (fun _ => ?_)
set_option maxHeartbeats 4000000 in
theorem fx_MP_distance {X : Nat → Nat → Prop} {S0 : SS} (x_182 : ∀ k, X 182 k) : ∀ (S : SS) (v1 : Int) (v2 : Int), FX X S0 S → pc (f_MP_distance S v1 v2) (fun u => FX X S0 u.2) := by
  intro S v1 v2 h
  unfold f_MP_distance
  repeat' first | with_reducible exact pc_some (by assumption) | with_reducible exact pc_none | with_reducible refine pc_chk (fun _ => ?_) | with_reducible refine pc_if (fun _ => ?_) (fun _ => ?_) | with_reducible refine pc_on ?_ (fun _ _ => ?_) | with_reducible refine pc_b2 (fx_Ruler_measure (x_182 := x_182) _ _ _ _ _ _ (by assumption)) (fun _ _ _ => ?_) | with_reducible refine xf_lt (by assumption) (by first | exact x_182 _) (fun _ _ => ?_) | with_reducible refine xf_lts (by assumption) (fun _ _ => ?_) | with_reducible refine xf_ltq (by assumption) (by omega) (fun _ _ => ?_) | with_reducible refine pf_b1 (fun _ => ?_) | with_reducible refine xf_ltv (fun _ => ?_)
set_option maxHeartbeats 4000000 in
theorem fx_MP_error {X : Nat → Nat → Prop} {S0 : SS} (x_m_9 : ∀ j, j < 40 → X (14 + 4 * j) 9) : ∀ (S : SS) (v1 : Int) (v2 : Int), FX X S0 S → pc (f_MP_error S v1 v2) (fun u => FX X S0 u.2) := by
  intro S v1 v2 h
  unfold f_MP_error
  repeat' first | with_reducible exact pc_some (by assumption) | with_reducible exact pc_none | with_reducible refine pc_chk (fun _ => ?_) | with_reducible refine pc_if (fun _ => ?_) (fun _ => ?_) | with_reducible refine pc_on ?_ (fun _ _ => ?_) | with_reducible refine xf_lt (by assumption) (by first | exact x_m_9 _ (by omega)) (fun _ _ => ?_) | with_reducible refine xf_lts (by assumption) (fun _ _ => ?_) | with_reducible refine xf_ltq (by assumption) (by omega) (fun _ _ => ?_) | with_reducible refine pf_b1 (fun _ => ?_) | with_reducible refine xf_ltv (fun _ => ?_)
set_option maxHeartbeats 4000000 in
theorem fx_MP_price {X : Nat → Nat → Prop} {S0 : SS} (x_191 : ∀ k, X 191 k) : ∀ (S : SS) (v1 : Int) (v2 : Int), FX X S0 S → pc (f_MP_price S v1 v2) (fun u => FX X S0 u.2) := by
  intro S v1 v2 h
  unfold f_MP_price
  repeat' first | with_reducible exact pc_some (by assumption) | with_reducible exact pc_none | with_reducible refine pc_chk (fun _ => ?_) | with_reducible refine pc_if (fun _ => ?_) (fun _ => ?_) | with_reducible refine pc_on ?_ (fun _ _ => ?_) | with_reducible refine pc_b2 (fx_Bill_setPrice (x_191 := x_191) _ _ _ (by assumption)) (fun _ _ _ => ?_) | with_reducible refine xf_lt (by assumption) (by first | exact x_191 _) (fun _ _ => ?_) | with_reducible refine xf_lts (by assumption) (fun _ _ => ?_) | with_reducible refine xf_ltq (by assumption) (by omega) (fun _ _ => ?_) | with_reducible refine pf_b1 (fun _ => ?_) | with_reducible refine xf_ltv (fun _ => ?_)
set_option maxHeartbeats 4000000 in
theorem fxl_SheetReader_readProof_20 {X : Nat → Nat → Prop} {S0 : SS} (x_3_0 : X 3 0) (x_3_1 : X 3 1) (x_175_1 : X 175 1) (v2 : Int)  : ∀ (n : Nat) (S : SS) (w4_ : Int64) (v6_ : Int) (v7_ : Int), FX X S0 S → pc (f_SheetReader_readProof_20 v2 n S w4_ v6_ v7_) (fun u => FX X S0 u.2) := by
  intro n
  induction n with
  | zero => intro S w4_ v6_ v7_ h r e; exact absurd e (by simp [f_SheetReader_readProof_20])
  | succ n ih =>
    intro S w4_ v6_ v7_ h
    show pc (f_SheetReader_readProof_20_b v2 (f_SheetReader_readProof_20 v2 n) S w4_ v6_ v7_) _
    unfold f_SheetReader_readProof_20_b
    repeat' first | with_reducible exact ih _ _ _ _ (by assumption) | with_reducible unfold f_SheetReader_readProof_77 | with_reducible unfold f_SheetReader_readProof_123 | with_reducible unfold f_SheetReader_readProof_109 | with_reducible exact pc_some (by assumption) | with_reducible exact pc_none | with_reducible refine pc_chk (fun _ => ?_) | with_reducible refine pc_if (fun _ => ?_) (fun _ => ?_) | with_reducible refine pc_on ?_ (fun _ _ => ?_) | with_reducible refine pc_b2 (fx_Fault_tellOf (x_3_0 := x_3_0) (x_3_1 := x_3_1) _ _ _ (by assumption)) (fun _ _ _ => ?_) | with_reducible refine pc_b1 (fx_SheetReader_addWord (x_175_1 := x_175_1) _ _ _ (by assumption)) (fun _ _ => ?_) | with_reducible refine xf_let (fx_Sheet_clear (x_q0 := (by first | exact x_3_0 | exact x_3_1 | exact x_175_1)) _ (by assumption)) (fun _ _ => ?_) | with_reducible refine xf_let (fx_Fault_clear (x_3_0 := x_3_0) (x_3_1 := x_3_1) _ (by assumption)) (fun _ _ => ?_) | with_reducible refine xf_lt (by assumption) (by first | exact x_3_0 | exact x_3_1 | exact x_175_1) (fun _ _ => ?_) | with_reducible refine xf_lts (by assumption) (fun _ _ => ?_) | with_reducible refine xf_ltq (by assumption) (by omega) (fun _ _ => ?_) | with_reducible refine pf_b1 (fun _ => ?_) | with_reducible refine xf_ltv (fun _ => ?_)
set_option maxHeartbeats 4000000 in
theorem fx_SheetReader_readProof {X : Nat → Nat → Prop} {S0 : SS} (x_3_0 : X 3 0) (x_3_1 : X 3 1) (x_175_1 : X 175 1) : ∀ (S : SS) (v2 : Int), FX X S0 S → pc (f_SheetReader_readProof S v2) (fun u => FX X S0 u.2) := by
  intro S v2 h
  unfold f_SheetReader_readProof
  repeat' first | with_reducible exact fxl_SheetReader_readProof_20 (x_3_0 := x_3_0) (x_3_1 := x_3_1) (x_175_1 := x_175_1) _ FU _ _ _ _ (by assumption) | with_reducible unfold f_SheetReader_readProof_77 | with_reducible unfold f_SheetReader_readProof_123 | with_reducible unfold f_SheetReader_readProof_109 | with_reducible exact pc_some (by assumption) | with_reducible exact pc_none | with_reducible refine pc_chk (fun _ => ?_) | with_reducible refine pc_if (fun _ => ?_) (fun _ => ?_) | with_reducible refine pc_on ?_ (fun _ _ => ?_) | with_reducible refine pc_b2 (fx_Fault_tellOf (x_3_0 := x_3_0) (x_3_1 := x_3_1) _ _ _ (by assumption)) (fun _ _ _ => ?_) | with_reducible refine pc_b1 (fx_SheetReader_addWord (x_175_1 := x_175_1) _ _ _ (by assumption)) (fun _ _ => ?_) | with_reducible refine xf_let (fx_Sheet_clear (x_q0 := (by first | exact x_3_0 | exact x_3_1 | exact x_175_1)) _ (by assumption)) (fun _ _ => ?_) | with_reducible refine xf_let (fx_Fault_clear (x_3_0 := x_3_0) (x_3_1 := x_3_1) _ (by assumption)) (fun _ _ => ?_) | with_reducible refine xf_lt (by assumption) (by first | exact x_3_0 | exact x_3_1 | exact x_175_1) (fun _ _ => ?_) | with_reducible refine xf_lts (by assumption) (fun _ _ => ?_) | with_reducible refine xf_ltq (by assumption) (by omega) (fun _ _ => ?_) | with_reducible refine pf_b1 (fun _ => ?_) | with_reducible refine xf_ltv (fun _ => ?_)
set_option maxHeartbeats 4000000 in
theorem fxl_MarkReader_readNumbers_33 {X : Nat → Nat → Prop} {S0 : SS} (x_3_0 : X 3 0) (x_3_1 : X 3 1) (x_177_4 : X 177 4) (x_177_5 : X 177 5) (x_177_6 : X 177 6) (x_mn : ∀ j k, j < 40 → X (14 + 4 * j + 1) k) (j1 : Nat) (hj_j1 : j1 < 40)  : ∀ (n : Nat) (S : SS) (v2_ : Int) (v3_ : Int), FX X S0 S → pc (f_MarkReader_readNumbers_33 j1 n S v2_ v3_) (fun u => FX X S0 u.2) := by
  intro n
  induction n with
  | zero => intro S v2_ v3_ h r e; exact absurd e (by simp [f_MarkReader_readNumbers_33])
  | succ n ih =>
    intro S v2_ v3_ h
    show pc (f_MarkReader_readNumbers_33_b j1 (f_MarkReader_readNumbers_33 j1 n) S v2_ v3_) _
    unfold f_MarkReader_readNumbers_33_b
    repeat' first | with_reducible exact ih _ _ _ (by assumption) | with_reducible unfold f_MarkReader_readNumbers_63 | with_reducible unfold f_MarkReader_readNumbers_30 | with_reducible unfold f_MarkReader_readNumbers_18 | with_reducible exact pc_some (by assumption) | with_reducible exact pc_none | with_reducible refine pc_chk (fun _ => ?_) | with_reducible refine pc_if (fun _ => ?_) (fun _ => ?_) | with_reducible refine pc_on ?_ (fun _ _ => ?_) | with_reducible refine pc_b2 (fx_MarkReader_refuse (x_3_0 := x_3_0) (x_3_1 := x_3_1) _ _ (by assumption)) (fun _ _ _ => ?_) | with_reducible refine pc_b1 (fx_MarkReader_readToken (x_177_4 := x_177_4) (x_177_5 := x_177_5) (x_177_6 := x_177_6) _ (by assumption)) (fun _ _ => ?_) | with_reducible refine pc_b1 (fx_Mark_setNumber (x_mn := x_mn) _ _ _ _ (by omega) (by assumption)) (fun _ _ => ?_) | with_reducible refine xf_lt (by assumption) (by first | exact x_3_0 | exact x_3_1 | exact x_177_4 | exact x_177_5 | exact x_177_6 | exact x_mn _ _ (by omega)) (fun _ _ => ?_) | with_reducible refine xf_lts (by assumption) (fun _ _ => ?_) | with_reducible refine xf_ltq (by assumption) (by omega) (fun _ _ => ?_) | with_reducible refine pf_b1 (fun _ => ?_) | with_reducible refine xf_ltv (fun _ => ?_)
set_option maxHeartbeats 4000000 in
theorem fx_MarkReader_readNumbers {X : Nat → Nat → Prop} {S0 : SS} (x_3_0 : X 3 0) (x_3_1 : X 3 1) (x_177_4 : X 177 4) (x_177_5 : X 177 5) (x_177_6 : X 177 6) (x_mn : ∀ j k, j < 40 → X (14 + 4 * j + 1) k) : ∀ (S : SS) (j1 : Nat), j1 < 40 → FX X S0 S → pc (f_MarkReader_readNumbers S j1) (fun u => FX X S0 u.2) := by
  intro S j1 hj0 h
  unfold f_MarkReader_readNumbers
  repeat' first | with_reducible exact fxl_MarkReader_readNumbers_33 (x_3_0 := x_3_0) (x_3_1 := x_3_1) (x_177_4 := x_177_4) (x_177_5 := x_177_5) (x_177_6 := x_177_6) (x_mn := x_mn) _ (by assumption) FU _ _ _ (by assumption) | with_reducible unfold f_MarkReader_readNumbers_63 | with_reducible unfold f_MarkReader_readNumbers_30 | with_reducible unfold f_MarkReader_readNumbers_18 | with_reducible exact pc_some (by assumption) | with_reducible exact pc_none | with_reducible refine pc_chk (fun _ => ?_) | with_reducible refine pc_if (fun _ => ?_) (fun _ => ?_) | with_reducible refine pc_on ?_ (fun _ _ => ?_) | with_reducible refine pc_b2 (fx_MarkReader_refuse (x_3_0 := x_3_0) (x_3_1 := x_3_1) _ _ (by assumption)) (fun _ _ _ => ?_) | with_reducible refine pc_b1 (fx_MarkReader_readToken (x_177_4 := x_177_4) (x_177_5 := x_177_5) (x_177_6 := x_177_6) _ (by assumption)) (fun _ _ => ?_) | with_reducible refine pc_b1 (fx_Mark_setNumber (x_mn := x_mn) _ _ _ _ (by omega) (by assumption)) (fun _ _ => ?_) | with_reducible refine xf_lt (by assumption) (by first | exact x_3_0 | exact x_3_1 | exact x_177_4 | exact x_177_5 | exact x_177_6 | exact x_mn _ _ (by omega)) (fun _ _ => ?_) | with_reducible refine xf_lts (by assumption) (fun _ _ => ?_) | with_reducible refine xf_ltq (by assumption) (by omega) (fun _ _ => ?_) | with_reducible refine pf_b1 (fun _ => ?_) | with_reducible refine xf_ltv (fun _ => ?_)
set_option maxHeartbeats 4000000 in
theorem fxl_MarkReader_readWord_11 {X : Nat → Nat → Prop} {S0 : SS} (x_177_4 : X 177 4) (x_3_0 : X 3 0) (x_3_1 : X 3 1) (x_ms : ∀ j, j < 40 → X (14 + 4 * j + 2) 1) (j1 : Nat) (hj_j1 : j1 < 40)  : ∀ (n : Nat) (S : SS) (w2_ : Int64) (v4_ : Int) (v5_ : Int), FX X S0 S → pc (f_MarkReader_readWord_11 j1 n S w2_ v4_ v5_) (fun u => FX X S0 u.2) := by
  intro n
  induction n with
  | zero => intro S w2_ v4_ v5_ h r e; exact absurd e (by simp [f_MarkReader_readWord_11])
  | succ n ih =>
    intro S w2_ v4_ v5_ h
    show pc (f_MarkReader_readWord_11_b j1 (f_MarkReader_readWord_11 j1 n) S w2_ v4_ v5_) _
    unfold f_MarkReader_readWord_11_b
    repeat' first | with_reducible exact ih _ _ _ _ (by assumption) | with_reducible unfold f_MarkReader_readWord_70 | with_reducible unfold f_MarkReader_readWord_69 | with_reducible unfold f_MarkReader_readWord_114 | with_reducible unfold f_MarkReader_readWord_95 | with_reducible exact pc_some (by assumption) | with_reducible exact pc_none | with_reducible refine pc_chk (fun _ => ?_) | with_reducible refine pc_if (fun _ => ?_) (fun _ => ?_) | with_reducible refine pc_on ?_ (fun _ _ => ?_) | with_reducible refine pc_b2 (fx_MarkReader_refuse (x_3_0 := x_3_0) (x_3_1 := x_3_1) _ _ (by assumption)) (fun _ _ _ => ?_) | with_reducible refine pc_b1 (fx_Sheet_add (x_q0 := (by first | exact x_177_4 | exact x_3_0 | exact x_3_1 | exact x_ms _ (by omega))) _ _ (by assumption)) (fun _ _ => ?_) | with_reducible refine xf_lt (by assumption) (by first | exact x_177_4 | exact x_3_0 | exact x_3_1 | exact x_ms _ (by omega)) (fun _ _ => ?_) | with_reducible refine xf_lts (by assumption) (fun _ _ => ?_) | with_reducible refine xf_ltq (by assumption) (by omega) (fun _ _ => ?_) | with_reducible refine pf_b1 (fun _ => ?_) | with_reducible refine xf_ltv (fun _ => ?_)
set_option maxHeartbeats 4000000 in
theorem fx_MarkReader_readWord {X : Nat → Nat → Prop} {S0 : SS} (x_177_4 : X 177 4) (x_3_0 : X 3 0) (x_3_1 : X 3 1) (x_ms : ∀ j, j < 40 → X (14 + 4 * j + 2) 1) : ∀ (S : SS) (j1 : Nat), j1 < 40 → FX X S0 S → pc (f_MarkReader_readWord S j1) (fun u => FX X S0 u.2) := by
  intro S j1 hj0 h
  unfold f_MarkReader_readWord
  repeat' first | with_reducible exact fxl_MarkReader_readWord_11 (x_177_4 := x_177_4) (x_3_0 := x_3_0) (x_3_1 := x_3_1) (x_ms := x_ms) _ (by assumption) FU _ _ _ _ (by assumption) | with_reducible unfold f_MarkReader_readWord_70 | with_reducible unfold f_MarkReader_readWord_69 | with_reducible unfold f_MarkReader_readWord_114 | with_reducible unfold f_MarkReader_readWord_95 | with_reducible exact pc_some (by assumption) | with_reducible exact pc_none | with_reducible refine pc_chk (fun _ => ?_) | with_reducible refine pc_if (fun _ => ?_) (fun _ => ?_) | with_reducible refine pc_on ?_ (fun _ _ => ?_) | with_reducible refine pc_b2 (fx_MarkReader_refuse (x_3_0 := x_3_0) (x_3_1 := x_3_1) _ _ (by assumption)) (fun _ _ _ => ?_) | with_reducible refine pc_b1 (fx_Sheet_add (x_q0 := (by first | exact x_177_4 | exact x_3_0 | exact x_3_1 | exact x_ms _ (by omega))) _ _ (by assumption)) (fun _ _ => ?_) | with_reducible refine xf_lt (by assumption) (by first | exact x_177_4 | exact x_3_0 | exact x_3_1 | exact x_ms _ (by omega)) (fun _ _ => ?_) | with_reducible refine xf_lts (by assumption) (fun _ _ => ?_) | with_reducible refine xf_ltq (by assumption) (by omega) (fun _ _ => ?_) | with_reducible refine pf_b1 (fun _ => ?_) | with_reducible refine xf_ltv (fun _ => ?_)
set_option maxHeartbeats 4000000 in
theorem fxl_MarkReader_readWords_2 {X : Nat → Nat → Prop} {S0 : SS} (x_177_4 : X 177 4) (x_177_5 : X 177 5) (x_3_0 : X 3 0) (x_3_1 : X 3 1) (x_ms : ∀ j, j < 40 → X (14 + 4 * j + 2) 1) (j1 : Nat) (hj_j1 : j1 < 40)  : ∀ (n : Nat) (S : SS) (v2_ : Int), FX X S0 S → pc (f_MarkReader_readWords_2 j1 n S v2_) (fun u => FX X S0 u.2) := by
  intro n
  induction n with
  | zero => intro S v2_ h r e; exact absurd e (by simp [f_MarkReader_readWords_2])
  | succ n ih =>
    intro S v2_ h
    show pc (f_MarkReader_readWords_2_b j1 (f_MarkReader_readWords_2 j1 n) S v2_) _
    unfold f_MarkReader_readWords_2_b
    repeat' first | with_reducible exact ih _ _ (by assumption) | with_reducible unfold f_MarkReader_readWords_47 | with_reducible unfold f_MarkReader_readWords_53 | with_reducible exact pc_some (by assumption) | with_reducible exact pc_none | with_reducible refine pc_chk (fun _ => ?_) | with_reducible refine pc_if (fun _ => ?_) (fun _ => ?_) | with_reducible refine pc_on ?_ (fun _ _ => ?_) | with_reducible refine pc_b2 (fx_MarkReader_refuse (x_3_0 := x_3_0) (x_3_1 := x_3_1) _ _ (by assumption)) (fun _ _ _ => ?_) | with_reducible refine pc_b2 (fx_MarkReader_readWord (x_177_4 := x_177_4) (x_3_0 := x_3_0) (x_3_1 := x_3_1) (x_ms := x_ms) _ _ (by omega) (by assumption)) (fun _ _ _ => ?_) | with_reducible refine pc_b1 (fx_MarkReader_skipBlanks (x_177_4 := x_177_4) _ (by assumption)) (fun _ _ => ?_) | with_reducible refine xf_lt (by assumption) (by first | exact x_177_4 | exact x_177_5 | exact x_3_0 | exact x_3_1 | exact x_ms _ (by omega)) (fun _ _ => ?_) | with_reducible refine xf_lts (by assumption) (fun _ _ => ?_) | with_reducible refine xf_ltq (by assumption) (by omega) (fun _ _ => ?_) | with_reducible refine pf_b1 (fun _ => ?_) | with_reducible refine xf_ltv (fun _ => ?_)
set_option maxHeartbeats 4000000 in
theorem fx_MarkReader_readWords {X : Nat → Nat → Prop} {S0 : SS} (x_177_4 : X 177 4) (x_177_5 : X 177 5) (x_3_0 : X 3 0) (x_3_1 : X 3 1) (x_ms : ∀ j, j < 40 → X (14 + 4 * j + 2) 1) : ∀ (S : SS) (j1 : Nat), j1 < 40 → FX X S0 S → pc (f_MarkReader_readWords S j1) (fun u => FX X S0 u.2) := by
  intro S j1 hj0 h
  unfold f_MarkReader_readWords
  repeat' first | with_reducible exact fxl_MarkReader_readWords_2 (x_177_4 := x_177_4) (x_177_5 := x_177_5) (x_3_0 := x_3_0) (x_3_1 := x_3_1) (x_ms := x_ms) _ (by assumption) FU _ _ (by assumption) | with_reducible unfold f_MarkReader_readWords_47 | with_reducible unfold f_MarkReader_readWords_53 | with_reducible exact pc_some (by assumption) | with_reducible exact pc_none | with_reducible refine pc_chk (fun _ => ?_) | with_reducible refine pc_if (fun _ => ?_) (fun _ => ?_) | with_reducible refine pc_on ?_ (fun _ _ => ?_) | with_reducible refine pc_b2 (fx_MarkReader_refuse (x_3_0 := x_3_0) (x_3_1 := x_3_1) _ _ (by assumption)) (fun _ _ _ => ?_) | with_reducible refine pc_b2 (fx_MarkReader_readWord (x_177_4 := x_177_4) (x_3_0 := x_3_0) (x_3_1 := x_3_1) (x_ms := x_ms) _ _ (by omega) (by assumption)) (fun _ _ _ => ?_) | with_reducible refine pc_b1 (fx_MarkReader_skipBlanks (x_177_4 := x_177_4) _ (by assumption)) (fun _ _ => ?_) | with_reducible refine xf_lt (by assumption) (by first | exact x_177_4 | exact x_177_5 | exact x_3_0 | exact x_3_1 | exact x_ms _ (by omega)) (fun _ _ => ?_) | with_reducible refine xf_lts (by assumption) (fun _ _ => ?_) | with_reducible refine xf_ltq (by assumption) (by omega) (fun _ _ => ?_) | with_reducible refine pf_b1 (fun _ => ?_) | with_reducible refine xf_ltv (fun _ => ?_)
set_option maxHeartbeats 4000000 in
theorem fx_MarkReader_readLine {X : Nat → Nat → Prop} {S0 : SS} (x_m_2 : ∀ j, j < 40 → X (14 + 4 * j) 2) (x_m_3 : ∀ j, j < 40 → X (14 + 4 * j) 3) (x_m_7 : ∀ j, j < 40 → X (14 + 4 * j) 7) (x_3_0 : X 3 0) (x_3_1 : X 3 1) (x_177_4 : X 177 4) (x_177_5 : X 177 5) (x_ms : ∀ j, j < 40 → X (14 + 4 * j + 2) 1) (x_177_6 : X 177 6) (x_mn : ∀ j k, j < 40 → X (14 + 4 * j + 1) k) (x_m_6 : ∀ j, j < 40 → X (14 + 4 * j) 6) (x_m_5 : ∀ j, j < 40 → X (14 + 4 * j) 5) (x_m_4 : ∀ j, j < 40 → X (14 + 4 * j) 4) (x_m_8 : ∀ j, j < 40 → X (14 + 4 * j) 8) (x_m_9 : ∀ j, j < 40 → X (14 + 4 * j) 9) (x_m_10 : ∀ j, j < 40 → X (14 + 4 * j) 10) (x_m_11 : ∀ j, j < 40 → X (14 + 4 * j) 11) (x_m_12 : ∀ j, j < 40 → X (14 + 4 * j) 12) : ∀ (S : SS) , FX X S0 S → pc (f_MarkReader_readLine S ) (fun u => FX X S0 u.2) := by
  intro S h
  unfold f_MarkReader_readLine
  repeat' first | with_reducible unfold f_MarkReader_readLine_92 | with_reducible unfold f_MarkReader_readLine_132 | with_reducible unfold f_MarkReader_readLine_98 | with_reducible unfold f_MarkReader_readLine_61 | with_reducible exact pc_some (by assumption) | with_reducible exact pc_none | with_reducible refine pc_chk (fun _ => ?_) | with_reducible refine pc_if (fun _ => ?_) (fun _ => ?_) | with_reducible refine pc_on ?_ (fun _ _ => ?_) | with_reducible refine pc_b2 (fx_MarkReader_refuse (x_3_0 := x_3_0) (x_3_1 := x_3_1) _ _ (by assumption)) (fun _ _ _ => ?_) | with_reducible refine pc_b2 (fx_MarkReader_readWords (x_177_4 := x_177_4) (x_177_5 := x_177_5) (x_3_0 := x_3_0) (x_3_1 := x_3_1) (x_ms := x_ms) _ _ (by omega) (by assumption)) (fun _ _ _ => ?_) | with_reducible refine pc_b2 (fx_MarkReader_readNumbers (x_3_0 := x_3_0) (x_3_1 := x_3_1) (x_177_4 := x_177_4) (x_177_5 := x_177_5) (x_177_6 := x_177_6) (x_mn := x_mn) _ _ (by omega) (by assumption)) (fun _ _ _ => ?_) | with_reducible refine pc_b1 (fx_Mark_place (x_m_6 := x_m_6) (x_m_5 := x_m_5) (x_m_4 := x_m_4) _ _ (by omega) (by assumption)) (fun _ _ => ?_) | with_reducible refine pc_b1 (fx_MarkReader_readToken (x_177_4 := x_177_4) (x_177_5 := x_177_5) (x_177_6 := x_177_6) _ (by assumption)) (fun _ _ => ?_) | with_reducible refine pc_b2 (fx_Pile_blank (x_m_2 := x_m_2) (x_m_3 := x_m_3) (x_m_7 := x_m_7) (x_m_8 := x_m_8) (x_m_9 := x_m_9) (x_m_10 := x_m_10) (x_m_11 := x_m_11) (x_m_12 := x_m_12) (x_mn := x_mn) (x_ms := x_ms) _ (by assumption)) (fun _ _ _ => ?_) | with_reducible refine xf_lt (by assumption) (by first | exact x_m_2 _ (by omega) | exact x_m_3 _ (by omega) | exact x_m_7 _ (by omega) | exact x_3_0 | exact x_3_1 | exact x_177_4 | exact x_177_5 | exact x_ms _ (by omega) | exact x_177_6 | exact x_mn _ _ (by omega) | exact x_m_6 _ (by omega) | exact x_m_5 _ (by omega) | exact x_m_4 _ (by omega) | exact x_m_8 _ (by omega) | exact x_m_9 _ (by omega) | exact x_m_10 _ (by omega) | exact x_m_11 _ (by omega) | exact x_m_12 _ (by omega)) (fun _ _ => ?_) | with_reducible refine xf_lts (by assumption) (fun _ _ => ?_) | with_reducible refine xf_ltq (by assumption) (by omega) (fun _ _ => ?_) | with_reducible refine pf_b1 (fun _ => ?_) | with_reducible refine xf_ltv (fun _ => ?_)
set_option maxHeartbeats 4000000 in
theorem fxl_MarkReader_readMarks_44 {X : Nat → Nat → Prop} {S0 : SS} (x_10_4 : X 10 4) (x_177_3 : X 177 3) (x_177_4 : X 177 4) (x_177_5 : X 177 5) (x_177_6 : X 177 6) (x_m_2 : ∀ j, j < 40 → X (14 + 4 * j) 2) (x_m_3 : ∀ j, j < 40 → X (14 + 4 * j) 3) (x_m_7 : ∀ j, j < 40 → X (14 + 4 * j) 7) (x_3_0 : X 3 0) (x_3_1 : X 3 1) (x_ms : ∀ j, j < 40 → X (14 + 4 * j + 2) 1) (x_mn : ∀ j k, j < 40 → X (14 + 4 * j + 1) k) (x_m_6 : ∀ j, j < 40 → X (14 + 4 * j) 6) (x_m_5 : ∀ j, j < 40 → X (14 + 4 * j) 5) (x_m_4 : ∀ j, j < 40 → X (14 + 4 * j) 4) (x_m_8 : ∀ j, j < 40 → X (14 + 4 * j) 8) (x_m_9 : ∀ j, j < 40 → X (14 + 4 * j) 9) (x_m_10 : ∀ j, j < 40 → X (14 + 4 * j) 10) (x_m_11 : ∀ j, j < 40 → X (14 + 4 * j) 11) (x_m_12 : ∀ j, j < 40 → X (14 + 4 * j) 12) (v3 : Int)  : ∀ (n : Nat) (S : SS) (v5_ : Int), FX X S0 S → pc (f_MarkReader_readMarks_44 v3 n S v5_) (fun u => FX X S0 u.2) := by
  intro n
  induction n with
  | zero => intro S v5_ h r e; exact absurd e (by simp [f_MarkReader_readMarks_44])
  | succ n ih =>
    intro S v5_ h
    show pc (f_MarkReader_readMarks_44_b v3 (f_MarkReader_readMarks_44 v3 n) S v5_) _
    unfold f_MarkReader_readMarks_44_b
    repeat' first | with_reducible exact ih _ _ (by assumption) | with_reducible exact pc_some (by assumption) | with_reducible exact pc_none | with_reducible refine pc_chk (fun _ => ?_) | with_reducible refine pc_if (fun _ => ?_) (fun _ => ?_) | with_reducible refine pc_on ?_ (fun _ _ => ?_) | with_reducible refine pc_b1 (fx_MarkReader_readToken (x_177_4 := x_177_4) (x_177_5 := x_177_5) (x_177_6 := x_177_6) _ (by assumption)) (fun _ _ => ?_) | with_reducible refine pc_b2 (fx_MarkReader_readLine (x_m_2 := x_m_2) (x_m_3 := x_m_3) (x_m_7 := x_m_7) (x_3_0 := x_3_0) (x_3_1 := x_3_1) (x_177_4 := x_177_4) (x_177_5 := x_177_5) (x_ms := x_ms) (x_177_6 := x_177_6) (x_mn := x_mn) (x_m_6 := x_m_6) (x_m_5 := x_m_5) (x_m_4 := x_m_4) (x_m_8 := x_m_8) (x_m_9 := x_m_9) (x_m_10 := x_m_10) (x_m_11 := x_m_11) (x_m_12 := x_m_12) _ (by assumption)) (fun _ _ _ => ?_) | with_reducible refine xf_let (fx_Fault_clear (x_3_0 := x_3_0) (x_3_1 := x_3_1) _ (by assumption)) (fun _ _ => ?_) | with_reducible refine xf_lt (by assumption) (by first | exact x_10_4 | exact x_177_3 | exact x_177_4 | exact x_177_5 | exact x_177_6 | exact x_m_2 _ (by omega) | exact x_m_3 _ (by omega) | exact x_m_7 _ (by omega) | exact x_3_0 | exact x_3_1 | exact x_ms _ (by omega) | exact x_mn _ _ (by omega) | exact x_m_6 _ (by omega) | exact x_m_5 _ (by omega) | exact x_m_4 _ (by omega) | exact x_m_8 _ (by omega) | exact x_m_9 _ (by omega) | exact x_m_10 _ (by omega) | exact x_m_11 _ (by omega) | exact x_m_12 _ (by omega)) (fun _ _ => ?_) | with_reducible refine xf_lts (by assumption) (fun _ _ => ?_) | with_reducible refine xf_ltq (by assumption) (by omega) (fun _ _ => ?_) | with_reducible refine pf_b1 (fun _ => ?_) | with_reducible refine xf_ltv (fun _ => ?_)
set_option maxHeartbeats 4000000 in
theorem fx_MarkReader_readMarks {X : Nat → Nat → Prop} {S0 : SS} (x_10_4 : X 10 4) (x_177_3 : X 177 3) (x_177_4 : X 177 4) (x_177_5 : X 177 5) (x_177_6 : X 177 6) (x_m_2 : ∀ j, j < 40 → X (14 + 4 * j) 2) (x_m_3 : ∀ j, j < 40 → X (14 + 4 * j) 3) (x_m_7 : ∀ j, j < 40 → X (14 + 4 * j) 7) (x_3_0 : X 3 0) (x_3_1 : X 3 1) (x_ms : ∀ j, j < 40 → X (14 + 4 * j + 2) 1) (x_mn : ∀ j k, j < 40 → X (14 + 4 * j + 1) k) (x_m_6 : ∀ j, j < 40 → X (14 + 4 * j) 6) (x_m_5 : ∀ j, j < 40 → X (14 + 4 * j) 5) (x_m_4 : ∀ j, j < 40 → X (14 + 4 * j) 4) (x_m_8 : ∀ j, j < 40 → X (14 + 4 * j) 8) (x_m_9 : ∀ j, j < 40 → X (14 + 4 * j) 9) (x_m_10 : ∀ j, j < 40 → X (14 + 4 * j) 10) (x_m_11 : ∀ j, j < 40 → X (14 + 4 * j) 11) (x_m_12 : ∀ j, j < 40 → X (14 + 4 * j) 12) : ∀ (S : SS) (v3 : Int), FX X S0 S → pc (f_MarkReader_readMarks S v3) (fun u => FX X S0 u.2) := by
  intro S v3 h
  unfold f_MarkReader_readMarks
  repeat' first | with_reducible exact fxl_MarkReader_readMarks_44 (x_10_4 := x_10_4) (x_177_3 := x_177_3) (x_177_4 := x_177_4) (x_177_5 := x_177_5) (x_177_6 := x_177_6) (x_m_2 := x_m_2) (x_m_3 := x_m_3) (x_m_7 := x_m_7) (x_3_0 := x_3_0) (x_3_1 := x_3_1) (x_ms := x_ms) (x_mn := x_mn) (x_m_6 := x_m_6) (x_m_5 := x_m_5) (x_m_4 := x_m_4) (x_m_8 := x_m_8) (x_m_9 := x_m_9) (x_m_10 := x_m_10) (x_m_11 := x_m_11) (x_m_12 := x_m_12) _ FU _ _ (by assumption) | with_reducible exact pc_some (by assumption) | with_reducible exact pc_none | with_reducible refine pc_chk (fun _ => ?_) | with_reducible refine pc_if (fun _ => ?_) (fun _ => ?_) | with_reducible refine pc_on ?_ (fun _ _ => ?_) | with_reducible refine pc_b1 (fx_MarkReader_readToken (x_177_4 := x_177_4) (x_177_5 := x_177_5) (x_177_6 := x_177_6) _ (by assumption)) (fun _ _ => ?_) | with_reducible refine pc_b2 (fx_MarkReader_readLine (x_m_2 := x_m_2) (x_m_3 := x_m_3) (x_m_7 := x_m_7) (x_3_0 := x_3_0) (x_3_1 := x_3_1) (x_177_4 := x_177_4) (x_177_5 := x_177_5) (x_ms := x_ms) (x_177_6 := x_177_6) (x_mn := x_mn) (x_m_6 := x_m_6) (x_m_5 := x_m_5) (x_m_4 := x_m_4) (x_m_8 := x_m_8) (x_m_9 := x_m_9) (x_m_10 := x_m_10) (x_m_11 := x_m_11) (x_m_12 := x_m_12) _ (by assumption)) (fun _ _ _ => ?_) | with_reducible refine xf_let (fx_Fault_clear (x_3_0 := x_3_0) (x_3_1 := x_3_1) _ (by assumption)) (fun _ _ => ?_) | with_reducible refine xf_lt (by assumption) (by first | exact x_10_4 | exact x_177_3 | exact x_177_4 | exact x_177_5 | exact x_177_6 | exact x_m_2 _ (by omega) | exact x_m_3 _ (by omega) | exact x_m_7 _ (by omega) | exact x_3_0 | exact x_3_1 | exact x_ms _ (by omega) | exact x_mn _ _ (by omega) | exact x_m_6 _ (by omega) | exact x_m_5 _ (by omega) | exact x_m_4 _ (by omega) | exact x_m_8 _ (by omega) | exact x_m_9 _ (by omega) | exact x_m_10 _ (by omega) | exact x_m_11 _ (by omega) | exact x_m_12 _ (by omega)) (fun _ _ => ?_) | with_reducible refine xf_lts (by assumption) (fun _ _ => ?_) | with_reducible refine xf_ltq (by assumption) (by omega) (fun _ _ => ?_) | with_reducible refine pf_b1 (fun _ => ?_) | with_reducible refine xf_ltv (fun _ => ?_)
set_option maxHeartbeats 4000000 in
theorem fx_MP_second {X : Nat → Nat → Prop} {S0 : SS} (x_1_1 : X 1 1) (x_3_0 : X 3 0) (x_3_1 : X 3 1) (x_175_1 : X 175 1) (x_6_1 : X 6 1) : ∀ (S : SS) , FX X S0 S → pc (f_MP_second S ) (fun u => FX X S0 u.2) := by
  intro S h
  unfold f_MP_second
  repeat' first | with_reducible exact pc_some (by assumption) | with_reducible exact pc_none | with_reducible refine pc_chk (fun _ => ?_) | with_reducible refine pc_if (fun _ => ?_) (fun _ => ?_) | with_reducible refine pc_on ?_ (fun _ _ => ?_) | with_reducible refine pc_b2 (fx_SheetReader_readProof (x_3_0 := x_3_0) (x_3_1 := x_3_1) (x_175_1 := x_175_1) _ _ (by assumption)) (fun _ _ _ => ?_) | with_reducible refine pc_b1 (fx_Sheet_copyFrom (x_q0 := (by first | exact x_1_1 | exact x_3_0 | exact x_3_1 | exact x_175_1 | exact x_6_1)) _ _ (by assumption)) (fun _ _ => ?_) | with_reducible refine xf_lt (by assumption) (by first | exact x_1_1 | exact x_3_0 | exact x_3_1 | exact x_175_1 | exact x_6_1) (fun _ _ => ?_) | with_reducible refine xf_lts (by assumption) (fun _ _ => ?_) | with_reducible refine xf_ltq (by assumption) (by omega) (fun _ _ => ?_) | with_reducible refine pf_b1 (fun _ => ?_) | with_reducible refine xf_ltv (fun _ => ?_)
theorem FX_in {X : Nat → Nat → Prop} {S0 S : SS} (h : FX X S0 S) : gq S0 178 4 = gq S 178 4 := h.2.symm
theorem fxl_setGap {X : Nat → Nat → Prop} {S0 : SS} (x_180 : ∀ k, X 180 k) (x_into : ∀ q, gq S0 178 4 = some q → X q 1) (rk : SS → Int → Int → Int → Option SS) (hrk : ∀ S a b c, FX X S0 S → pc (rk S a b c) (FX X S0)) (v1 v2 : Int) : ∀ (n : Nat) (S : SS) (v3_ : Int), FX X S0 S → pc (f_Setter_setGap_2 rk v1 v2 n S v3_) (FX X S0) := by
  intro n
  induction n with
  | zero => intro S v3_ h r e; exact absurd e (by simp [f_Setter_setGap_2])
  | succ n ih =>
    intro S v3_ h
    show pc (f_Setter_setGap_2_b rk v1 v2 (f_Setter_setGap_2 rk v1 v2 n) S v3_) _
    unfold f_Setter_setGap_2_b
    repeat' first | with_reducible exact ih _ _ (by assumption) | unfold f_Setter_setGap_95 | with_reducible exact pc_some (by assumption) | with_reducible exact pc_none | with_reducible refine pc_chk (fun _ => ?_) | with_reducible refine pc_if (fun _ => ?_) (fun _ => ?_) | with_reducible refine pc_on ?_ (fun _ _ => ?_) | with_reducible refine pc_b1 (fx_Setter_mind (x_180 := x_180) _ _ _ (by assumption)) (fun _ _ => ?_) | with_reducible refine pc_b1 (hrk _ _ _ _ (by assumption)) (fun _ _ => ?_) | with_reducible refine pc_b1 (fx_Sheet_addAll (x_q0 := x_into _ ((FX_in (by assumption)).trans (by assumption))) _ _ (by assumption)) (fun _ _ => ?_) | with_reducible refine pf_b1 (fun _ => ?_)
theorem fx_setPiece {X : Nat → Nat → Prop} {S0 : SS} (x_180 : ∀ k, X 180 k) (x_into : ∀ q, gq S0 178 4 = some q → X q 1) (rk : SS → Int → Int → Int → Option SS) (hrk : ∀ S a b c, FX X S0 S → pc (rk S a b c) (FX X S0)) (v1 v2 : Int) (S : SS) (h : FX X S0 S) : pc (f_Setter_setPiece rk S v1 v2) (fun u => FX X S0 u.2) := by
  unfold f_Setter_setPiece
  repeat' first | unfold f_Setter_setPiece_58 | with_reducible exact pc_some (by assumption) | with_reducible exact pc_none | with_reducible refine pc_chk (fun _ => ?_) | with_reducible refine pc_if (fun _ => ?_) (fun _ => ?_) | with_reducible refine pc_on ?_ (fun _ _ => ?_) | with_reducible refine pc_b1 (fx_Setter_mind (x_180 := x_180) _ _ _ (by assumption)) (fun _ _ => ?_) | with_reducible refine pc_b1 (hrk _ _ _ _ (by assumption)) (fun _ _ => ?_) | with_reducible refine pc_b1 (fx_Sheet_addAll (x_q0 := x_into _ ((FX_in (by assumption)).trans (by assumption))) _ _ (by assumption)) (fun _ _ => ?_) | with_reducible refine pc_b1 (fx_Sheet_add (x_q0 := x_into _ ((FX_in (by assumption)).trans (by assumption))) _ _ (by assumption)) (fun _ _ => ?_) | with_reducible refine pf_b1 (fun _ => ?_)
theorem fxl_setRowB {X : Nat → Nat → Prop} {S0 : SS} (x_180 : ∀ k, X 180 k) (x_into : ∀ q, gq S0 178 4 = some q → X q 1) (rk : SS → Int → Int → Int → Option SS) (hrk : ∀ S a b c, FX X S0 S → pc (rk S a b c) (FX X S0)) (v1 v2 v3 : Int) : ∀ (n : Nat) (S : SS) (v4_ v5_ : Int), FX X S0 S → pc (f_Setter_setRowB_13 rk v1 v2 v3 n S v4_ v5_) (FX X S0) := by
  intro n
  induction n with
  | zero => intro S v4_ v5_ h r e; exact absurd e (by simp [f_Setter_setRowB_13])
  | succ n ih =>
    intro S v4_ v5_ h
    show pc (f_Setter_setRowB_13_b rk v1 v2 v3 (f_Setter_setRowB_13 rk v1 v2 v3 n) S v4_ v5_) _
    unfold f_Setter_setRowB_13_b f_Setter_setGap
    repeat' first | with_reducible exact ih _ _ _ (by assumption) | unfold f_Setter_setRowB_42 | unfold f_Setter_setRowB_51 | with_reducible exact pc_some (by assumption) | with_reducible refine pc_chk (fun _ => ?_) | with_reducible refine pc_if (fun _ => ?_) (fun _ => ?_) | with_reducible refine pc_b1 (fxl_setGap x_180 x_into rk hrk _ _ FU _ _ (by assumption)) (fun _ _ => ?_) | with_reducible refine pc_b2 (fx_setPiece x_180 x_into rk hrk _ _ _ (by assumption)) (fun _ _ _ => ?_)
theorem fxl_setRow {X : Nat → Nat → Prop} {S0 : SS} (x_180 : ∀ k, X 180 k) (x_into : ∀ q, gq S0 178 4 = some q → X q 1) : ∀ (n : Nat) (S : SS) (a b c : Int), FX X S0 S → pc (f_Setter_setRow n S a b c) (FX X S0) := by
  intro n
  induction n with
  | zero => intro S a b c h r e; exact absurd e (by simp [f_Setter_setRow])
  | succ n ih =>
    intro S a b c h
    show pc (f_Setter_setRowB (f_Setter_setRow n) S a b c) _
    unfold f_Setter_setRowB
    exact pc_if (fun _ => fxl_setRowB x_180 x_into _ ih _ _ _ FU S _ _ h) (fun _ => pc_some h)
theorem fr_FX {X : Nat → Nat → Prop} {S0 S S1 : SS} (h : fr X S0 S) (h1 : FX X S S1) : fr X S0 S1 := fr_trans h h1.1
theorem fs_make {X : Nat → Nat → Prop} {S0 : SS} (x_180 : ∀ k, X 180 k) {q2 : Nat} (x_q2 : X q2 1) (S : SS) (q1 : Nat) (h : fr X S0 S) : pc (f_Setter_make S q1 q2) (fr X S0) := by
  unfold f_Setter_make f_Setter_make_44 f_Setter_setGap
  refine pc_lt (fun S1 e1 => pc_lt (fun S2 e2 => ?_))
  have g2 : gq S2 178 4 = some q2 := by rw [e2, gq_at]
  have f2 : fr X S0 S2 := by rw [e2, e1]; exact h
  rw [g2]
  have into : ∀ q, gq S2 178 4 = some q → X q 1 := by
    intro q e; rw [g2] at e; cases e; exact x_q2
  show pc (w_chk (shOk q2) _) _
  refine pc_chk (fun _ => xf_let (S0 := S2) (X := X) (fx_Sheet_clear x_q2 S2 (FX_refl X S2)) (fun S4 h4 => pc_on pc_none (fun q6 _ => pc_chk (fun _ => ?_))))
  have hr := fxl_setRow (S0 := S2) x_180 into 43
  have hg := fun v1 v2 => fxl_setGap (S0 := S2) x_180 into (f_Setter_setRow 43) hr v1 v2 FU
  refine pc_if (fun _ => pc_b1 (hg _ _ _ _ h4) (fun S5 h5 => pc_some (fr_FX f2 h5))) (fun _ => pc_b1 (hg _ _ _ _ h4) (fun S8 h8 => pc_chk (fun _ => pc_b1 (hr _ _ _ _ h8) (fun S11 h11 => pc_b1 (hg _ _ _ _ h11) (fun S12 h12 => pc_some (fr_FX f2 h12))))))
/-- what settling changes -/
abbrev XT (r k : Nat) : Prop := (r = 10 ∧ k = 5) ∨ r = 13 ∨ (14 ≤ r ∧ r < 174 ∧ r % 4 = 2 ∧ (k = 11 ∨ k = 12)) ∨ (r = 178 ∧ k = 2) ∨ r = 180 ∨ (r = 8 ∧ k = 1)
theorem fs_settle {X : Nat → Nat → Prop} (hX : ∀ r k, XT r k → X r k) (S0 S : SS) (h : fr X S0 S) : pc (f_MP_settle S) (fr X S0) := by
  unfold f_MP_settle
  refine pc_b1 (fx_Pile_decide (X := X) (S0 := S) (x_m_11 := fun j hj => hX _ _ (by omega)) (x_m_12 := fun j hj => hX _ _ (by omega)) (x_13 := fun k => hX _ _ (by omega)) (x_10_5 := hX _ _ (by omega)) S (FX_refl X S)) (fun S1 h1 => ?_)
  refine pc_b1 (fx_Setter_takeDone (X := X) (S0 := S1) (x_180 := fun k => hX _ _ (by omega)) (x_178_2 := hX _ _ (by omega)) S1 _ (FX_refl X S1)) (fun S3 h3 => ?_)
  exact pc_b1 (fs_make (fun k => hX _ _ (by omega)) (hX _ _ (by omega)) S3 4 (fr_FX (fr_FX h h1) h3)) (fun S5 h5 => pc_some h5)
/-- what holding changes -/
abbrev XW (r k : Nat) : Prop := (r = 178 ∧ k = 2) ∨ r = 180 ∨ r = 182 ∨ (r = 183 ∧ 7 ≤ k) ∨ (184 ≤ r ∧ r ≤ 189)
theorem fs_weigh (S0 : SS) : ∀ (n : Nat) (S : SS) (v6 v7 v8 v9 : Int), fr XW S0 S → pc (f_Holding_weigh_23 4 6 n S v6 v7 v8 v9) (fun u => fr XW S0 u.2) := by
  intro n
  induction n with
  | zero => intro S v6 v7 v8 v9 h r e; exact absurd e (by simp [f_Holding_weigh_23])
  | succ n ih =>
    intro S v6 v7 v8 v9 h
    have td : ∀ S' v, fr XW S0 S' → pc (f_Setter_takeDone S' v) (fr XW S0) := fun S' v h' => pc_mono (fx_Setter_takeDone (X := XW) (S0 := S') (x_180 := fun k => by omega) (x_178_2 := by omega) S' v (FX_refl XW S')) (fun _ h1 => fr_FX h' h1)
    have mk : ∀ S', fr XW S0 S' → pc (f_Setter_make S' 4 184) (fr XW S0) := fun S' h' => fs_make (fun k => by omega) (by omega) S' 4 h'
    have ms : ∀ S' a c d e f, fr XW S0 S' → pc (f_Ruler_measure S' a c d e f) (fun u => fr XW S0 u.2) := fun S' a c d e f h' => pc_mono (fx_Ruler_measure (X := XW) (S0 := S') (x_182 := fun k => by omega) S' a c d e f (FX_refl XW S')) (fun _ h1 => fr_FX h' h1)
    have lm : ∀ S', fr XW S0 S' → pc (f_Holding_listMissed S') (fr XW S0) := fun S' h' => pc_mono (fx_Holding_listMissed (X := XW) (S0 := S') (x_186 := fun k => by omega) (x_183_9 := by omega) S' (FX_refl XW S')) (fun _ h1 => fr_FX h' h1)
    have lc : ∀ S' q, fr XW S0 S' → pc (f_Holding_listChanges S' q) (fr XW S0) := fun S' q h' => pc_mono (fx_Holding_listChanges (X := XW) (S0 := S') (x_183_11 := by omega) (x_187 := fun k => by omega) (x_188 := fun k => by omega) (x_189 := fun k => by omega) (x_182 := fun k => by omega) S' q (FX_refl XW S')) (fun _ h1 => fr_FX h' h1)
    show pc (f_Holding_weigh_23_b 4 6 (f_Holding_weigh_23 4 6 n) S v6 v7 v8 v9) _
    unfold f_Holding_weigh_23_b
    repeat' first | with_reducible exact ih _ _ _ _ _ (by assumption) | unfold f_Holding_weigh_160 | unfold f_Holding_weigh_140 | with_reducible exact pc_some (by assumption) | with_reducible refine pc_chk (fun _ => ?_) | with_reducible refine pc_if (fun _ => ?_) (fun _ => ?_) | with_reducible refine pc_b1 (td _ _ (by assumption)) (fun _ _ => ?_) | with_reducible refine pc_b1 (mk _ (by assumption)) (fun _ _ => ?_) | with_reducible refine pc_b2 (ms _ _ _ _ _ _ (by assumption)) (fun _ _ _ => ?_) | with_reducible refine pc_b1 (lm _ (by assumption)) (fun _ _ => ?_) | with_reducible refine pc_b1 (lc _ _ (by assumption)) (fun _ _ => ?_) | with_reducible refine pf_lt (by assumption) (by omega) (fun _ _ => ?_) | with_reducible refine pf_b1 (fun _ => ?_)
theorem fs_hold (S : SS) : pc (f_MP_hold S) (fun u => fr XW S u.2) := by
  unfold f_MP_hold f_Holding_weigh
  exact pc_if (fun _ => pc_b2 (fs_weigh S FU S _ _ _ _ (fr_refl _ S)) (fun _ _ h => pc_some h)) (fun _ => pc_some (fr_refl _ S))
/-- what reading marks changes -/
abbrev XR (r k : Nat) : Prop := XT r k ∨ (r = 10 ∧ (k = 3 ∨ k = 4)) ∨ (14 ≤ r ∧ r < 174) ∨ r = 177 ∨ r = 3
theorem fs_marks (S : SS) : pc (f_MP_marks S) (fun u => fr (fun r k => XR r k ∨ (r = 1 ∧ k = 1)) S u.2 ∧ gi u.2 1 1 = 0) := by
  unfold f_MP_marks
  refine pc_b2 (fx_MarkReader_readMarks (X := XR) (S0 := S) (x_10_4 := by omega) (x_177_3 := by omega) (x_177_4 := by omega) (x_177_5 := by omega) (x_177_6 := by omega) (x_m_2 := fun j hj => by omega) (x_m_3 := fun j hj => by omega) (x_m_7 := fun j hj => by omega) (x_3_0 := by omega) (x_3_1 := by omega) (x_ms := fun j hj => by omega) (x_mn := fun j k hj => by omega) (x_m_6 := fun j hj => by omega) (x_m_5 := fun j hj => by omega) (x_m_4 := fun j hj => by omega) (x_m_8 := fun j hj => by omega) (x_m_9 := fun j hj => by omega) (x_m_10 := fun j hj => by omega) (x_m_11 := fun j hj => by omega) (x_m_12 := fun j hj => by omega) S _ (FX_refl XR S)) (fun r3 S2 h2 => pc_lt (fun S5 e5 => ?_))
  have f5 : fr (fun r k => XR r k ∨ (r = 1 ∧ k = 1)) S S5 := by rw [e5]; exact fr_si (fr_mono h2.1 (fun r k q => .inl q)) (.inr ⟨rfl, rfl⟩)
  have z5 : gi S5 1 1 = 0 := by rw [e5, gi_at]
  refine pc_if (fun _ => pc_some ⟨f5, z5⟩) (fun _ => pc_b2 (fx_Pile_accept (X := XR) (S0 := S5) (x_10_3 := by omega) (x_10_4 := by omega) (x_m_8 := fun j hj => by omega) (x_m_10 := fun j hj => by omega) S5 (FX_refl XR S5)) (fun r7 S6 h6 => pc_b1 (fs_settle (X := XR) (fun r k q => .inl q) S5 S6 h6.1) (fun S9 h9 => pc_some ⟨fr_trans f5 (fr_mono h9 (fun r k q => .inl q)), ?_⟩)))
  show gi S9 1 1 = 0
  rw [h9 1 1 (by omega)]; exact z5
theorem fs_answer (S : SS) (v1 v2 : Int) : pc (f_MP_answer S v1 v2) (fun u => fr XR S u.2) := by
  unfold f_MP_answer f_MP_answer_42
  have h0 := fr_refl XR S
  have st : ∀ S', fr XR S S' → pc (f_MP_settle S') (fr XR S) := fun S' h => fs_settle (fun r k q => .inl q) S S' h
  repeat' first | with_reducible exact pc_some (by assumption) | with_reducible refine pc_chk (fun _ => ?_) | with_reducible refine pc_if (fun _ => ?_) (fun _ => ?_) | with_reducible refine pc_on ?_ (fun _ _ => ?_) | with_reducible refine pc_b1 (st _ (by assumption)) (fun _ _ => ?_) | with_reducible refine pf_lt (by assumption) (by omega) (fun _ _ => ?_) | with_reducible refine pf_b1 (fun _ => ?_)
