def q_gap (M : q_MK) (rk : Int → Int → Int → List Nat) (g : Int) : Nat → Nat → List Nat
  | 0, _ => []
  | c + 1, k => (if q_us M k = 1 ∧ q_gp M k = g then (if q_kd M k = 1 then [60 + k] else rk (q_lo M k) (q_hi M k) (k : Int)) else []) ++ q_gap M rk g c (k + 1)
def q_pc (M : q_MK) (rk : Int → Int → Int → List Nat) (mv : Int) (k : Nat) : List Nat :=
  if q_kd M k = 2 then [60 + k] else if q_kd M k = 3 then rk (q_mi M k) (q_hi M k) mv ++ rk (q_lo M k) (q_mi M k - 1) mv else []
def q_loop (M : q_MK) (n : Nat) (rk : Int → Int → Int → List Nat) (low high mv : Int) : Nat → Int → List Nat
  | 0, _ => []
  | c + 1, i => if high < i then [] else (if low < i then q_gap M rk i n 0 else []) ++ (if q_om M high mv i n = -1 then [i.toNat] ++ q_loop M n rk low high mv c (i + 1) else q_pc M rk mv (q_om M high mv i n).toNat ++ q_loop M n rk low high mv c (q_hi M (q_om M high mv i n).toNat + 1))
def q_row (M : q_MK) (n : Nat) : Nat → Int → Int → Int → List Nat
  | 0 => fun _ _ _ => []
  | d + 1 => fun low high mv => q_loop M n (q_row M n d) low high mv 100 low
def q_all (M : q_MK) (n : Nat) (F : Int) : List Nat := q_gap M (q_row M n 43) 0 n 0 ++ (if F = 0 then [] else q_row M n 43 0 (F - 1) (-1) ++ q_gap M (q_row M n 43) F n 0)
def q_bel (M : q_MK) (n : Nat) (a b : Int) (t : Nat) : Prop := (t < 60 ∧ a ≤ (t : Int) ∧ (t : Int) ≤ b) ∨ (∃ k, t = 60 + k ∧ k < n ∧ q_us M k = 1 ∧ ((q_kd M k = 1 ∧ a < q_gp M k ∧ q_gp M k ≤ b) ∨ (q_kd M k = 2 ∧ a ≤ q_lo M k ∧ q_hi M k ≤ b)))
theorem q_bel_mono {M : q_MK} {n : Nat} {a b a' b' : Int} {t : Nat} (h : q_bel M n a b t) (h1 : a' ≤ a) (h2 : b ≤ b') : q_bel M n a' b' t := by
  rcases h with h | ⟨k, e, hk, hu, h⟩
  · exact .inl ⟨h.1, by omega, by omega⟩
  · exact .inr ⟨k, e, hk, hu, by omega⟩
theorem q_bel_meet {M : q_MK} {n : Nat} {F a b a' b' : Int} {t : Nat} (G : q_good M n F) (h : q_bel M n a b t) (h' : q_bel M n a' b' t) : a ≤ b' ∧ a' ≤ b := by
  rcases h with h | ⟨k, e, hk, hu, h⟩
  · rcases h' with h' | ⟨k', e', _⟩
    · omega
    · omega
  · rcases h' with h' | ⟨k', e', hk', hu', h'⟩
    · omega
    · have q : k' = k := by omega
      subst q
      have v := G.1 _ hk hu
      unfold q_val at v
      omega
def q_sG (M : q_MK) (n : Nat) (low high mv g : Int) (k t : Nat) : Prop := q_bd M n low high mv g ∧ k < n ∧ q_us M k = 1 ∧ q_gp M k = g ∧ ((q_kd M k = 1 ∧ t = 60 + k) ∨ (q_kd M k = 4 ∧ q_in M low high mv k ∧ q_bel M n (q_lo M k) (q_hi M k) t))
def q_sP (M : q_MK) (n : Nat) (low high mv j : Int) (t : Nat) : Prop := q_bd M n low high mv j ∧ low ≤ j ∧ j ≤ high ∧ ((q_om M high mv j n = -1 ∧ t = j.toNat) ∨ ∃ m, m < n ∧ q_om M high mv j n = (m : Int) ∧ ((q_kd M m = 2 ∧ t = 60 + m) ∨ (q_kd M m = 3 ∧ q_bel M n (q_lo M m) (q_hi M m) t)))
theorem q_dGG {M : q_MK} {n : Nat} {F low high mv g g' : Int} {k k' t : Nat} (G : q_good M n F) (h : q_sG M n low high mv g k t) (h' : q_sG M n low high mv g' k' t) (ne : k ≠ k') : False := by
  obtain ⟨B, hk, hu, hg, h⟩ := h
  obtain ⟨B', hk', hu', hg', h'⟩ := h'
  have v := G.1 k hk hu
  have v' := G.1 k' hk' hu'
  rcases h with h | h
  · rcases h' with h' | h'
    · omega
    · have := B k' hk' hu' (by omega) h'.2.1
      rcases h'.2.2 with c | ⟨p, e, _, _, c⟩
      · omega
      · have q : p = k := by omega
        subst q; omega
  · rcases h' with h' | h'
    · have := B' k hk hu (by omega) h.2.1
      rcases h.2.2 with c | ⟨p, e, _, _, c⟩
      · omega
      · have q : p = k' := by omega
        subst q; omega
    · have o := q_bel_meet G h.2.2 h'.2.2
      have b1 := B k' hk' hu' (by omega) h'.2.1
      have b2 := B' k hk hu (by omega) h.2.1
      unfold q_val at v v'
      rcases G.2 k k' hk hk' ne hu hu' with p | p | p
      · omega
      · omega
      · exact p.1 ⟨by omega, by omega, by omega, by omega⟩
theorem q_dGP {M : q_MK} {n : Nat} {F low high mv g j : Int} {k t : Nat} (G : q_good M n F) (hF : F ≤ 60) (hh : high < F) (hl : 0 ≤ low) (h : q_sG M n low high mv g k t) (h' : q_sP M n low high mv j t) : False := by
  obtain ⟨B, hk, hu, hg, h⟩ := h
  obtain ⟨B', j1, j2, h'⟩ := h'
  have v := G.1 k hk hu
  unfold q_val at v
  have sp := q_om_spec M high mv j n
  rcases h' with h' | ⟨m, hm, e, h'⟩
  · rcases sp with ⟨e1, c⟩ | ⟨m', hm', e1, _⟩
    · rcases h with h | h
      · omega
      · have b := B' k hk hu (by omega) h.2.1
        rcases h.2.2 with d | ⟨p, e, _⟩
        · exact c k hk ⟨hu, by omega, h.2.1.1, by omega, h.2.1.2.2⟩
        · omega
    · omega
  · rcases sp with ⟨e1, _⟩ | ⟨m', hm', e1, c, cm⟩
    · omega
    have q : m' = m := by omega
    subst q
    have im : q_in M low high mv m' := ⟨c.2.2.1, by omega, c.2.2.2.2⟩
    have bm := B m' hm c.1 c.2.1 im
    have vm := G.1 m' hm c.1
    unfold q_val at vm
    rcases h with h | h
    · rcases h' with h' | h'
      · have q : m' = k := by omega
        subst q; omega
      · rcases h'.2 with d | ⟨p, e, _, _, d⟩
        · omega
        · have q : p = k := by omega
          subst q; omega
    · have bk := B' k hk hu (by omega) h.2.1
      have ck : q_lo M k = j → q_hi M k < q_hi M m' ∨ (q_hi M k = q_hi M m' ∧ (q_kd M k ≠ 4 ∨ q_kd M m' = 4)) := fun q => cm k hk ⟨hu, by omega, h.2.1.1, q, h.2.1.2.2⟩
      rcases h' with h' | h'
      · rcases h.2.2 with d | ⟨p, e, _, _, d⟩
        · omega
        · have q : p = m' := by omega
          subst q; omega
      · have o := q_bel_meet G h.2.2 h'.2
        have ne : k ≠ m' := by intro q; subst q; omega
        rcases G.2 k m' hk hm ne hu c.1 with p | p | p
        · omega
        · omega
        · exact p.1 ⟨by omega, by omega, by omega, by omega⟩
theorem q_sP_bel {M : q_MK} {n : Nat} {F low high mv j : Int} {t : Nat} (G : q_good M n F) (hF : F ≤ 60) (hh : high < F) (hl : 0 ≤ low) (h : q_sP M n low high mv j t) : q_bel M n j (if q_om M high mv j n = -1 then j else q_hi M (q_om M high mv j n).toNat) t := by
  obtain ⟨B', j1, j2, h'⟩ := h
  have sp := q_om_spec M high mv j n
  rcases h' with h' | ⟨m, hm, e, h'⟩
  · rw [if_pos h'.1, h'.2]
    exact .inl ⟨by omega, by omega, by omega⟩
  · rcases sp with ⟨e1, _⟩ | ⟨m', hm', e1, c, cm⟩
    · omega
    have q : m' = m := by omega
    subst q
    rw [if_neg (by omega), e1, Int.toNat_natCast]
    rcases h' with h' | h'
    · exact .inr ⟨m', h'.2, hm', c.1, .inr ⟨h'.1, by omega, by omega⟩⟩
    · exact q_bel_mono h'.2 (by omega) (by omega)
theorem q_dBB {M : q_MK} {n : Nat} {F a b a' b' : Int} {t : Nat} (G : q_good M n F) (h : q_bel M n a b t) (h' : q_bel M n a' b' t) (hb : b < a') : False := by
  have := q_bel_meet G h h'; omega
theorem q_gap_mem {M : q_MK} {rk : Int → Int → Int → List Nat} {g : Int} : ∀ (c k t : Nat), t ∈ q_gap M rk g c k → ∃ j, k ≤ j ∧ j < k + c ∧ q_us M j = 1 ∧ q_gp M j = g ∧ ((q_kd M j = 1 ∧ t = 60 + j) ∨ (q_kd M j ≠ 1 ∧ t ∈ rk (q_lo M j) (q_hi M j) (j : Int))) := by
  intro c
  induction c with
  | zero => intro k t h; exact absurd h (by simp [q_gap])
  | succ c ih =>
    intro k t h
    rw [q_gap, List.mem_append] at h
    rcases h with h | h
    · by_cases e : q_us M k = 1 ∧ q_gp M k = g
      · rw [if_pos e] at h
        refine ⟨k, by omega, by omega, e.1, e.2, ?_⟩
        by_cases e2 : q_kd M k = 1
        · rw [if_pos e2] at h; exact .inl ⟨e2, by simpa using h⟩
        · rw [if_neg e2] at h; exact .inr ⟨e2, h⟩
      · rw [if_neg e] at h; simp at h
    · obtain ⟨j, j1, j2, j3⟩ := ih (k + 1) t h
      exact ⟨j, by omega, by omega, j3⟩
abbrev q_RK (M : q_MK) (n : Nat) (F : Int) (rk : Int → Int → Int → List Nat) : Prop := ∀ low high mv, q_reg M n F low high mv → (rk low high mv).Nodup ∧ ∀ t, t ∈ rk low high mv → q_bel M n low high t
theorem q_gap_src {M : q_MK} {n : Nat} {F low high mv g : Int} {rk : Int → Int → Int → List Nat} (G : q_good M n F) (K : q_RK M n F rk) (B : q_bd M n low high mv g) (hin : ∀ k, k < n → q_us M k = 1 → q_gp M k = g → q_kd M k = 1 ∨ (q_kd M k = 4 ∧ q_in M low high mv k)) {c k t : Nat} (hc : k + c ≤ n) (h : t ∈ q_gap M rk g c k) : ∃ j, k ≤ j ∧ q_sG M n low high mv g j t := by
  obtain ⟨j, j1, j2, hu, hg, h⟩ := q_gap_mem c k t h
  refine ⟨j, j1, B, by omega, hu, hg, ?_⟩
  rcases h with h | h
  · exact .inl h
  · rcases hin j (by omega) hu hg with q | q
    · exact absurd q h.1
    · exact .inr ⟨q.1, q.2, (K _ _ _ (q_reg_move G (by omega) hu q.1)).2 t h.2⟩
theorem q_gap_nodup {M : q_MK} {n : Nat} {F low high mv g : Int} {rk : Int → Int → Int → List Nat} (G : q_good M n F) (K : q_RK M n F rk) (B : q_bd M n low high mv g) (hin : ∀ k, k < n → q_us M k = 1 → q_gp M k = g → q_kd M k = 1 ∨ (q_kd M k = 4 ∧ q_in M low high mv k)) : ∀ (c k : Nat), k + c ≤ n → (q_gap M rk g c k).Nodup := by
  intro c
  induction c with
  | zero => intro k _; simp [q_gap]
  | succ c ih =>
    intro k hc
    rw [q_gap, List.nodup_append]
    refine ⟨?_, ih (k + 1) (by omega), fun a ha b hb e => ?_⟩
    · by_cases e : q_us M k = 1 ∧ q_gp M k = g
      · rw [if_pos e]
        by_cases e2 : q_kd M k = 1
        · rw [if_pos e2]; simp
        · rw [if_neg e2]
          rcases hin k (by omega) e.1 e.2 with q | q
          · exact absurd q e2
          · exact (K _ _ _ (q_reg_move G (by omega) e.1 q.1)).1
      · rw [if_neg e]; simp
    · subst e
      obtain ⟨j, j1, sj⟩ := q_gap_src G K B hin (c := c) (k := k + 1) (by omega) hb
      have ha' : a ∈ q_gap M rk g 1 k := by
        rw [q_gap, q_gap, List.append_nil]; exact ha
      obtain ⟨j', j1', j2', hu', hg', h'⟩ := q_gap_mem 1 k a ha'
      have q : j' = k := by omega
      subst q
      have s' : q_sG M n low high mv g j' a := by
        refine ⟨B, by omega, hu', hg', ?_⟩
        rcases h' with h' | h'
        · exact .inl h'
        · rcases hin j' (by omega) hu' hg' with q | q
          · exact absurd q h'.1
          · exact .inr ⟨q.1, q.2, (K _ _ _ (q_reg_move G (by omega) hu' q.1)).2 _ h'.2⟩
      exact q_dGG G s' sj (by omega)
theorem q_in_mv {M : q_MK} {n : Nat} {low high mv i : Int} (hl : low ≤ i) (B : q_bd M n low high mv i) {m : Nat} (hm : m < n) (c : q_cand M high mv i m) (km : q_kd M m = 3) (cm : ∀ k, k < n → q_cand M high mv i k → q_hi M k < q_hi M m ∨ (q_hi M k = q_hi M m ∧ (q_kd M k ≠ 4 ∨ q_kd M m = 4))) : ∀ k, k < n → q_us M k = 1 → q_kd M k = 4 → q_in M low high mv k → q_lo M m ≤ q_hi M m → ¬ (q_lo M k ≤ q_lo M m ∧ q_hi M m ≤ q_hi M k) := by
  intro k hk hu hk4 hi hr q
  have b := B k hk hu (by omega) hi
  have := cm k hk ⟨hu, by omega, hi.1, by omega, hi.2.2⟩
  omega
theorem q_loop_src {M : q_MK} {n : Nat} {F low high mv : Int} {rk : Int → Int → Int → List Nat} (G : q_good M n F) (hF : F ≤ 60) (R : q_reg M n F low high mv) (K : q_RK M n F rk) : ∀ (c : Nat) (i : Int), low ≤ i → q_bd M n low high mv i → (q_loop M n rk low high mv c i).Nodup ∧ ∀ t, t ∈ q_loop M n rk low high mv c i → (∃ g k, i ≤ g ∧ low < g ∧ g ≤ high ∧ q_sG M n low high mv g k t) ∨ (∃ j, i ≤ j ∧ q_sP M n low high mv j t) := by
  intro c
  induction c with
  | zero => intro i _ _; exact ⟨by simp [q_loop], fun t h => absurd h (by simp [q_loop])⟩
  | succ c ih =>
    intro i hl B
    rw [q_loop]
    by_cases h : high < i
    · rw [if_pos h]; exact ⟨by simp, fun t h => absurd h (by simp)⟩
    rw [if_neg h]
    have hr := R
    obtain ⟨r1, r2, r3, r4, r5⟩ := hr
    have hG : (if low < i then q_gap M rk i n 0 else []).Nodup ∧ ∀ t, t ∈ (if low < i then q_gap M rk i n 0 else []) → low < i ∧ ∃ k, q_sG M n low high mv i k t := by
      by_cases e : low < i
      · rw [if_pos e]
        have hin : ∀ k, k < n → q_us M k = 1 → q_gp M k = i → q_kd M k = 1 ∨ (q_kd M k = 4 ∧ q_in M low high mv k) := fun k hk hu hg => r4 k hk hu (by omega) (by omega)
        refine ⟨q_gap_nodup G K B hin n 0 (by omega), fun t ht => ⟨e, ?_⟩⟩
        obtain ⟨j, _, sj⟩ := q_gap_src G K B hin (c := n) (k := 0) (by omega) ht
        exact ⟨j, sj⟩
      · rw [if_neg e]; exact ⟨by simp, fun t h => absurd h (by simp)⟩
    have key : ∀ (P L : List Nat) (i' : Int), i < i' → (i' = (if q_om M high mv i n = -1 then i else q_hi M (q_om M high mv i n).toNat) + 1) → P.Nodup → (∀ t, t ∈ P → q_sP M n low high mv i t) → (L.Nodup ∧ ∀ t, t ∈ L → (∃ g k, i' ≤ g ∧ low < g ∧ g ≤ high ∧ q_sG M n low high mv g k t) ∨ (∃ j, i' ≤ j ∧ q_sP M n low high mv j t)) → ((if low < i then q_gap M rk i n 0 else []) ++ (P ++ L)).Nodup ∧ ∀ t, t ∈ ((if low < i then q_gap M rk i n 0 else []) ++ (P ++ L)) → (∃ g k, i ≤ g ∧ low < g ∧ g ≤ high ∧ q_sG M n low high mv g k t) ∨ (∃ j, i ≤ j ∧ q_sP M n low high mv j t) := by
      intro P L i' hi ei hP sP hL
      refine ⟨?_, ?_⟩
      · rw [List.nodup_append, List.nodup_append]
        refine ⟨hG.1, ⟨hP, hL.1, fun a ha b hb e => ?_⟩, fun a ha b hb e => ?_⟩
        · subst e
          rcases hL.2 a hb with ⟨g, k, g1, g2, g3, sg⟩ | ⟨j, j1, sj⟩
          · exact q_dGP G hF r2 r1 sg (sP a ha)
          · exact q_dBB G (q_sP_bel G hF r2 r1 (sP a ha)) (q_sP_bel G hF r2 r1 sj) (by omega)
        · subst e
          obtain ⟨_, k, sk⟩ := hG.2 a ha
          rcases List.mem_append.1 hb with hb | hb
          · exact q_dGP G hF r2 r1 sk (sP a hb)
          · rcases hL.2 a hb with ⟨g, k', g1, g2, g3, sg⟩ | ⟨j, j1, sj⟩
            · refine q_dGG G sk sg (fun q => ?_)
              subst q
              have := sk.2.2.2.1
              have := sg.2.2.2.1
              omega
            · exact q_dGP G hF r2 r1 sk sj
      · intro t ht
        rcases List.mem_append.1 ht with ht | ht
        · obtain ⟨e, k, sk⟩ := hG.2 t ht
          exact .inl ⟨i, k, by omega, e, by omega, sk⟩
        · rcases List.mem_append.1 ht with ht | ht
          · exact .inr ⟨i, by omega, sP t ht⟩
          · rcases hL.2 t ht with ⟨g, k', g1, g2⟩ | ⟨j, j1, sj⟩
            · exact .inl ⟨g, k', by omega, g2⟩
            · exact .inr ⟨j, by omega, sj⟩
    rcases q_om_spec M high mv i n with ⟨e0, g0⟩ | ⟨m, hm, e0, c0, g0⟩
    · rw [if_pos e0]
      refine key _ _ (i + 1) (by omega) (by rw [if_pos e0]) (by simp) (fun t ht => ?_) (ih (i + 1) (by omega) (q_bd_word B e0))
      exact ⟨B, hl, by omega, .inl ⟨e0, by simpa using ht⟩⟩
    · rw [if_neg (show ¬ q_om M high mv i n = -1 by omega), e0, Int.toNat_natCast]
      have vm := G.1 m hm c0.1
      unfold q_val at vm
      have im : q_in M low high mv m := ⟨c0.2.2.1, by omega, c0.2.2.2.2⟩
      refine key _ _ (q_hi M m + 1) (by omega) (by rw [if_neg (by omega), e0, Int.toNat_natCast]) ?_ ?_ (ih (q_hi M m + 1) (by omega) (q_bd_next G B hl hm c0 g0))
      · unfold q_pc
        by_cases k2 : q_kd M m = 2
        · rw [if_pos k2]; simp
        rw [if_neg k2]
        by_cases k3 : q_kd M m = 3
        · rw [if_pos k3]
          have mvk := q_in_mv hl B hm c0 k3 g0
          have R1 := q_reg_turn G R hm c0.1 k3 im (fun k a b c d => mvk k a b c d (by omega)) (a := q_mi M m) (b := q_hi M m) (.inr ⟨rfl, rfl⟩)
          have R2 := q_reg_turn G R hm c0.1 k3 im (fun k a b c d => mvk k a b c d (by omega)) (a := q_lo M m) (b := q_mi M m - 1) (.inl ⟨rfl, rfl⟩)
          rw [List.nodup_append]
          refine ⟨(K _ _ _ R1).1, (K _ _ _ R2).1, fun a ha b hb e => ?_⟩
          subst e
          exact q_dBB G ((K _ _ _ R2).2 _ hb) ((K _ _ _ R1).2 _ ha) (by omega)
        · rw [if_neg k3]; simp
      · intro t ht
        refine ⟨B, hl, by omega, .inr ⟨m, hm, e0, ?_⟩⟩
        unfold q_pc at ht
        by_cases k2 : q_kd M m = 2
        · rw [if_pos k2] at ht; exact .inl ⟨k2, by simpa using ht⟩
        rw [if_neg k2] at ht
        by_cases k3 : q_kd M m = 3
        · rw [if_pos k3] at ht
          have mvk := q_in_mv hl B hm c0 k3 g0
          have R1 := q_reg_turn G R hm c0.1 k3 im (fun k a b c d => mvk k a b c d (by omega)) (a := q_mi M m) (b := q_hi M m) (.inr ⟨rfl, rfl⟩)
          have R2 := q_reg_turn G R hm c0.1 k3 im (fun k a b c d => mvk k a b c d (by omega)) (a := q_lo M m) (b := q_mi M m - 1) (.inl ⟨rfl, rfl⟩)
          right; refine ⟨k3, ?_⟩
          rcases List.mem_append.1 ht with ht | ht
          · exact q_bel_mono ((K _ _ _ R1).2 _ ht) (by omega) (by omega)
          · exact q_bel_mono ((K _ _ _ R2).2 _ ht) (by omega) (by omega)
        · rw [if_neg k3] at ht; simp at ht
theorem q_row_ok {M : q_MK} {n : Nat} {F : Int} (G : q_good M n F) (hF : F ≤ 60) : ∀ d, q_RK M n F (q_row M n d) := by
  intro d
  induction d with
  | zero => intro low high mv _; exact ⟨by simp [q_row], fun t h => absurd h (by simp [q_row])⟩
  | succ d ih =>
    intro low high mv R
    have := q_loop_src G hF R ih 100 low (by omega) q_bd_low
    refine ⟨this.1, fun t ht => ?_⟩
    have hr := R
    obtain ⟨r1, r2, r3, r4, r5⟩ := hr
    rcases this.2 t ht with ⟨g, k, g1, g2, g3, B, hk, hu, hg, q⟩ | ⟨j, j1, sj⟩
    · rcases q with q | q
      · exact .inr ⟨k, q.2, hk, hu, .inl ⟨q.1, by omega, by omega⟩⟩
      · exact q_bel_mono q.2.2 q.2.1.2.1 q.2.1.2.2
    · have hb := q_sP_bel G hF r2 r1 sj
      refine q_bel_mono hb (by omega) ?_
      have := sj.2.2.1
      rcases q_om_spec M high mv j n with ⟨e0, g0⟩ | ⟨m, hm, e0, c0, g0⟩
      · rw [if_pos e0]; exact this
      · rw [if_neg (by omega), e0, Int.toNat_natCast]; exact c0.2.2.2.2
theorem q_all_ok {M : q_MK} {n : Nat} {F : Int} (G : q_good M n F) (hF : F ≤ 60) (hF0 : 0 ≤ F) (hn : n ≤ 40) : (q_all M n F).Nodup ∧ ∀ t, t ∈ q_all M n F → t < 100 := by
  have K := q_row_ok G hF 43
  have R := q_reg_top G
  have hr := R
  obtain ⟨r1, r2, r3, r4, r5⟩ := hr
  have hB : ∀ g : Int, (g = 0 ∨ g = F) → q_bd M n 0 (F - 1) (-1) g := by
    intro g hg k hk hu hr hi q
    have v := G.1 k hk hu
    unfold q_val at v
    omega
  have hin : ∀ g : Int, ∀ k, k < n → q_us M k = 1 → q_gp M k = g → 0 ≤ g → q_kd M k = 1 ∨ (q_kd M k = 4 ∧ q_in M 0 (F - 1) (-1) k) := by
    intro g k hk hu hg h0
    have v := G.1 k hk hu
    unfold q_val at v
    rcases v with v | v | v | v
    · omega
    · exact .inl v.1
    · omega
    · exact .inr ⟨v.1, by omega, by omega, by omega⟩
  have sG : ∀ g : Int, (g = 0 ∨ g = F) → ∀ t, t ∈ q_gap M (q_row M n 43) g n 0 → ∃ k, q_sG M n 0 (F - 1) (-1) g k t := by
    intro g hg t ht
    obtain ⟨j, _, sj⟩ := q_gap_src G K (hB g hg) (fun k a b c => hin g k a b c (by omega)) (c := n) (k := 0) (by omega) ht
    exact ⟨j, sj⟩
  have lG : ∀ g k t, q_sG M n 0 (F - 1) (-1) g k t → t < 100 := by
    intro g k t s
    rcases s.2.2.2.2 with q | q
    · have := s.2.1; omega
    · rcases q.2.2 with q | ⟨p, e, hp, _⟩ <;> omega
  have nG : ∀ g : Int, (g = 0 ∨ g = F) → (q_gap M (q_row M n 43) g n 0).Nodup := fun g hg => q_gap_nodup G K (hB g hg) (fun k a b c => hin g k a b c (by omega)) n 0 (by omega)
  have hL := q_loop_src G hF R (q_row_ok G hF 42) 100 0 (by omega) q_bd_low
  have lL : ∀ t, t ∈ q_row M n 43 0 (F - 1) (-1) → t < 100 := by
    intro t ht
    rcases (K 0 (F - 1) (-1) R).2 t ht with q | ⟨p, e, hp, _⟩ <;> omega
  unfold q_all
  by_cases e : F = 0
  · rw [if_pos e, List.append_nil]
    refine ⟨nG 0 (.inl rfl), fun t ht => ?_⟩
    obtain ⟨k, sk⟩ := sG 0 (.inl rfl) t ht
    exact lG _ _ _ sk
  · rw [if_neg e]
    refine ⟨?_, fun t ht => ?_⟩
    · rw [List.nodup_append, List.nodup_append]
      refine ⟨nG 0 (.inl rfl), ⟨hL.1, nG F (.inr rfl), fun a ha b hb q => ?_⟩, fun a ha b hb q => ?_⟩
      · subst q
        obtain ⟨k, sk⟩ := sG F (.inr rfl) a hb
        rcases hL.2 a ha with ⟨g, k', g1, g2, g3, sg⟩ | ⟨j, j1, sj⟩
        · refine q_dGG G sk sg (fun q => ?_)
          subst q
          have := sk.2.2.2.1
          have := sg.2.2.2.1
          omega
        · exact q_dGP G hF r2 r1 sk sj
      · subst q
        obtain ⟨k, sk⟩ := sG 0 (.inl rfl) a ha
        rcases List.mem_append.1 hb with hb | hb
        · rcases hL.2 a hb with ⟨g, k', g1, g2, g3, sg⟩ | ⟨j, j1, sj⟩
          · refine q_dGG G sk sg (fun q => ?_)
            subst q
            have := sk.2.2.2.1
            have := sg.2.2.2.1
            omega
          · exact q_dGP G hF r2 r1 sk sj
        · obtain ⟨k', sk'⟩ := sG F (.inr rfl) a hb
          refine q_dGG G sk sk' (fun q => ?_)
          subst q
          have := sk.2.2.2.1
          have := sk'.2.2.2.1
          omega
    · rcases List.mem_append.1 ht with ht | ht
      · obtain ⟨k, sk⟩ := sG 0 (.inl rfl) t ht
        exact lG _ _ _ sk
      · rcases List.mem_append.1 ht with ht | ht
        · exact lL t ht
        · obtain ⟨k, sk⟩ := sG F (.inr rfl) t ht
          exact lG _ _ _ sk
def q_wt (W : Nat → Nat) : List Nat → Nat
  | [] => 0
  | t :: L => W t + q_wt W L
theorem q_wt_append (W : Nat → Nat) (A B : List Nat) : q_wt W (A ++ B) = q_wt W A + q_wt W B := by
  induction A with
  | nil => simp [q_wt]
  | cons a A ih => simp only [List.cons_append, q_wt, ih]; omega
def q_tot (W : Nat → Nat) : Nat → Nat
  | 0 => 0
  | n + 1 => q_tot W n + W n
theorem q_wt_filter (W : Nat → Nat) (n : Nat) : ∀ L : List Nat, L.Nodup → q_wt W L ≤ q_wt W (L.filter (fun t => decide (t ≠ n))) + W n ∧ (n ∉ L → q_wt W L = q_wt W (L.filter (fun t => decide (t ≠ n)))) := by
  intro L
  induction L with
  | nil => intro _; simp [q_wt]
  | cons a L ih =>
    intro h
    rw [List.nodup_cons] at h
    have ih := ih h.2
    by_cases e : a = n
    · subst e
      have := ih.2 h.1
      refine ⟨?_, fun q => absurd (List.mem_cons_self) q⟩
      rw [List.filter_cons_of_neg (by simp), q_wt]
      omega
    · rw [List.filter_cons_of_pos (by simpa using e), q_wt, q_wt]
      refine ⟨by omega, fun q => ?_⟩
      have := ih.2 (fun r => q (List.mem_cons_of_mem _ r))
      omega
theorem q_wt_le (W : Nat → Nat) : ∀ (n : Nat) (L : List Nat), L.Nodup → (∀ t, t ∈ L → t < n) → q_wt W L ≤ q_tot W n := by
  intro n
  induction n with
  | zero =>
    intro L _ h
    cases L with
    | nil => simp [q_wt]
    | cons a L => exact absurd (h a List.mem_cons_self) (Nat.not_lt_zero a)
  | succ n ih =>
    intro L hn h
    have h1 := (q_wt_filter W n L hn).1
    have h2 := ih (L.filter (fun t => decide (t ≠ n))) (hn.sublist List.filter_sublist) (fun t ht => by
      rw [List.mem_filter] at ht
      have := h t ht.1
      have : t ≠ n := by simpa using ht.2
      omega)
    rw [q_tot]; omega
theorem q_tot_le (W : Nat → Nat) (h1 : ∀ t, t < 60 → W t ≤ 1) (h2 : ∀ t, W t ≤ 6) : ∀ n, q_tot W (60 + n) ≤ 60 + 6 * n := by
  intro n
  induction n with
  | zero =>
    have : ∀ m, m ≤ 60 → q_tot W m ≤ m := by
      intro m
      induction m with
      | zero => intro _; exact Nat.le_refl _
      | succ m ih => intro hm; rw [q_tot]; have := ih (by omega); have := h1 m (by omega); omega
    exact this 60 (by omega)
  | succ n ih => show q_tot W (60 + n) + W (60 + n) ≤ _; have := h2 (60 + n); omega
theorem q_all_wt {M : q_MK} {n : Nat} {F : Int} (G : q_good M n F) (hF : F ≤ 60) (hF0 : 0 ≤ F) (hn : n ≤ 40) (W : Nat → Nat) (h1 : ∀ t, t < 60 → W t ≤ 1) (h2 : ∀ t, W t ≤ 6) : q_wt W (q_all M n F) ≤ 300 := by
  have h := q_all_ok G hF hF0 hn
  have a := q_wt_le W 100 _ h.1 h.2
  have b : q_tot W 100 ≤ 60 + 6 * 40 := q_tot_le W h1 h2 40
  omega
abbrev q_deep (M : q_MK) (low high mv : Int) (k : Nat) : Prop := q_us M k = 1 ∧ (q_kd M k = 3 ∨ q_kd M k = 4) ∧ q_in M low high mv k
def q_cnt (M : q_MK) (low high mv : Int) : Nat → Nat
  | 0 => 0
  | k + 1 => q_cnt M low high mv k + if q_deep M low high mv k then 1 else 0
theorem q_cnt_le (M : q_MK) (low high mv : Int) : ∀ n, q_cnt M low high mv n ≤ n := by
  intro n
  induction n with
  | zero => exact Nat.le_refl _
  | succ n ih => rw [q_cnt]; split <;> omega
theorem q_cnt_mono {M : q_MK} {low high mv low' high' mv' : Int} : ∀ n, (∀ k, k < n → q_deep M low' high' mv' k → q_deep M low high mv k) → q_cnt M low' high' mv' n ≤ q_cnt M low high mv n := by
  intro n
  induction n with
  | zero => intro _; exact Nat.le_refl _
  | succ n ih =>
    intro h
    have := ih (fun k hk => h k (by omega))
    rw [q_cnt, q_cnt]
    by_cases e : q_deep M low' high' mv' n
    · rw [if_pos e, if_pos (h n (by omega) e)]; omega
    · rw [if_neg e]; omega
theorem q_cnt_lt {M : q_MK} {low high mv low' high' mv' : Int} : ∀ n, (∀ k, k < n → q_deep M low' high' mv' k → q_deep M low high mv k) → ∀ m, m < n → q_deep M low high mv m → ¬ q_deep M low' high' mv' m → q_cnt M low' high' mv' n < q_cnt M low high mv n := by
  intro n
  induction n with
  | zero => intro _ m hm; exact absurd hm (Nat.not_lt_zero m)
  | succ n ih =>
    intro h m hm d1 d2
    rw [q_cnt, q_cnt]
    by_cases e : m = n
    · subst e
      have := q_cnt_mono m (fun k hk => h k (by omega))
      rw [if_pos d1, if_neg d2]; omega
    · have := ih (fun k hk => h k (by omega)) m (by omega) d1 d2
      by_cases e : q_deep M low' high' mv' n
      · rw [if_pos e, if_pos (h n (by omega) e)]; omega
      · rw [if_neg e]; omega
theorem q_cnt_move {M : q_MK} {n : Nat} {F low high mv : Int} (G : q_good M n F) (R : q_mvk M n low high mv) {m : Nat} (hm : m < n) (um : q_us M m = 1) (km : q_kd M m = 4) (im : q_in M low high mv m) : q_cnt M (q_lo M m) (q_hi M m) (m : Int) n < q_cnt M low high mv n := by
  refine q_cnt_lt n (fun k hk d => ⟨d.1, d.2.1, ?_, by omega, by omega⟩) m hm ⟨um, .inr km, im⟩ (fun d => d.2.2.1 rfl)
  intro e
  rcases R with r | ⟨m', m1, m2, m3, m4, m5, m6⟩
  · omega
  · have q : m' = k := by omega
    subst q
    have v := G.1 m' hk d.1
    have vm := G.1 m hm um
    unfold q_val at v vm
    have ne : m' ≠ m := by intro q; subst q; exact im.1 e
    rcases G.2 m' m hk hm ne d.1 um with p | p | p
    · omega
    · omega
    · exact p.1 ⟨by omega, by omega, by omega, by omega⟩
theorem q_cnt_turn {M : q_MK} {n : Nat} {F low high mv : Int} (G : q_good M n F) {t : Nat} (ht : t < n) (ut : q_us M t = 1) (kt : q_kd M t = 3) (it : q_in M low high mv t) {a b : Int} (hab : (a = q_lo M t ∧ b = q_mi M t - 1) ∨ (a = q_mi M t ∧ b = q_hi M t)) : q_cnt M a b mv n < q_cnt M low high mv n := by
  have vt := G.1 t ht ut
  unfold q_val at vt
  refine q_cnt_lt n (fun k hk d => ⟨d.1, d.2.1, d.2.2.1, by omega, by omega⟩) t ht ⟨ut, .inl kt, it⟩ (fun d => by omega)
