def c_ok (S : SS) : Prop := (∀ k, k < 40 → gq S 11 k = some k) ∧ 0 ≤ gi S 10 3 ∧ gi S 10 3 ≤ 40 ∧ (∀ k : Nat, (k : Int) < gi S 10 3 → 0 ≤ gi S (14 + 4 * k) 3 ∧ gi S (14 + 4 * k) 3 ≤ 2) ∧ (∀ k : Nat, (k : Int) < gi S 10 3 → gi S (14 + 4 * k) 2 ≠ 5 → c_sh S k)
def c_js (S0 S : SS) (st : Nat → Int) (r : Int) (k : Nat) : Prop := fr XDC S0 S ∧ S.2 = S0.2 ∧ (∀ j : Nat, (j : Int) < gi S0 10 3 → gi S (14 + 4 * j) 11 = st j) ∧ j_ok (q_nm (c_md S0)) (gi S0 10 3).toNat (fun k => gi S0 (14 + 4 * k) 2 = 5) st ∧ (∀ j : Nat, (j : Int) < gi S0 10 3 → (r < c_rk S0 j ∨ (r = c_rk S0 j ∧ k ≤ j)) → st j = c_s0 S0 j)
theorem c_asks (S : SS) (k : Nat) : (f_Mark_asks S k = 0 ∧ c_s0 S k ≠ 1) ∨ (f_Mark_asks S k = 1 ∧ c_s0 S k = 1) := by
  unfold f_Mark_asks c_s0
  repeat' split
  all_goals first | (left; refine ⟨rfl, ?_⟩; decide) | (right; exact ⟨rfl, rfl⟩)
theorem cs0_fr {S S1 : SS} (h : fr XDC S S1) (k : Nat) : c_s0 S1 k = c_s0 S k := by
  unfold c_s0
  rw [h (14 + 4 * k) 2 (by omega), h (14 + 4 * k) 7 (by omega), h (14 + 4 * k) 8 (by omega)]
theorem gi_mk_off {S : SS} {i j : Nat} {s s' : Nat} {v : Int} (h : ¬ (i = j ∧ s = s')) : gi (si S (14 + 4 * j) s' v) (14 + 4 * i) s = gi S (14 + 4 * i) s := gi_off (fun q => h ⟨by omega, q.2⟩)
theorem cl_49 (S0 : SS) (hO : c_ok S0) (r : Int) (kf : SS → Int → Option SS) (P : SS → Prop) : ∀ (n c : Nat) (S : SS) (k : Nat) (st : Nat → Int), k + c = (gi S0 10 3).toNat → c_js S0 S st r k → (∀ S', c_js S0 S' (j_k (q_nm (c_md S0)) (gi S0 10 3).toNat (c_rk S0) r c k st) r (gi S0 10 3).toNat → pc (kf S' (r + 1)) P) → pc (f_Pile_decide_49 kf n S r (k : Int)) P := by
  intro n
  induction n with
  | zero => intro c S k st _ _ _ r e; exact absurd e (by simp [f_Pile_decide_49])
  | succ n ih =>
    intro c S k st hc hj hk
    obtain ⟨o1, o2, o3, o4, o5⟩ := hO
    obtain ⟨j1, j2, j3, j4, j5⟩ := hj
    have e3 : gi S 10 3 = gi S0 10 3 := j1 10 3 (by omega)
    have hq : ∀ k, k < 40 → gq S 11 k = some k := fun k hk => by unfold gq; rw [j2]; exact o1 k hk
    show pc (f_Pile_decide_49_b kf (f_Pile_decide_49 kf n) S r (k : Int)) P
    unfold f_Pile_decide_49_b
    rw [e3]
    refine pc_if (fun c1 => pc_chk (fun _ => ?_)) (fun c1 => ?_)
    · have : c = 0 := by omega
      subst this
      rw [show (gi S0 10 3).toNat = k by omega] at hk
      exact hk S ⟨j1, j2, j3, j4, j5⟩
    · obtain ⟨c, rfl⟩ : ∃ c', c = c' + 1 := ⟨c - 1, by omega⟩
      rw [w_b1_is (c_find hq (by omega) (by omega))]
      show pc (w_chk (k < 40) _) _
      refine pc_chk (fun hk40 => ?_)
      have go : ∀ S' st', c_js S0 S' st' r (k + 1) → st' = cif (st k = 1 ∧ c_rk S0 k = r) (j_one (q_nm (c_md S0)) (gi S0 10 3).toNat k st) st → pc (f_Pile_decide_112 kf (f_Pile_decide_49 kf n) S' r (k : Int)) P := by
        intro S' st' hj' e
        unfold f_Pile_decide_112
        refine pc_chk (fun _ => ?_)
        rw [show (k : Int) + 1 = ((k + 1 : Nat) : Int) by omega]
        refine ih c S' (k + 1) st' (by omega) hj' (fun S'' d => hk S'' ?_)
        rw [j_k, ← e]; exact d
      have skip : ¬ (st k = 1 ∧ c_rk S0 k = r) → pc (f_Pile_decide_112 kf (f_Pile_decide_49 kf n) S r (k : Int)) P := by
        intro hn
        exact go S st ⟨j1, j2, j3, j4, fun j a d => j5 j a (by omega)⟩ (by rw [cif_neg hn])
      have as := c_asks S k
      rw [cs0_fr j1] at as
      have eh : gi S (14 + 4 * k) 3 = gi S0 (14 + 4 * k) 3 := j1 _ 3 (by omega)
      have hh := o4 k (by omega)
      refine pc_if (fun c2 => skip (fun q => ?_)) (fun c2 => ?_)
      · have s0 := z01_a as c2
        rw [← j5 k (by omega) (.inr ⟨q.2.symm, Nat.le_refl _⟩)] at s0
        exact s0 q.1
      · have s1 := z01_b as c2
        have er : f_Pile_rankOf S (gi S (14 + 4 * k) 3) = some (c_rk S0 k) := by
          unfold f_Pile_rankOf
          rw [eh, if_neg (by omega), if_pos (by omega), w_chkP (by omega), j1 12 _ (by omega)]
        rw [w_b1_is er]
        refine pc_if (fun c3 => ?_) (fun c3 => skip (fun q => c3 q.2))
        have st1 : st k = 1 := (j5 k (by omega) (.inr ⟨c3.symm, Nat.le_refl _⟩)).trans s1
        have k5 : gi S0 (14 + 4 * k) 2 ≠ 5 := by
          intro e; unfold c_s0 at s1; rw [if_pos e] at s1; exact absurd s1 (by decide)
        have shp : ∀ o : Nat, (o : Int) < gi S 10 3 → gi S (14 + 4 * o) 11 = 0 → c_sh S o := by
          intro o ho h0
          have := j4 o (by omega) (.inl (by rw [← j3 o (by omega)]; exact h0))
          exact csh_fr j1 (o5 o (by omega) this.1)
        refine pc_b1 (c_first S hq (by omega) k (csh_fr j1 (o5 k (by omega) k5)) shp (by rw [j3 k (by omega), st1]; decide) FU 0 (fun j hj => absurd hj (Nat.not_lt_zero j))) (fun r10 h10 => pc_lt (fun S12 e12 => ?_))
        unfold c_fst at h10
        rw [cm_fr j1] at h10
        have f12 : fr XDC S0 S12 := by rw [e12]; exact fr_si j1 (by omega)
        have g12 : gi S12 (14 + 4 * k) 12 = r10 := by rw [e12, gi_at]
        rw [g12]
        have fin : ∀ v : Int, (∀ j : Nat, (j : Int) < gi S0 10 3 → (if j = k then v else st j) = j_one (q_nm (c_md S0)) (gi S0 10 3).toNat k st j) → pc (f_Pile_decide_109 kf (f_Pile_decide_49 kf n) S12 r (k : Int) v k) P := by
          intro v hv
          unfold f_Pile_decide_109
          refine pc_lt (fun S1 e1 => go S1 _ ⟨by rw [e1]; exact fr_si f12 (by omega), by rw [e1, e12]; exact j2, fun j hj => ?_, j_one_ok (fun _ _ h => q_nm_symm h) j4 st1, fun j hj d => ?_⟩ (by rw [cif_pos ⟨st1, c3⟩]))
          · rw [← hv j hj]
            by_cases e : j = k
            · rw [if_pos e, e, e1, gi_at]
            · rw [if_neg e, e1, gi_mk_off (fun q => e q.1), e12, gi_mk_off (fun q => e q.1)]
              exact j3 j hj
          · have ne : j ≠ k := by intro e; rw [e] at d; omega
            unfold j_one
            rw [cif_neg (fun q => ne q.1)]
            exact j5 j hj (by omega)
        refine pc_if (fun c4 => fin 0 (fun j hj => ?_)) (fun c4 => fin 1 (fun j hj => ?_))
        · have all : ∀ o, o < (gi S0 10 3).toNat → st o = 0 → q_nm (c_md S0) k o := by
            intro o ho h0
            rcases h10 with q | q
            · exact q.2 o (by omega) (by rw [j3 o (by omega)]; exact h0)
            · exact absurd c4 q.1
          unfold j_one
          by_cases e : j = k
          · rw [if_pos e, cif_pos ⟨e, all⟩]
          · rw [if_neg e, cif_neg (fun q => e q.1)]
        · have nall : ¬ ∀ o, o < (gi S0 10 3).toNat → st o = 0 → q_nm (c_md S0) k o := by
            intro all
            rcases h10 with q | q
            · exact c4 q.1
            · obtain ⟨_, o, a, d, e⟩ := q
              have a' : o < (gi S0 10 3).toNat := by clear e all; omega
              have a2 : (o : Int) < gi S0 10 3 := by clear e all; omega
              exact e (all o a' (by rw [← j3 o a2]; exact d))
          unfold j_one
          rw [cif_neg (fun q => nall q.2)]
          by_cases e : j = k
          · rw [if_pos e, e, st1]
          · rw [if_neg e]
/-- all stays but the list of the done ones -/
abbrev XLD (r k : Nat) : Prop := r = 13 ∨ (r = 10 ∧ k = 5)
theorem cl_list (S0 : SS) (hq : ∀ k, k < 40 → gq S0 11 k = some k) (h40 : gi S0 10 3 ≤ 40) (st : Nat → Int) (hst : ∀ j : Nat, (j : Int) < gi S0 10 3 → gi S0 (14 + 4 * j) 11 = st j) : ∀ (n : Nat) (S : SS) (k : Nat), fr XLD S0 S → S.2 = S0.2 → (k : Int) ≤ gi S0 10 3 → gi S 10 5 = (m_dn st k : Int) → (∀ j : Nat, j < k → st j = 0 → gi S 13 (m_dn st j) = (j : Int)) → pc (f_Pile_listDone_7 n S (k : Int)) (fun S1 => fr XLD S0 S1 ∧ S1.2 = S0.2 ∧ gi S1 10 5 = (m_dn st (gi S0 10 3).toNat : Int) ∧ ∀ j : Nat, (j : Int) < gi S0 10 3 → st j = 0 → gi S1 13 (m_dn st j) = (j : Int)) := by
  intro n
  induction n with
  | zero => intro S k _ _ _ _ _ r e; exact absurd e (by simp [f_Pile_listDone_7])
  | succ n ih =>
    intro S k hf h2 hk h5 hd
    have e3 : gi S 10 3 = gi S0 10 3 := hf 10 3 (by omega)
    have es : gi S (14 + 4 * k) 11 = gi S0 (14 + 4 * k) 11 := hf _ 11 (by omega)
    have hq' : ∀ k, k < 40 → gq S 11 k = some k := fun k hk => by unfold gq; rw [h2]; exact hq k hk
    have dle : ∀ j, m_dn st j ≤ j := by
      intro j
      induction j with
      | zero => exact Nat.le_refl _
      | succ j ih => rw [m_dn]; split <;> omega
    have dk := dle k
    show pc (f_Pile_listDone_7_b (f_Pile_listDone_7 n) S (k : Int)) _
    unfold f_Pile_listDone_7_b
    rw [e3]
    refine pc_if (fun c => pc_some ⟨hf, h2, by rw [h5, show (gi S0 10 3).toNat = k by omega], fun j hj => hd j (by omega)⟩) (fun c => ?_)
    rw [w_b1_is (c_find hq' (by omega) (by omega))]
    show pc (w_chk (k < 40) _) _
    refine pc_chk (fun _ => ?_)
    rw [es, hst k (by omega)]
    refine pc_if (fun c2 => pc_if (fun c3 => absurd c3 (by omega)) (fun c3 => pc_chk (fun _ => pc_lt (fun S8 e8 => pc_chk (fun _ => pc_lt (fun S11 e11 => ?_)))))) (fun c2 => ?_)
    · unfold f_Pile_listDone_64
      refine pc_chk (fun _ => ?_)
      rw [show (k : Int) + 1 = ((k + 1 : Nat) : Int) by omega]
      have a5 : gi S8 10 5 = gi S 10 5 := by rw [e8, gi_off (by omega)]
      have dn : m_dn st (k + 1) = m_dn st k + 1 := by rw [m_dn, if_pos c2]
      refine ih S11 (k + 1) (by rw [e11, e8]; exact fr_si (fr_si hf (.inl rfl)) (.inr ⟨rfl, rfl⟩)) (by rw [e11, e8]; exact h2) (by omega) (by rw [e11, gi_at, a5, h5, dn]; omega) (fun j hj h0 => ?_)
      rw [e11, gi_off (by omega), e8, h5, gi_si]
      by_cases e : j = k
      · rw [e, if_pos ⟨rfl, by omega⟩]
      · have := m_dn_lt st j h0 k (by omega)
        rw [if_neg (fun q => by omega)]
        exact hd j (by omega) h0
    · unfold f_Pile_listDone_64
      refine pc_chk (fun _ => ?_)
      rw [show (k : Int) + 1 = ((k + 1 : Nat) : Int) by omega]
      have dn : m_dn st (k + 1) = m_dn st k := by rw [m_dn, if_neg c2]; rfl
      refine ih S (k + 1) hf h2 (by omega) (by rw [h5, dn]) (fun j hj h0 => ?_)
      by_cases e : j = k
      · rw [e] at h0; exact absurd h0 c2
      · exact hd j (by omega) h0
abbrev XDD (r k : Nat) : Prop := XDC r k ∨ XLD r k
def c_dec (S0 S1 : SS) (st : Nat → Int) : Prop := fr XDD S0 S1 ∧ S1.2 = S0.2 ∧ (∀ j : Nat, (j : Int) < gi S0 10 3 → gi S1 (14 + 4 * j) 11 = st j) ∧ gi S1 10 5 = (m_dn st (gi S0 10 3).toNat : Int) ∧ ∀ j : Nat, (j : Int) < gi S0 10 3 → st j = 0 → gi S1 13 (m_dn st j) = (j : Int)
theorem cl_41 (S0 : SS) (hO : c_ok S0) : ∀ (n c : Nat) (S : SS) (r : Int) (st : Nat → Int), r + (c : Int) = 10 → c_js S0 S st r 0 → pc (f_Pile_decide_41 n S r) (fun S1 => c_dec S0 S1 (j_r (q_nm (c_md S0)) (gi S0 10 3).toNat (c_rk S0) c r st)) := by
  intro n
  induction n with
  | zero => intro c S r st _ _ q e; exact absurd e (by simp [f_Pile_decide_41])
  | succ n ih =>
    intro c S r st hc hj
    show pc (f_Pile_decide_41_b (f_Pile_decide_41 n) S r) _
    unfold f_Pile_decide_41_b
    refine pc_if (fun c1 => ?_) (fun c1 => ?_)
    · have : c = 0 := by omega
      subst this
      obtain ⟨j1, j2, j3, j4, j5⟩ := hj
      have e3 : gi S 10 3 = gi S0 10 3 := j1 10 3 (by omega)
      unfold f_Pile_listDone
      refine pc_b1 (R := fun S1 => fr XLD S S1 ∧ S1.2 = S.2 ∧ gi S1 10 5 = (m_dn st (gi S 10 3).toNat : Int) ∧ ∀ j : Nat, (j : Int) < gi S 10 3 → st j = 0 → gi S1 13 (m_dn st j) = (j : Int)) ?_ (fun S1 h1 => pc_some ?_)
      · refine pc_lt (fun S1 e1 => ?_)
        exact cl_list S (fun k hk => by unfold gq; rw [j2]; exact hO.1 k hk) (by rw [e3]; exact hO.2.2.1) st (fun j hj => j3 j (by omega)) FU S1 0 (by rw [e1]; exact fr_si (fr_refl _ S) (.inr ⟨rfl, rfl⟩)) (by rw [e1]; rfl) (by have := hO.2.1; omega) (by rw [e1, gi_at]; rfl) (fun j hj => absurd hj (Nat.not_lt_zero j))
      · obtain ⟨h1, h2, h3, h4⟩ := h1
        refine ⟨fun r k a => by rw [h1 r k (fun q => a (.inr q))]; exact j1 r k (fun q => a (.inl q)), h2.trans j2, fun j hj => by rw [h1 _ 11 (by omega)]; exact j3 j hj, by rw [h3, e3]; rfl, fun j hj => h4 j (by omega)⟩
    · obtain ⟨c, rfl⟩ : ∃ c', c = c' + 1 := ⟨c - 1, by omega⟩
      refine cl_49 S0 hO r (f_Pile_decide_41 n) _ FU (gi S0 10 3).toNat S 0 st (by omega) hj (fun S' hj' => ?_)
      obtain ⟨j1, j2, j3, j4, j5⟩ := hj'
      refine ih c S' (r + 1) _ (by omega) ⟨j1, j2, j3, j4, fun j a d => j5 j a (.inl (by omega))⟩
theorem cl_2 (S0 : SS) (hO : c_ok S0) : ∀ (n : Nat) (S : SS) (k : Nat), (k : Int) ≤ gi S0 10 3 → fr XDC S0 S → S.2 = S0.2 → (∀ j : Nat, j < k → gi S (14 + 4 * j) 11 = c_s0 S0 j) → pc (f_Pile_decide_2 n S (k : Int)) (fun S1 => c_dec S0 S1 (c_st S0)) := by
  intro n
  induction n with
  | zero => intro S k _ _ _ _ r e; exact absurd e (by simp [f_Pile_decide_2])
  | succ n ih =>
    intro S k hk hf h2 hs
    obtain ⟨o1, o2, o3, o4, o5⟩ := id hO
    have e3 : gi S 10 3 = gi S0 10 3 := hf 10 3 (by omega)
    have hq : ∀ k, k < 40 → gq S 11 k = some k := fun k hk => by unfold gq; rw [h2]; exact o1 k hk
    show pc (f_Pile_decide_2_b (f_Pile_decide_2 n) S (k : Int)) _
    unfold f_Pile_decide_2_b
    rw [e3]
    refine pc_if (fun c => ?_) (fun c => ?_)
    · refine cl_41 S0 hO FU 10 S 0 (c_s0 S0) (by omega) ⟨hf, h2, fun j hj => hs j (by omega), fun j hj h01 => ?_, fun _ _ _ => rfl⟩
      have k5 : gi S0 (14 + 4 * j) 2 ≠ 5 := by
        intro e; unfold c_s0 at h01; rw [if_pos e] at h01; exact absurd h01 (by decide)
      refine ⟨k5, fun h0 => ?_⟩
      unfold c_s0 at h0
      rw [if_neg k5] at h0
      repeat' split at h0
      all_goals exact absurd h0 (by decide)
    · rw [w_b1_is (c_find hq (by omega) (by omega))]
      show pc (w_chk (k < 40) _) _
      refine pc_chk (fun _ => pc_lt (fun S5 e5 => pc_lt (fun S7 e7 => ?_)))
      have f5 : fr XDC S0 S5 := by rw [e5]; exact fr_si hf (by omega)
      have us : f_Mark_undecidedStatus S5 k = c_s0 S0 k := by
        rw [← cs0_fr f5]; rfl
      unfold f_Pile_decide_33
      refine pc_chk (fun _ => ?_)
      rw [show (k : Int) + 1 = ((k + 1 : Nat) : Int) by omega]
      refine ih S7 (k + 1) (by omega) (by rw [e7]; exact fr_si f5 (by omega)) (by rw [e7, e5]; exact h2) (fun j hj => ?_)
      rw [e7]
      by_cases e : j = k
      · rw [e, gi_at]; exact us
      · rw [gi_mk_off (fun q => e q.1), e5, gi_mk_off (fun q => e q.1)]
        exact hs j (by omega)
theorem pc_decide (S : SS) (hO : c_ok S) : pc (f_Pile_decide S) (fun S1 => c_dec S S1 (c_st S)) := cl_2 S hO FU S 0 (by have := hO.2.1; omega) (fr_refl _ S) rfl (fun j hj => absurd hj (Nat.not_lt_zero j))
