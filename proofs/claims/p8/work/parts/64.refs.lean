noncomputable def cif {α : Type} (c : Prop) (a b : α) : α := @ite α c (Classical.propDecidable c) a b
theorem cif_pos {α : Type} {c : Prop} {a b : α} (h : c) : cif c a b = a := by unfold cif; exact if_pos h
theorem cif_neg {α : Type} {c : Prop} {a b : α} (h : ¬ c) : cif c a b = b := by unfold cif; exact if_neg h
/-- judging, pure: one mark, all marks of a rank, all ranks -/
noncomputable def j_one (nm : Nat → Nat → Prop) (n k : Nat) (st : Nat → Int) : Nat → Int := fun j => cif (j = k ∧ ∀ o, o < n → st o = 0 → nm k o) 0 (st j)
noncomputable def j_k (nm : Nat → Nat → Prop) (n : Nat) (rk : Nat → Int) (r : Int) : Nat → Nat → (Nat → Int) → (Nat → Int)
  | 0, _, st => st
  | c + 1, k, st => j_k nm n rk r c (k + 1) (cif (st k = 1 ∧ rk k = r) (j_one nm n k st) st)
noncomputable def j_r (nm : Nat → Nat → Prop) (n : Nat) (rk : Nat → Int) : Nat → Int → (Nat → Int) → (Nat → Int)
  | 0, _, st => st
  | c + 1, r, st => j_r nm n rk c (r + 1) (j_k nm n rk r n 0 st)
def j_ok (nm : Nat → Nat → Prop) (n : Nat) (bad : Nat → Prop) (st : Nat → Int) : Prop := ∀ k, k < n → st k = 0 ∨ st k = 1 → ¬ bad k ∧ (st k = 0 → ∀ o, o < n → o ≠ k → st o = 0 → nm k o)
theorem j_one_ok {nm : Nat → Nat → Prop} (hs : ∀ k o, nm k o → nm o k) {n : Nat} {bad : Nat → Prop} {k : Nat} {st : Nat → Int} (h : j_ok nm n bad st) (h1 : st k = 1) : j_ok nm n bad (j_one nm n k st) := by
  by_cases e : ∀ o, o < n → st o = 0 → nm k o
  · intro j hj h0
    unfold j_one at h0 ⊢
    by_cases ej : j = k
    · rw [cif_pos ⟨ej, e⟩]
      have := h j hj (.inr (by rw [ej]; exact h1))
      refine ⟨this.1, fun _ o ho hne h2 => ?_⟩
      rw [cif_neg (by intro q; exact hne (q.1.trans ej.symm))] at h2
      rw [ej]; exact e o ho h2
    · rw [cif_neg (by intro q; exact ej q.1)] at h0 ⊢
      have := h j hj h0
      refine ⟨this.1, fun h3 o ho hne h2 => ?_⟩
      by_cases eo : o = k
      · rw [eo]; exact hs _ _ (e j hj h3)
      · rw [cif_neg (by intro q; exact eo q.1)] at h2
        exact this.2 h3 o ho hne h2
  · have : j_one nm n k st = st := by
      funext j; unfold j_one; rw [cif_neg (by intro q; exact e q.2)]
    rw [this]; exact h
theorem j_k_ok {nm : Nat → Nat → Prop} (hs : ∀ k o, nm k o → nm o k) {n : Nat} {bad : Nat → Prop} {rk : Nat → Int} {r : Int} : ∀ (c k : Nat) (st : Nat → Int), j_ok nm n bad st → j_ok nm n bad (j_k nm n rk r c k st) := by
  intro c
  induction c with
  | zero => intro k st h; exact h
  | succ c ih =>
    intro k st h
    rw [j_k]
    refine ih (k + 1) _ ?_
    by_cases e : st k = 1 ∧ rk k = r
    · rw [cif_pos e]; exact j_one_ok hs h e.1
    · rw [cif_neg e]; exact h
theorem j_r_ok {nm : Nat → Nat → Prop} (hs : ∀ k o, nm k o → nm o k) {n : Nat} {bad : Nat → Prop} {rk : Nat → Int} : ∀ (c : Nat) (r : Int) (st : Nat → Int), j_ok nm n bad st → j_ok nm n bad (j_r nm n rk c r st) := by
  intro c
  induction c with
  | zero => intro r st h; exact h
  | succ c ih => intro r st h; rw [j_r]; exact ih (r + 1) _ (j_k_ok hs n 0 st h)
/-- what the reference's marks are before they are judged -/
def m_ov (S : SS) (k : Nat) : Prop := ∃ s : Nat, k < s ∧ (s : Int) < gi S 192 27 ∧ gi S 199 s = 5 ∧ gi S 201 s = (k : Int)
noncomputable def m_s0 (S : SS) (k : Nat) : Int := if gi S 199 k = 5 then 4 else cif (m_ov S k ∨ (gi S 207 k ≠ 0 ∧ gi S 205 k = 2)) 2 (if gi S 207 k ≠ 0 ∧ gi S 205 k = 0 then 3 else 1)
abbrev m_rk (S : SS) (k : Nat) : Int := gi S 209 (gi S 200 k).toNat
noncomputable def m_st (S : SS) : Nat → Int := j_r (q_nm (q_md S)) (gi S 192 27).toNat (m_rk S) 10 0 (m_s0 S)
/-- as judged so far: states st, and what isn't judged yet is overruled by none -/
def q_js (S0 S : SS) (st : Nat → Int) (r : Int) (k : Nat) : Prop := q_fj S0 S ∧ (∀ j : Nat, (j : Int) < gi S0 192 27 → gi S 212 j = st j) ∧ (∀ j : Nat, (j : Int) < gi S0 192 27 → st j = 1 → (r < m_rk S0 j ∨ (r = m_rk S0 j ∧ k ≤ j)) → gi S 213 j = -1)
theorem pcl_judgeOne {b : Nat} (S0 : SS) (k : Nat) (hk : (k : Int) < gi S0 192 27) (st : Nat → Int) (h1 : st k = 1) (r : Int) (hr : m_rk S0 k = r) : ∀ (n : Nat) (S : SS) (o : Nat), MX b S → q_fj S0 S → (o : Int) ≤ gi S0 192 27 → (∀ j : Nat, (j : Int) < gi S0 192 27 → gi S 212 j = st j) → (∀ j : Nat, (j : Int) < gi S0 192 27 → j ≠ k → st j = 1 → (r < m_rk S0 j ∨ (r = m_rk S0 j ∧ k ≤ j)) → gi S 213 j = -1) → ((gi S 213 k = -1 ∧ ∀ j : Nat, j < o → st j = 0 → q_nm (q_md S0) k j) ∨ (gi S 213 k ≠ -1 ∧ ∃ j : Nat, (j : Int) < gi S0 192 27 ∧ st j = 0 ∧ ¬ q_nm (q_md S0) k j)) → pc (f_M_judgeOne_2 (k : Int) n S (o : Int)) (fun S1 => q_js S0 S1 (j_one (q_nm (q_md S0)) (gi S0 192 27).toNat k st) r (k + 1)) := by
  intro n
  induction n with
  | zero => intro S o _ _ _ _ _ _ r e; exact absurd e (by simp [f_M_judgeOne_2])
  | succ n ih =>
    intro S o hC hf ho hs hov hq
    show pc (f_M_judgeOne_2_b (k : Int) (f_M_judgeOne_2 (k : Int) n) S (o : Int)) _
    have b27 := mx_192_27 hC
    have e27 : gi S 192 27 = gi S0 192 27 := hf.2 192 27 (by decide) (by decide)
    have emd := q_fj_md hf
    have fin : (gi S 213 k = -1 → ∀ j : Nat, (j : Int) < gi S0 192 27 → st j = 0 → q_nm (q_md S0) k j) → pc (f_M_judgeOne_51 (k : Int) S) (fun S1 => q_js S0 S1 (j_one (q_nm (q_md S0)) (gi S0 192 27).toNat k st) r (k + 1)) := by
      intro hfin
      unfold f_M_judgeOne_51
      rw [Int.toNat_natCast]
      refine pc_chk (fun _ => pc_if (fun c => pc_chk (fun _ => pc_lt (fun S2 e2 => pc_some ?_))) (fun c => pc_some ?_))
      · have all : ∀ o, o < (gi S0 192 27).toNat → st o = 0 → q_nm (q_md S0) k o := fun o ho => hfin c o (by omega)
        refine ⟨by rw [e2]; exact q_fj_si hf (.inl rfl), fun j hj => ?_, fun j hj hj1 hjr => ?_⟩
        · rw [e2, gi_si]
          unfold j_one
          by_cases e : j = k
          · rw [if_pos ⟨rfl, e⟩, cif_pos ⟨e, all⟩]
          · rw [if_neg (by intro q; exact e q.2), cif_neg (by intro q; exact e q.1)]; exact hs j hj
        · unfold j_one at hj1
          have e : j ≠ k := by
            intro e; rw [cif_pos ⟨e, all⟩] at hj1; exact absurd hj1 (by decide)
          rw [cif_neg (by intro q; exact e q.1)] at hj1
          rw [e2, gi_si, if_neg (by intro q; exact absurd q.1 (by decide))]
          exact hov j hj e hj1 (by omega)
      · rcases hq with hq | hq
        · exact absurd hq.1 c
        obtain ⟨_, o', ho1, ho2, ho3⟩ := hq
        have ej : j_one (q_nm (q_md S0)) (gi S0 192 27).toNat k st = st := by
          funext j; unfold j_one
          rw [cif_neg]
          intro q; exact ho3 (q.2 o' (by omega) ho2)
        rw [ej]
        clear ho3
        exact ⟨hf, hs, fun j hj hj1 hjr => hov j hj (by intro e; rw [e] at hjr; omega) hj1 (by omega)⟩
    have go : ∀ S' : SS, MX b S' → q_fj S0 S' → (∀ j : Nat, (j : Int) < gi S0 192 27 → gi S' 212 j = st j) → (∀ j : Nat, (j : Int) < gi S0 192 27 → j ≠ k → st j = 1 → (r < m_rk S0 j ∨ (r = m_rk S0 j ∧ k ≤ j)) → gi S' 213 j = -1) → (o : Int) < gi S0 192 27 → ((gi S' 213 k = -1 ∧ ∀ j : Nat, j < o + 1 → st j = 0 → q_nm (q_md S0) k j) ∨ (gi S' 213 k ≠ -1 ∧ ∃ j : Nat, (j : Int) < gi S0 192 27 ∧ st j = 0 ∧ ¬ q_nm (q_md S0) k j)) → pc (f_M_judgeOne_45 (k : Int) (f_M_judgeOne_2 (k : Int) n) S' (o : Int)) (fun S1 => q_js S0 S1 (j_one (q_nm (q_md S0)) (gi S0 192 27).toNat k st) r (k + 1)) := by
      intro S' hC' hf' hs' hov' hlt hq'
      unfold f_M_judgeOne_45
      refine pc_chk (fun _ => ?_)
      rw [show (o : Int) + 1 = ((o + 1 : Nat) : Int) by omega]
      exact ih S' (o + 1) hC' hf' (by omega) hs' hov' hq'
    unfold f_M_judgeOne_2_b
    rw [Int.toNat_natCast, Int.toNat_natCast, e27]
    refine pc_if (fun c => fin (fun h j hj => ?_)) (fun c => pc_chk (fun _ => pc_if (fun c2 => ?_) (fun c2 => fin (fun h => absurd h c2))))
    · rcases hq with hq | hq
      · exact hq.2 j (by omega)
      · exact absurd h hq.1
    · have hq1 : ∀ j : Nat, j < o → st j = 0 → q_nm (q_md S0) k j := by
        rcases hq with hq | hq
        · exact hq.2
        · exact absurd c2 hq.1
      refine pc_chk (fun _ => pc_if (fun c3 => pc_b1 (pc_doMeet S k o) (fun r4 h4 => pc_if (fun c4 => ?_) (fun c4 => pc_chk (fun _ => pc_lt (fun S6 e6 => ?_))))) (fun c3 => ?_))
      · refine go S hC hf hs hov (by omega) (.inl ⟨c2, fun j hj h0 => ?_⟩)
        by_cases e : j = o
        · have := z01_a h4 c4; rw [emd] at this; rw [e]; exact this
        · exact hq1 j (by omega) h0
      · have nn := z01_b h4 c4
        rw [emd] at nn
        have h40 : (o : Int) < 40 := by omega
        refine go S6 (by rw [e6]; exact ms_213 hC (by omega) (by omega)) (by rw [e6]; exact q_fj_si hf (.inr rfl)) (fun j hj => ?_) (fun j hj hne h1j hr => ?_) (by omega) (.inr ⟨?_, o, by omega, ?_, nn⟩)
        · rw [e6, gi_si, if_neg (by intro q; exact absurd q.1 (by decide))]; exact hs j hj
        · rw [e6, gi_si, if_neg (by intro q; exact hne q.2)]; exact hov j hj hne h1j hr
        · rw [e6, gi_si, if_pos ⟨rfl, rfl⟩]; omega
        · rw [← hs o (by omega)]; exact c3
      · refine go S hC hf hs hov (by omega) (.inl ⟨c2, fun j hj h0 => ?_⟩)
        by_cases e : j = o
        · rw [e] at h0
          exact absurd ((hs o (by omega)).trans h0) c3
        · exact hq1 j (by omega) h0
