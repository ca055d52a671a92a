/-- two judgings of like marks give the same -/
theorem j_one_cg {nm nm' : Nat → Nat → Prop} {n k : Nat} {bad : Nat → Prop} {st st' : Nat → Int} (hk : k < n) (hnm : ∀ a b, a < n → b < n → ¬ bad a → ¬ bad b → (nm a b ↔ nm' a b)) (hs : ∀ j, j < n → st j = st' j) (hb : ∀ j, j < n → st j = 0 ∨ st j = 1 → ¬ bad j) (h1 : st k = 1) : (∀ j, j < n → j_one nm n k st j = j_one nm' n k st' j) ∧ ∀ j, j < n → j_one nm n k st j = 0 ∨ j_one nm n k st j = 1 → ¬ bad j := by
  have e : (∀ o, o < n → st o = 0 → nm k o) ↔ (∀ o, o < n → st' o = 0 → nm' k o) := by
    constructor
    · intro h o ho h0
      rw [← hs o ho] at h0
      exact (hnm k o hk ho (hb k hk (.inr h1)) (hb o ho (.inl h0))).1 (h o ho h0)
    · intro h o ho h0
      exact (hnm k o hk ho (hb k hk (.inr h1)) (hb o ho (.inl h0))).2 (h o ho (by rw [← hs o ho]; exact h0))
  refine ⟨fun j hj => ?_, fun j hj => ?_⟩
  · unfold j_one
    by_cases c : j = k ∧ ∀ o, o < n → st o = 0 → nm k o
    · rw [cif_pos c, cif_pos ⟨c.1, e.1 c.2⟩]
    · rw [cif_neg c, cif_neg (fun q => c ⟨q.1, e.2 q.2⟩)]; exact hs j hj
  · intro q
    by_cases c : j = k
    · rw [c]; exact hb k hk (.inr h1)
    · unfold j_one at q
      rw [cif_neg (fun w => c w.1)] at q
      exact hb j hj q
theorem j_k_cg {nm nm' : Nat → Nat → Prop} {n : Nat} {bad : Nat → Prop} {rk rk' : Nat → Int} {r : Int} (hnm : ∀ a b, a < n → b < n → ¬ bad a → ¬ bad b → (nm a b ↔ nm' a b)) (hrk : ∀ j, j < n → rk j = rk' j) : ∀ (c k : Nat) (st st' : Nat → Int), k + c ≤ n → (∀ j, j < n → st j = st' j) → (∀ j, j < n → st j = 0 ∨ st j = 1 → ¬ bad j) → (∀ j, j < n → j_k nm n rk r c k st j = j_k nm' n rk' r c k st' j) ∧ ∀ j, j < n → j_k nm n rk r c k st j = 0 ∨ j_k nm n rk r c k st j = 1 → ¬ bad j := by
  intro c
  induction c with
  | zero => intro k st st' _ hs hb; exact ⟨hs, hb⟩
  | succ c ih =>
    intro k st st' hk hs hb
    rw [j_k, j_k]
    by_cases d : st k = 1 ∧ rk k = r
    · have d' : st' k = 1 ∧ rk' k = r := ⟨by rw [← hs k (by omega)]; exact d.1, by rw [← hrk k (by omega)]; exact d.2⟩
      rw [cif_pos d, cif_pos d']
      have o := j_one_cg (by omega) hnm hs hb d.1
      exact ih (k + 1) _ _ (by omega) o.1 o.2
    · have d' : ¬ (st' k = 1 ∧ rk' k = r) := fun q => d ⟨by rw [hs k (by omega)]; exact q.1, by rw [hrk k (by omega)]; exact q.2⟩
      rw [cif_neg d, cif_neg d']
      exact ih (k + 1) _ _ (by omega) hs hb
theorem j_r_cg {nm nm' : Nat → Nat → Prop} {n : Nat} {bad : Nat → Prop} {rk rk' : Nat → Int} (hnm : ∀ a b, a < n → b < n → ¬ bad a → ¬ bad b → (nm a b ↔ nm' a b)) (hrk : ∀ j, j < n → rk j = rk' j) : ∀ (c : Nat) (r : Int) (st st' : Nat → Int), (∀ j, j < n → st j = st' j) → (∀ j, j < n → st j = 0 ∨ st j = 1 → ¬ bad j) → ∀ j, j < n → j_r nm n rk c r st j = j_r nm' n rk' c r st' j := by
  intro c
  induction c with
  | zero => intro r st st' hs _; exact hs
  | succ c ih =>
    intro r st st' hs hb
    rw [j_r, j_r]
    have o := j_k_cg (r := r) hnm hrk n 0 st st' (by omega) hs hb
    exact ih (r + 1) _ _ o.1 o.2
/-- a mark's numbers alike, its words' count too -/
def MN (S T : SS) (k : Nat) : Prop := gi S (14 + 4 * k) 2 = gi T 199 k ∧ gi S (14 + 4 * k) 3 = gi T 200 k ∧ gi S (14 + 4 * k + 1) 0 = gi T 201 k ∧ gi S (14 + 4 * k + 1) 1 = gi T 202 k ∧ gi S (14 + 4 * k + 1) 2 = gi T 203 k ∧ gi S (14 + 4 * k + 2) 1 = gi T 204 k ∧ PLC S k ∧ gi S (14 + 4 * k) 9 = gi T 208 k
theorem MK_MN {S T : SS} {k : Nat} (h : MK S T k) : MN S T k := ⟨h.1, h.2.1, h.2.2.1, h.2.2.2.1, h.2.2.2.2.1, h.2.2.2.2.2.1.1, h.2.2.2.2.2.2.1, h.2.2.2.2.2.2.2⟩
/-- WAITS and VOID alike -/
def VW (S T : SS) (k : Nat) : Prop := (gi S (14 + 4 * k) 7 ≠ 0 ↔ (gi T 207 k ≠ 0 ∧ gi T 205 k = 0)) ∧ (gi S (14 + 4 * k) 8 ≠ 0 ↔ (m_ov T k ∨ (gi T 207 k ≠ 0 ∧ gi T 205 k = 2)))
theorem s0_eq {S T : SS} {k : Nat} (h : MN S T k) (v : VW S T k) : c_s0 S k = m_s0 T k := by
  unfold c_s0 m_s0
  rw [h.1]
  by_cases c5 : gi T 199 k = 5
  · rw [if_pos c5, if_pos c5]
  · rw [if_neg c5, if_neg c5]
    by_cases c8 : gi S (14 + 4 * k) 8 = 0
    · rw [if_pos c8, cif_neg (fun q => v.2.2 q c8)]
      by_cases c7 : gi S (14 + 4 * k) 7 = 0
      · rw [if_pos c7, if_neg (fun q => v.1.2 q c7)]
      · rw [if_neg c7, if_pos (v.1.1 c7)]
    · rw [if_neg c8, cif_pos (v.2.1 c8)]
theorem md_eq {S T : SS} {k : Nat} (h : MN S T k) (h5 : gi T 199 k ≠ 5) : q_kd (c_md S) k = q_kd (q_md T) k ∧ q_lo (c_md S) k = q_lo (q_md T) k ∧ q_hi (c_md S) k = q_hi (q_md T) k ∧ q_mi (c_md S) k = q_mi (q_md T) k ∧ q_gp (c_md S) k = q_gp (q_md T) k := by
  obtain ⟨a1, a2, a3, a4, a5, a6, a7, a8⟩ := h
  unfold PLC at a7
  rw [a1, a3, a4, a5, if_neg h5, if_neg h5] at a7
  refine ⟨?_, ?_, ?_, ?_, ?_⟩
  · rw [cm_kd, md_kd]; exact a1
  · rw [cm_lo, md_lo]; exact a7.1
  · rw [cm_hi, md_hi]; exact a7.2.1
  · show gi S (14 + 4 * k + 1) 1 = gi T 202 k
    exact a4
  · rw [md_gp]
    exact a7.2.2
theorem wi_eq {M M' : q_MK} {k o : Nat} (hk : q_kd M k = q_kd M' k ∧ q_lo M k = q_lo M' k ∧ q_hi M k = q_hi M' k ∧ q_mi M k = q_mi M' k ∧ q_gp M k = q_gp M' k) (ho : q_kd M o = q_kd M' o ∧ q_lo M o = q_lo M' o ∧ q_hi M o = q_hi M' o ∧ q_mi M o = q_mi M' o ∧ q_gp M o = q_gp M' o) : (q_wi M k o ↔ q_wi M' k o) ∧ (q_nm M k o ↔ q_nm M' k o) := by
  obtain ⟨a1, a2, a3, a4, a5⟩ := hk
  obtain ⟨b1, b2, b3, b4, b5⟩ := ho
  unfold q_nm q_wi q_ins q_ov q_cut
  rw [a1, a2, a3, a4, a5, b1, b2, b3, b4, b5]
  exact ⟨Iff.rfl, Iff.rfl⟩
/-- marks alike -/
def RK (S T : SS) : Prop := gi S 10 3 = gi T 192 27 ∧ ∀ k : Nat, (k : Int) < gi T 192 27 → MN S T k ∧ VW S T k
theorem st_eq {S T : SS} (h : RK S T) (hh : ∀ k : Nat, (k : Int) < gi T 192 27 → 0 ≤ gi T 200 k ∧ gi T 200 k ≤ 2) (hr : ∀ k, gi S 12 k = gi T 209 k ∨ 3 ≤ k) : ∀ k : Nat, (k : Int) < gi T 192 27 → c_st S k = m_st T k := by
  intro k hk
  unfold c_st m_st
  rw [h.1]
  refine j_r_cg (bad := fun j => gi T 199 j = 5) (fun a b ha hb na nb => ?_) (fun j hj => ?_) 10 0 _ _ (fun j hj => ?_) (fun j hj q => ?_) k (by omega)
  · exact (wi_eq (md_eq (h.2 a (by omega)).1 na) (md_eq (h.2 b (by omega)).1 nb)).2
  · have e := (h.2 j (by omega)).1.2.1
    have w := hh j (by omega)
    show gi S 12 (gi S (14 + 4 * j) 3).toNat = gi T 209 (gi T 200 j).toNat
    rw [e]
    rcases hr (gi T 200 j).toNat with z | z
    · exact z
    · omega
  · exact s0_eq (h.2 j (by omega)).1 (h.2 j (by omega)).2
  · intro e5
    unfold c_s0 at q
    rw [(h.2 j (by omega)).1.1, if_pos e5] at q
    omega
theorem sh_of {S T : SS} {k : Nat} (h : MN S T k) (v : m_val T k) (h5 : gi T 199 k ≠ 5) : c_sh S k := by
  obtain ⟨a1, a2, a3, a4, a5, a6, a7, a8⟩ := h
  unfold PLC at a7
  rw [a1, a3, a4, a5, if_neg h5, if_neg h5] at a7
  unfold c_sh
  unfold m_val at v
  rw [a1, a7.1, a7.2.1, a7.2.2]
  by_cases c1 : gi T 199 k = 1
  · rw [if_pos c1, if_pos c1, if_pos c1]
    left; omega
  · rw [if_neg c1, if_neg c1, if_neg c1]
    right
    by_cases c3 : gi T 199 k = 3
    · rw [if_pos c3, if_neg (by omega)]; omega
    · rw [if_neg c3]
      by_cases c4 : gi T 199 k = 4
      · rw [if_pos c4]; omega
      · rw [if_neg c4]; omega
theorem ok_of {S T : SS} {b : Nat} (hC : CX b S) (hN : NX T) (h : RK S T) : c_ok S := by
  refine ⟨hC.2.1, (cx_10_3 hC).1, (cx_10_3 hC).2, fun k hk => ?_, fun k hk h5 => ?_⟩
  · have b3 := cx_10_3 hC
    exact cx_mk_3 hC (by omega)
  · rw [h.1] at hk
    have m := (h.2 k hk).1
    exact sh_of m (hN k hk) (by rw [← m.1]; exact h5)
