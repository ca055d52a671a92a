theorem tob_8r (a : Int) : -128 ≤ tob a ∧ tob a ≤ 127 := by
  unfold tob
  rw [Int8.toInt_toInt32]
  have h1 := Int8.le_toInt (oi a).toInt8
  have h2 := Int8.toInt_lt (oi a).toInt8
  omega
def BY (T : SS) : Prop := ∀ k, -128 ≤ gi T 197 k ∧ gi T 197 k ≤ 127
theorem by_lay (v : Int) : ∀ (n : Nat) (T : SS) (s : Int), BY T → pc (f_M_lay_3 v n T s) BY := by
  intro n
  induction n with
  | zero => intro T s _ r e; exact absurd e (by simp [f_M_lay_3])
  | succ n ih =>
    intro T s h
    show pc (f_M_lay_3_b v (f_M_lay_3 v n) T s) _
    unfold f_M_lay_3_b
    refine pc_if (fun _ => pc_some h) (fun _ => pc_chk (fun _ => pc_lt (fun T1 e1 => pc_chk (fun _ => pc_lt (fun T2 e2 => pc_chk (fun _ => ih _ _ ?_))))))
    intro k
    rw [e2, gi_off (by omega), e1, gi_si]
    split
    · exact tob_8r _
    · exact h k
theorem by_feed (T : SS) (a b c d e : Int) (h : BY T) : pc (f_M_feed T a b c d e) (fun u => BY u.2) := by
  unfold f_M_feed f_M_lay
  exact pc_chk (fun _ => pc_if (fun _ => pc_b1 (by_lay _ FU _ _ h) (fun _ h => pc_b1 (by_lay _ FU _ _ h) (fun _ h => pc_b1 (by_lay _ FU _ _ h) (fun _ h => pc_b1 (by_lay _ FU _ _ h) (fun _ h => pc_b1 (by_lay _ FU _ _ h) (fun _ h => pc_some h)))))) (fun _ => pc_some h))
theorem by_fr {X : Nat → Nat → Prop} {T T1 : SS} (h : BY T) (f : fr X T T1) (hx : ∀ k, ¬ X 197 k) : BY T1 := fun k => by rw [f 197 k (hx k)]; exact h k
theorem m_dn_cg {a c : Nat → Int} : ∀ k : Nat, (∀ j, j < k → a j = c j) → m_dn a k = m_dn c k := by
  intro k
  induction k with
  | zero => intro _; rfl
  | succ k ih => intro h; rw [m_dn, m_dn, ih (fun j hj => h j (by omega)), h k (by omega)]
theorem ov_cg {T T1 : SS} (hn : gi T1 192 27 = gi T 192 27) (ht : ∀ r k, (199 ≤ r ∧ r ≤ 203) ∨ r = 205 ∨ r = 207 ∨ r = 209 → gi T1 r k = gi T r k) (k : Nat) : m_ov T1 k ↔ m_ov T k := by
  constructor
  · rintro ⟨s, a, b, c, d⟩
    exact ⟨s, a, by rw [← hn]; exact b, by rw [← ht 199 s (by omega)]; exact c, by rw [← ht 201 s (by omega)]; exact d⟩
  · rintro ⟨s, a, b, c, d⟩
    exact ⟨s, a, by rw [hn]; exact b, by rw [ht 199 s (by omega)]; exact c, by rw [ht 201 s (by omega)]; exact d⟩
theorem mst_cg {T T1 : SS} (hn : gi T1 192 27 = gi T 192 27) (ht : ∀ r k, (199 ≤ r ∧ r ≤ 203) ∨ r = 205 ∨ r = 207 ∨ r = 209 → gi T1 r k = gi T r k) : ∀ k : Nat, (k : Int) < gi T 192 27 → m_st T1 k = m_st T k := by
  intro k hk
  unfold m_st
  rw [hn]
  have e : ∀ j, q_kd (q_md T1) j = q_kd (q_md T) j ∧ q_lo (q_md T1) j = q_lo (q_md T) j ∧ q_hi (q_md T1) j = q_hi (q_md T) j ∧ q_mi (q_md T1) j = q_mi (q_md T) j ∧ q_gp (q_md T1) j = q_gp (q_md T) j := by
    intro j
    refine ⟨?_, ?_, ?_, ?_, ?_⟩
    · rw [md_kd, md_kd]; exact ht 199 j (by omega)
    · rw [md_lo, md_lo, ht 199 j (by omega), ht 201 j (by omega)]
    · rw [md_hi, md_hi, ht 199 j (by omega), ht 202 j (by omega), ht 203 j (by omega)]
    · rw [md_mi, md_mi]; exact ht 202 j (by omega)
    · rw [md_gp, md_gp, ht 199 j (by omega), ht 201 j (by omega), ht 203 j (by omega)]
  refine j_r_cg (bad := fun _ => False) (fun a b _ _ _ _ => (wi_eq (e a) (e b)).2) (fun j hj => ?_) 10 0 _ _ (fun j hj => ?_) (fun j hj q w => w) k (by omega)
  · show gi T1 209 (gi T1 200 j).toNat = gi T 209 (gi T 200 j).toNat
    rw [ht 200 j (by omega), ht 209 _ (by omega)]
  · unfold m_s0
    rw [ht 199 j (by omega), ht 205 j (by omega), ht 207 j (by omega), propext (ov_cg hn ht j)]
/-- what the class has decided is what the reference judges -/
def CD (S T : SS) : Prop := (∀ j : Nat, (j : Int) < gi T 192 27 → gi S (14 + 4 * j) 11 = m_st T j) ∧ gi S 10 5 = (m_dn (m_st T) (gi T 192 27).toNat : Int) ∧ ∀ j : Nat, (j : Int) < gi T 192 27 → m_st T j = 0 → gi S 13 (m_dn (m_st T) j) = (j : Int)
theorem CD_cg {S T S1 T1 : SS} (h : CD S T) (hn : gi T1 192 27 = gi T 192 27) (he : ∀ k : Nat, (k : Int) < gi T 192 27 → m_st T1 k = m_st T k) (h11 : ∀ j : Nat, (j : Int) < gi T 192 27 → gi S1 (14 + 4 * j) 11 = gi S (14 + 4 * j) 11) (h5 : gi S1 10 5 = gi S 10 5) (h13 : ∀ k, gi S1 13 k = gi S 13 k) : CD S1 T1 := by
  obtain ⟨a, b, c⟩ := h
  refine ⟨fun j hj => ?_, ?_, fun j hj h0 => ?_⟩
  · rw [hn] at hj
    rw [h11 j hj, he j hj]; exact a j hj
  · rw [h5, hn, m_dn_cg (a := m_st T1) (c := m_st T) _ (fun j hj => he j (by omega))]; exact b
  · rw [hn] at hj
    rw [h13, m_dn_cg (a := m_st T1) (c := m_st T) _ (fun i hi => he i (by omega))]
    exact c j hj (by rw [← he j hj]; exact h0)
theorem st_settle {S T : SS} (hC : CX 0 S) (hM : MX 0 T) (hN : NX T) (hK : RK S T) (hr : ∀ k, gi S 12 k = gi T 209 k ∨ 3 ≤ k) : pc (f_MP_settle S) (fun S1 => fr XT S S1 ∧ CD S1 T) := by
  have b40 := cx_10_3 hC
  refine pc_and (fs_settle (X := XT) (fun _ _ q => q) S S (fr_refl _ _)) ?_
  unfold f_MP_settle
  refine pc_b1 (pc_decide S (ok_of hC hN hK)) (fun S1 h1 => ?_)
  obtain ⟨d1, d2, d3, d4, d5⟩ := h1
  have se := st_eq hK (fun k _ => mx_200 hM k) hr
  refine pc_b1 (fx_Setter_takeDone (X := fun r k => r = 180 ∨ (r = 178 ∧ k = 2)) (S0 := S1) (x_180 := fun k => .inl rfl) (x_178_2 := .inr ⟨rfl, rfl⟩) S1 _ (FX_refl _ S1)) (fun S3 h3 => ?_)
  refine pc_b1 (fs_make (X := fun r k => r = 180 ∨ (r = 178 ∧ k = 2) ∨ (r = 8 ∧ k = 1)) (S0 := S1) (fun k => .inl rfl) (.inr (.inr ⟨rfl, rfl⟩)) S3 4 (fun r k a => h3.1 r k (by omega))) (fun S5 h5 => pc_some ⟨fun j hj => ?_, ?_, fun j hj h0 => ?_⟩)
  · rw [h5 (14 + 4 * j) 11 (by omega), d3 j (by rw [hK.1]; exact hj)]; exact se j hj
  · rw [h5 10 5 (by omega), d4, hK.1, m_dn_cg (a := c_st S) (c := m_st T) _ (fun j hj => se j (by omega))]
  · rw [h5 13 _ (by omega)]
    have := d5 j (by rw [hK.1]; exact hj) (by rw [se j hj]; exact h0)
    rw [m_dn_cg (a := c_st S) (c := m_st T) j (fun i hi => se i (by omega))] at this
    exact this
/-- THE RELATION: tapes, sizes, ranks, prices, costs, faults, marks and their status alike -/
def RM (S T : SS) : Prop := RBX S T ∧ BY T ∧ FE S T ∧ RK S T ∧ CD S T
abbrev PC2 (r k : Nat) : Prop := (r = 10 ∧ (k = 3 ∨ k = 5)) ∨ r = 13 ∨ (14 ≤ r ∧ r < 174)
abbrev PR2 (r k : Nat) : Prop := (r = 192 ∧ k = 27) ∨ (199 ≤ r ∧ r ≤ 209)
theorem MN_keep {S T S1 T1 : SS} {k : Nat} (h : MN S T k) (hs : ∀ r j, (r = 14 + 4 * k ∧ ((2 ≤ j ∧ j ≤ 6) ∨ j = 9)) ∨ r = 14 + 4 * k + 1 ∨ (r = 14 + 4 * k + 2 ∧ j = 1) → gi S1 r j = gi S r j) (ht : ∀ r, (199 ≤ r ∧ r ≤ 204) ∨ r = 208 → gi T1 r k = gi T r k) : MN S1 T1 k := by
  obtain ⟨a1, a2, a3, a4, a5, a6, a7, a8⟩ := h
  refine ⟨?_, ?_, ?_, ?_, ?_, ?_, ?_, ?_⟩
  · rw [hs _ 2 (by omega), ht 199 (by omega)]; exact a1
  · rw [hs _ 3 (by omega), ht 200 (by omega)]; exact a2
  · rw [hs _ 0 (by omega), ht 201 (by omega)]; exact a3
  · rw [hs _ 1 (by omega), ht 202 (by omega)]; exact a4
  · rw [hs _ 2 (by omega), ht 203 (by omega)]; exact a5
  · rw [hs _ 1 (by omega), ht 204 (by omega)]; exact a6
  · unfold PLC at a7 ⊢
    rw [hs (14 + 4 * k) 4 (by omega), hs (14 + 4 * k) 5 (by omega), hs (14 + 4 * k) 6 (by omega), hs (14 + 4 * k) 2 (by omega), hs (14 + 4 * k + 1) 0 (by omega), hs (14 + 4 * k + 1) 1 (by omega), hs (14 + 4 * k + 1) 2 (by omega)]
    exact a7
  · rw [hs _ 9 (by omega), ht 208 (by omega)]; exact a8
theorem RM_mk {S T S1 T1 : SS} (hM : MX 0 T) (h : RM S T) (hb : RBX S1 T1) (hy : BY T1) (hf : FE S1 T1) (hs : ∀ r k, PC2 r k → gi S1 r k = gi S r k) (ht : ∀ r k, PR2 r k → gi T1 r k = gi T r k) : RM S1 T1 := by
  obtain ⟨h1, h2, h3, h4, h5⟩ := h
  have b27 := mx_192_27 hM
  have en := ht 192 27 (by omega)
  have hm := mst_cg en (fun r k a => ht r k (by omega))
  refine ⟨hb, hy, hf, ⟨by rw [hs 10 3 (by omega), en]; exact h4.1, fun k hk => ?_⟩, CD_cg h5 en hm (fun j hj => hs _ 11 (by omega)) (hs 10 5 (by omega)) (fun k => hs 13 k (by omega))⟩
  rw [en] at hk
  obtain ⟨m, v⟩ := h4.2 k hk
  refine ⟨MN_keep m (fun r j a => hs r j (by omega)) (fun r a => ht r k (by omega)), ?_⟩
  unfold VW at v ⊢
  rw [hs _ 7 (by omega), hs _ 8 (by omega), ht 207 k (by omega), ht 205 k (by omega), propext (ov_cg en (fun r k a => ht r k (by omega)) k)]
  exact v
theorem FE_keep {S T S1 T1 : SS} (h : FE S T) (hs : ∀ k, gi S1 3 k = gi S 3 k) (h14 : gi T1 192 14 = gi T 192 14) (h15 : gi T1 192 15 = gi T 192 15) : FE S1 T1 := ⟨by rw [hs, h14]; exact h.1, by rw [hs, h15]; exact h.2⟩
theorem RM_0 : RM SZ SZ := by
  refine ⟨RBX_0, fun k => ?_, ⟨rfl, rfl⟩, ⟨rfl, fun k hk => absurd hk ?_⟩, ⟨fun j hj => absurd hj ?_, rfl, fun j hj => absurd hj ?_⟩⟩
  · show -128 ≤ (0 : Int) ∧ (0 : Int) ≤ 127
    omega
  · show ¬ (k : Int) < 0
    omega
  · show ¬ (j : Int) < 0
    omega
  · show ¬ (j : Int) < 0
    omega
/-- the reference: what reading commands change -/
theorem fh_word {T : SS} (hM : MX 0 T) (hN : NX T) (a1 a2 : Int) : pc (f_M_word T a1 a2) (fun u => fr XH T u.2) := by
  unfold f_M_word
  refine pc_b1 (ok_true (ok_M_isText T a1 hM)) (fun r1 h1 => pc_if (fun c => pc_some (fr_refl _ T)) (fun c => pc_b2 (ok_true (ok_M_wordsOf hM hN a1 (by omega))) (fun r5 S4 h4 => ?_)))
  have f4 : fr XH T S4 := h4.2.1
  exact pc_chk (fun _ => pc_if (fun _ => pc_some f4) (fun _ => pf_b1 (fun _ => pc_some f4)))
theorem fh_distance {T : SS} (hM : MX 0 T) (hN : NX T) (a1 a2 : Int) : pc (f_M_distance T a1 a2) (fun u => fr XH T u.2) := by
  unfold f_M_distance
  refine pc_b1 (ok_true (ok_M_isText T a1 hM)) (fun r1 h1 => pc_if (fun c => pc_some (fr_refl _ T)) (fun c => pc_b1 (ok_true (ok_M_isText T a2 hM)) (fun r3 h3 => pc_if (fun c2 => pc_some (fr_refl _ T)) (fun c2 => pc_b2 (ok_true (ok_M_wordsOf hM hN a1 (by omega))) (fun r6 S5 h5 => ?_)))))
  have n5 : NX S5 := nx_fr hN h5.2.1 (fun k => by omega) (by omega) (by omega)
  refine pc_b2 (ok_true (ok_M_wordsOf h5.1 n5 a2 (by omega))) (fun r9 S8 h8 => pc_b2 (ok_true (ok_M_apart S8 a1 r6 a2 r9 h8.1 h5.2.2.1 h8.2.2.1)) (fun r12 S11 h11 => pc_some ?_))
  exact fr_trans (fr_trans h5.2.1 h8.2.1) (fun r k a => h11.2.1 r k (by omega))
theorem fh_mark {T : SS} (hM : MX 0 T) (a1 a2 : Int) : pc (f_M_mark T a1 a2) (fun u => fr XH T u.2) := by
  unfold f_M_mark
  have h0 := fr_refl XH T
  have hj : pc (f_M_judge T) (fr XH T) := pc_mono (pc_judge T hM) (fun S1 h r k a => h.1.2 r k (by omega) (by omega))
  repeat' first | with_reducible exact pc_some (by assumption) | with_reducible refine pc_b1 hj (fun _ _ => ?_) | with_reducible refine pc_chk (fun _ => ?_) | with_reducible refine pc_if (fun _ => ?_) (fun _ => ?_) | with_reducible refine pf_b1 (fun _ => ?_)
theorem fh_hold {T : SS} (hM : MX 0 T) (hN : NX T) : pc (f_M_hold T) (fun u => fr XH T u.2) := by
  have b27 := mx_192_27 hM
  unfold f_M_hold
  exact pc_b1 (ok_true (HI_judge hM)) (fun S1 h1 => pc_mono (ok_true (okl_M_hold_8 T hN FU S1 0 h1 (by omega) (by unfold FU; omega))) (fun u hu => hu.2))
theorem fh_count {T : SS} (hM : MX 0 T) (hN : NX T) (a1 : Int) : pc (f_M_count T a1) (fun u => fr XH T u.2) := by
  have h0 := fr_refl XH T
  have i1 := in01 T a1 0 2
  have i3 := in01 T a1 4 8
  unfold f_M_count
  refine pc_if (fun c1 => pc_if (fun c2 => pc_if (fun _ => pc_some h0) (fun _ => pc_if (fun _ => pc_some h0) (fun _ => pc_if (fun _ => pc_some h0) (fun c3 => ?_)))) (fun c2 => pc_chk (fun _ => pc_chk (fun _ => pc_some h0)))) (fun c1 => pc_b2 (ok_true (ok_M_wordsOf hM hN a1 (by omega))) (fun r S13 h => pc_some h.2.1))
  refine pc_b1 (ok_true (HI_judge hM)) (fun S7 h7 => pc_mono (ok_true (okl_M_count a1 (by omega) S7 h7.1 FU 0 0 (by omega) (by unfold FU; omega))) (fun u e => ?_))
  rw [e]; exact h7.2.1
theorem fh_pays {T : SS} (hM : MX 0 T) (hN : NX T) (a1 : Int) : pc (f_M_pays T a1) (fun u => fr XH T u.2) := by
  unfold f_M_pays
  refine pc_if (fun _ => pc_some (fr_refl _ T)) (fun _ => pc_b1 (ok_true (HI_judge hM)) (fun S3 h3 => pc_mono (ok_true (okl_M_pays a1 T S3 hN h3 FU 0 0 (by omega) (by omega) (by unfold FU; omega))) (fun u e => ?_)))
  rw [e]; exact h3.2.1
theorem RM_ref {S T T1 : SS} (hM : MX 0 T) (h : RM S T) (f2 : fr XH T T1) : RM S T1 := RM_mk hM h (RBX_keep h.1 (keep_refl PCB) (fun r k p => f2 r k (by omega))) (by_fr h.2.1 f2 (fun k => by omega)) (FE_keep h.2.2.1 (fun _ => rfl) (f2 192 14 (by omega)) (f2 192 15 (by omega))) (fun _ _ _ => rfl) (fun r k p => f2 r k (by omega))
theorem RM_hold {S T S1 T1 : SS} {r t : Int} (hM : MX 0 T) (hN : NX T) (h : RM S T) (h1 : f_MP_hold S = some (r, S1)) (h2 : f_M_hold T = some (t, T1)) : RM S1 T1 := by
  have f1 := fs_hold S _ h1
  have f2 := fh_hold hM hN _ h2
  exact RM_mk hM h (RBX_keep h.1 (fun r k p => f1 r k (by omega)) (fun r k p => f2 r k (by omega))) (by_fr h.2.1 f2 (fun k => by omega)) (FE_keep h.2.2.1 (fun k => f1 3 k (by omega)) (f2 192 14 (by omega)) (f2 192 15 (by omega))) (fun r k p => f1 r k (by omega)) (fun r k p => f2 r k (by omega))
theorem RM_distance {S T S1 T1 : SS} {a1 a2 r t : Int} (hM : MX 0 T) (hN : NX T) (h : RM S T) (h1 : f_MP_distance S a1 a2 = some (r, S1)) (h2 : f_M_distance T a1 a2 = some (t, T1)) : RM S1 T1 := by
  have f1 := fx_MP_distance (X := fun r _ => r = 182) (S0 := S) (x_182 := fun k => rfl) S a1 a2 (FX_refl _ S) _ h1
  have f2 := fh_distance hM hN a1 a2 _ h2
  exact RM_mk hM h (RBX_keep h.1 (fun r k p => f1.1 r k (by omega)) (fun r k p => f2 r k (by omega))) (by_fr h.2.1 f2 (fun k => by omega)) (FE_keep h.2.2.1 (fun k => f1.1 3 k (by omega)) (f2 192 14 (by omega)) (f2 192 15 (by omega))) (fun r k p => f1.1 r k (by omega)) (fun r k p => f2 r k (by omega))
theorem RM_feed {S T S1 T1 : SS} {a1 a2 a3 a4 a5 r t : Int} (hC : CX 0 S) (hM : MX 0 T) (h : RM S T) (h1 : f_MP_feed S a1 a2 a3 a4 a5 = some (r, S1)) (h2 : f_M_feed T a1 a2 a3 a4 a5 = some (t, T1)) : RM S1 T1 := by
  have f1 := fx_MP_feed (X := XCT) (S0 := S) (x_2 := fun k => .inl rfl) (x_1_1 := .inr ⟨rfl, rfl⟩) S a1 a2 a3 a4 a5 (FX_refl _ S) _ h1
  have f2 := fm_feed T a1 a2 a3 a4 a5 _ h2
  exact RM_mk hM h (RBX_feed hC h.1 h1 h2).1 (by_feed T a1 a2 a3 a4 a5 h.2.1 _ h2) (FE_keep h.2.2.1 (fun k => f1.1 3 k (by omega)) (f2 192 14 (by omega)) (f2 192 15 (by omega))) (fun r k p => f1.1 r k (by omega)) (fun r k p => f2 r k (by omega))
theorem RM_end {S T S1 T1 : SS} {a1 r t : Int} (hM : MX 0 T) (h : RM S T) (h1 : f_MP_end S a1 = some (r, S1)) (h2 : f_M_end T a1 = some (t, T1)) : RM S1 T1 := by
  have f1 := fx_MP_end (X := XCT) (S0 := S) (x_1_1 := .inr ⟨rfl, rfl⟩) S a1 (FX_refl _ S) _ h1
  have f2 : fr (fun r k => r = 192 ∧ k = 8) T T1 := by
    unfold f_M_end at h2
    by_cases c : f_M_in T a1 0 (gi T 192 8) = 0
    · rw [if_pos c] at h2; cases h2; exact fr_refl _ _
    · rw [if_neg c] at h2; have h2 := w_ltX h2; cases h2; exact fr_si (fr_refl _ _) ⟨rfl, rfl⟩
  exact RM_mk hM h (RBX_end h.1 h1 h2).1 (by_fr h.2.1 f2 (fun k => by omega)) (FE_keep h.2.2.1 (fun k => f1.1 3 k (by omega)) (f2 192 14 (by omega)) (f2 192 15 (by omega))) (fun r k p => f1.1 r k (by omega)) (fun r k p => f2 r k (by omega))
theorem RM_price {S T S1 T1 : SS} {a1 a2 r t : Int} (hM : MX 0 T) (h : RM S T) (h1 : f_MP_price S a1 a2 = some (r, S1)) (h2 : f_M_price T a1 a2 = some (t, T1)) : RM S1 T1 := by
  have f1 := fx_MP_price (X := fun r _ => r = 191) (S0 := S) (x_191 := fun k => rfl) S a1 a2 (FX_refl _ S) _ h1
  have f2 : fr (fun r _ => r = 210) T T1 := by
    unfold f_M_price at h2
    by_cases c : f_M_in T a1 0 4 = 0
    · rw [if_pos c] at h2; cases h2; exact fr_refl _ _
    · rw [if_neg c] at h2
      by_cases c2 : f_M_in T a2 0 999 = 0
      · rw [if_pos c2] at h2; cases h2; exact fr_refl _ _
      · rw [if_neg c2] at h2
        obtain ⟨_, h2⟩ := w_chkE h2
        obtain ⟨_, h2⟩ := w_chkE h2
        have h2 := w_ltX h2
        cases h2
        exact fr_si (fr_refl _ _) rfl
  exact RM_mk hM h (RBX_price h.1 h1 h2).1 (by_fr h.2.1 f2 (fun k => by omega)) (FE_keep h.2.2.1 (fun k => f1.1 3 k (by omega)) (f2 192 14 (by omega)) (f2 192 15 (by omega))) (fun r k p => f1.1 r k (by omega)) (fun r k p => f2 r k (by omega))
theorem RM_costs {S T S1 T1 : SS} {a1 a2 r t : Int} (hM : MX 0 T) (h : RM S T) (h1 : f_MP_costs S a1 a2 = some (r, S1)) (h2 : f_M_costs T a1 a2 = some (t, T1)) : RM S1 T1 := by
  have f1 := fx_MP_costs (X := fun r _ => r = 183) (S0 := S) (x_183_5 := rfl) (x_183_6 := rfl) S a1 a2 (FX_refl _ S) _ h1
  have f2 : fr (fun r _ => r = 211) T T1 := by
    unfold f_M_costs at h2
    by_cases c : f_M_in T a1 1 9 = 0
    · rw [if_pos c] at h2; cases h2; exact fr_refl _ _
    · rw [if_neg c] at h2
      by_cases c2 : f_M_in T a2 1 9 = 0
      · rw [if_pos c2] at h2; cases h2; exact fr_refl _ _
      · rw [if_neg c2] at h2
        obtain ⟨_, h2⟩ := w_chkE h2
        have h2 := w_ltX h2
        obtain ⟨_, h2⟩ := w_chkE h2
        have h2 := w_ltX h2
        cases h2
        exact fr_si (X := fun r _ => r = 211) (fr_si (X := fun r _ => r = 211) (fr_refl _ _) rfl) rfl
  exact RM_mk hM h (RBX_costs h.1 h1 h2).1 (by_fr h.2.1 f2 (fun k => by omega)) (FE_keep h.2.2.1 (fun k => f1.1 3 k (by omega)) (f2 192 14 (by omega)) (f2 192 15 (by omega))) (fun r k p => f1.1 r k (by omega)) (fun r k p => f2 r k (by omega))
