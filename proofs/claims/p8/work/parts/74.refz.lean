abbrev XZ (r k : Nat) : Prop := ¬ (r = 199 ∨ r = 201 ∨ r = 202 ∨ r = 203 ∨ (r = 192 ∧ (k = 3 ∨ k = 27)))
theorem nx_z {S S1 : SS} (hN : NX S) (h : fr XZ S S1) : NX S1 := nx_fr hN h (fun k => by omega) (by omega) (by omega)
theorem XZ_S : XSC XZ := fun k a c => by omega
theorem fz_judge {b : Nat} (S : SS) (hC : MX b S) : pc (f_M_judge S) (fun S1 => fr XZ S S1) := pc_mono (pc_judge S hC) (fun S1 h r k a => h.1.2 r k (by omega) (by omega))
theorem fz_begun {b : Nat} {w : Int} {S Su S1 : SS} (h : q_begun b w S Su) (h1 : q_fp Su S1) : fr XZ S S1 := fun r k a => (h1.1 r k (by omega)).trans (h.2.2.2.1 r k (by omega) (by omega) (by omega) (by omega))
theorem pfl_lay (S0 : SS) (v1 : Int) : ∀ (n : Nat) (S : SS) (v2 : Int), fr XZ S0 S → pc (f_M_lay_3 v1 n S v2) (fr XZ S0) := by
  intro n
  induction n with
  | zero => intro S v2 h r e; exact absurd e (by simp [f_M_lay_3])
  | succ n ih =>
    intro S v2 h
    show pc (f_M_lay_3_b v1 (f_M_lay_3 v1 n) S v2) _
    unfold f_M_lay_3_b
    repeat' first | with_reducible exact ih _ _ (by assumption) | with_reducible exact pc_some (by assumption) | with_reducible refine pc_chk (fun _ => ?_) | with_reducible refine pc_if (fun _ => ?_) (fun _ => ?_) | with_reducible refine pf_lt (by assumption) (by omega) (fun _ _ => ?_)
theorem fz_feed (S : SS) (v1 v2 v3 v4 v5 : Int) : pc (f_M_feed S v1 v2 v3 v4 v5) (fun u => fr XZ S u.2) := by
  unfold f_M_feed f_M_lay
  exact pc_chk (fun _ => pc_if (fun _ => pc_b1 (pfl_lay S v1 FU S 24 (fr_refl _ S)) (fun _ h => pc_b1 (pfl_lay S v2 FU _ 24 h) (fun _ h => pc_b1 (pfl_lay S v3 FU _ 24 h) (fun _ h => pc_b1 (pfl_lay S v4 FU _ 24 h) (fun _ h => pc_b1 (pfl_lay S v5 FU _ 24 h) (fun _ h => pc_some h)))))) (fun _ => pc_some (fr_refl _ S)))
theorem fz_end (S : SS) (v1 : Int) : pc (f_M_end S v1) (fun u => fr XZ S u.2) := by
  unfold f_M_end
  exact pc_if (fun _ => pc_some (fr_refl _ S)) (fun _ => pf_lt (fr_refl _ S) (by omega) (fun _ h => pc_some h))
theorem pfl_readProof (S0 : SS) (v1 : Int) : ∀ (n : Nat) (S : SS) (v2 v3 v4 : Int), fr XZ S0 S → pc (f_M_readProof_7 v1 n S v2 v3 v4) (fun u => fr XZ S0 u.2) := by
  intro n
  induction n with
  | zero => intro S v2 v3 v4 h r e; exact absurd e (by simp [f_M_readProof_7])
  | succ n ih =>
    intro S v2 v3 v4 h
    show pc (f_M_readProof_7_b v1 (f_M_readProof_7 v1 n) S v2 v3 v4) _
    unfold f_M_readProof_7_b f_M_readProof_86 f_M_readProof_112 f_M_readProof_51
    repeat' first | with_reducible exact ih _ _ _ _ (by assumption) | with_reducible exact pc_some (by assumption) | with_reducible refine pc_chk (fun _ => ?_) | with_reducible refine pc_if (fun _ => ?_) (fun _ => ?_) | with_reducible refine pf_wr (by assumption) (by omega) (by omega) (fun _ _ => ?_) | with_reducible refine pf_lts (by assumption) (fun _ _ => ?_) | with_reducible refine pf_b1 (fun _ => ?_)
theorem pfl_first (S0 : SS) (hN : NX S0) : ∀ (n : Nat) (S : SS) (v1 v2 : Int), pc (f_M_first_19 n S v1 v2) (fun u => NX u.2) := by
  intro n
  induction n with
  | zero => intro S v1 v2 r e; exact absurd e (by simp [f_M_first_19])
  | succ n ih =>
    intro S v1 v2
    show pc (f_M_first_19_b (f_M_first_19 n) S v1 v2) _
    unfold f_M_first_19_b
    exact pc_if (fun _ => pc_lt (fun S1 _ => pc_lt (fun S2 e2 => pc_some (nx_0 (by rw [e2, gi_at]))))) (fun _ => pc_chk (fun _ => pc_chk (fun _ => pc_lt (fun S4 _ => pc_chk (fun _ => ih S4 _ _)))))
theorem nx_first (S : SS) (hN : NX S) : pc (f_M_first S) (fun u => NX u.2) := by
  unfold f_M_first f_M_readProof
  refine pc_lt (fun S1 e1 => ?_)
  have h1 : fr XZ S S1 := by rw [e1]; exact fr_begin XZ_S (by omega) (fr_refl _ S)
  exact pc_b3 (pfl_readProof S 60 FU S1 0 0 0 h1) (fun s h => pc_some (nx_z hN h)) (fun r s h => pfl_first S hN FU s r 0)
theorem pfl_second (S0 : SS) : ∀ (n : Nat) (S : SS) (v1 v2 : Int), fr XZ S0 S → pc (f_M_second_20 n S v1 v2) (fun u => fr XZ S0 u.2) := by
  intro n
  induction n with
  | zero => intro S v1 v2 h r e; exact absurd e (by simp [f_M_second_20])
  | succ n ih =>
    intro S v1 v2 h
    show pc (f_M_second_20_b (f_M_second_20 n) S v1 v2) _
    unfold f_M_second_20_b
    exact pc_if (fun _ => pf_lt h (by omega) (fun S1 h => pc_some h)) (fun _ => pc_chk (fun _ => pc_chk (fun _ => pf_lts h (fun S4 h => pc_chk (fun _ => ih S4 _ _ h)))))
theorem fz_second (S : SS) : pc (f_M_second S) (fun u => fr XZ S u.2) := by
  unfold f_M_second f_M_readProof
  refine pc_lt (fun S1 e1 => ?_)
  have h1 : fr XZ S S1 := by rw [e1]; exact fr_begin XZ_S (by omega) (fr_refl _ S)
  exact pc_b3 (pfl_readProof S 150 FU S1 0 0 0 h1) (fun s h => pc_some h) (fun r s h => pfl_second S FU s r 0 h)
theorem fz_mark {b : Nat} (S : SS) (v1 v2 : Int) (hC : MX b S) : pc (f_M_mark S v1 v2) (fun u => fr XZ S u.2) := by
  unfold f_M_mark
  have h0 := fr_refl XZ S
  repeat' first | with_reducible exact pc_some (by assumption) | with_reducible refine pc_b1 (fz_judge S hC) (fun _ _ => ?_) | with_reducible refine pc_chk (fun _ => ?_) | with_reducible refine pc_if (fun _ => ?_) (fun _ => ?_) | with_reducible refine pf_b1 (fun _ => ?_)
theorem fz_answer {b : Nat} (S : SS) (v1 v2 : Int) (hC : MX b S) : pc (f_M_answer S v1 v2) (fun u => fr XZ S u.2) := by
  unfold f_M_answer f_M_answer_42
  have h0 := fr_refl XZ S
  repeat' first | with_reducible exact pc_some (by assumption) | with_reducible refine pc_b1 (fz_judge S hC) (fun _ _ => ?_) | with_reducible refine pc_chk (fun _ => ?_) | with_reducible refine pc_if (fun _ => ?_) (fun _ => ?_) | with_reducible refine pf_lt (by assumption) (by omega) (fun _ _ => ?_) | with_reducible refine pf_b1 (fun _ => ?_)
theorem fz_rank (S : SS) (v1 v2 : Int) : pc (f_M_rank S v1 v2) (fun u => fr XZ S u.2) := by
  unfold f_M_rank
  have h0 := fr_refl XZ S
  repeat' first | with_reducible exact pc_some (by assumption) | with_reducible refine pc_chk (fun _ => ?_) | with_reducible refine pc_if (fun _ => ?_) (fun _ => ?_) | with_reducible refine pf_lt (by assumption) (by omega) (fun _ _ => ?_)
theorem fz_costs (S : SS) (v1 v2 : Int) : pc (f_M_costs S v1 v2) (fun u => fr XZ S u.2) := by
  unfold f_M_costs
  have h0 := fr_refl XZ S
  repeat' first | with_reducible exact pc_some (by assumption) | with_reducible refine pc_chk (fun _ => ?_) | with_reducible refine pc_if (fun _ => ?_) (fun _ => ?_) | with_reducible refine pf_lt (by assumption) (by omega) (fun _ _ => ?_)
theorem fz_error (S : SS) (v1 v2 : Int) : pc (f_M_error S v1 v2) (fun u => fr XZ S u.2) := by
  unfold f_M_error
  have h0 := fr_refl XZ S
  repeat' first | with_reducible exact pc_some (by assumption) | with_reducible refine pc_chk (fun _ => ?_) | with_reducible refine pc_if (fun _ => ?_) (fun _ => ?_) | with_reducible refine pf_lt (by assumption) (by omega) (fun _ _ => ?_) | with_reducible refine pf_b1 (fun _ => ?_)
theorem fz_price (S : SS) (v1 v2 : Int) : pc (f_M_price S v1 v2) (fun u => fr XZ S u.2) := by
  unfold f_M_price
  have h0 := fr_refl XZ S
  repeat' first | with_reducible exact pc_some (by assumption) | with_reducible refine pc_chk (fun _ => ?_) | with_reducible refine pc_if (fun _ => ?_) (fun _ => ?_) | with_reducible refine pf_lt (by assumption) (by omega) (fun _ _ => ?_)
theorem pfl_next : ∀ (n : Nat) (S : SS) (v1 : Int), pc (f_M_next_20 n S v1) (fun u => NX u.2) := by
  intro n
  induction n with
  | zero => intro S v1 r e; exact absurd e (by simp [f_M_next_20])
  | succ n ih =>
    intro S v1
    show pc (f_M_next_20_b (f_M_next_20 n) S v1) _
    unfold f_M_next_20_b
    exact pc_if (fun _ => pc_lt (fun S1 _ => pc_lt (fun S2 _ => pc_lt (fun S5 e5 => pc_some (nx_0 (by rw [e5, gi_at])))))) (fun _ => pc_chk (fun _ => pc_chk (fun _ => pc_lt (fun S4 _ => pc_chk (fun _ => ih S4 _)))))
theorem nx_next (S : SS) (hN : NX S) : pc (f_M_next S) (fun u => NX u.2) := by
  unfold f_M_next
  exact pc_if (fun _ => pc_some hN) (fun _ => pfl_next FU S 0)
/-- while the second proof is held: only these change -/
abbrev XH (r k : Nat) : Prop := (r = 192 ∧ (k = 5 ∨ (35 ≤ k ∧ k ≤ 38))) ∨ (212 ≤ r ∧ r ≤ 219)
theorem m_st_congr {S S1 : SS} (h : fr XH S S1) : m_st S1 = m_st S := by
  have e : ∀ r k, r < 212 → r ≠ 192 → gi S1 r k = gi S r k := fun r k a c => h r k (by omega)
  have e27 : gi S1 192 27 = gi S 192 27 := h 192 27 (by omega)
  have emd : ∀ j k, j ≠ 5 → q_md S1 j k = q_md S j k := by
    intro j k hj
    unfold q_md
    rw [e 199 k (by omega) (by omega), e 201 k (by omega) (by omega), e 202 k (by omega) (by omega), e 203 k (by omega) (by omega), if_neg hj, if_neg hj]
  have enm : q_nm (q_md S1) = q_nm (q_md S) := by
    funext k o
    unfold q_nm q_wi q_ins q_ov q_cut q_kd q_lo q_hi q_gp q_mi
    rw [emd 0 k (by decide), emd 0 o (by decide), emd 1 k (by decide), emd 1 o (by decide), emd 2 k (by decide), emd 2 o (by decide), emd 3 k (by decide), emd 3 o (by decide), emd 4 k (by decide), emd 4 o (by decide)]
  have erk : m_rk S1 = m_rk S := by
    funext k
    unfold m_rk
    rw [e 200 k (by omega) (by omega), e 209 _ (by omega) (by omega)]
  have es : m_s0 S1 = m_s0 S := by
    funext k
    have eo : m_ov S1 k = m_ov S k := by
      unfold m_ov
      rw [e27]
      have : ∀ s, gi S1 199 s = gi S 199 s := fun s => e 199 s (by omega) (by omega)
      have h2 : ∀ s, gi S1 201 s = gi S 201 s := fun s => e 201 s (by omega) (by omega)
      simp only [this, h2]
    unfold m_s0
    rw [eo, e 199 k (by omega) (by omega), e 207 k (by omega) (by omega), e 205 k (by omega) (by omega)]
  unfold m_st
  rw [enm, e27, erk, es]
def HI (T0 S : SS) : Prop := MX 0 S ∧ fr XH T0 S ∧ ∀ j : Nat, (j : Int) < gi T0 192 27 → gi S 212 j = m_st T0 j
theorem HI_nx {T0 S : SS} (hN : NX T0) (h : HI T0 S) : NX S := nx_fr hN h.2.1 (fun k => by omega) (by omega) (by omega)
theorem HI_judge {S : SS} (hC : MX 0 S) : okk (f_M_judge S) (HI S) := ok_mono (ok_and (ok_M_judge S hC) (pc_judge S hC)) (fun S1 h => ⟨h.1.1, fun r k a => h.2.1.2 r k (by omega) (by omega), h.2.2⟩)
theorem HI_make {T0 S : SS} (hN : NX T0) (hC : MX 0 S) (h : fr XH T0 S) (w : Int) : okk (f_M_make S w) (HI T0) := by
  refine ok_mono (ok_make S w hC (nx_fr hN h (fun k => by omega) (by omega) (by omega))) (fun S1 h1 => ?_)
  obtain ⟨m1, Su, bg, fp, _⟩ := h1
  refine ⟨m1, fun r k a => ((fp.1 r k (by omega)).trans (bg.2.2.2.1 r k (by omega) (by omega) (by omega) (by omega))).trans (h r k a), fun j hj => ?_⟩
  have e27 : gi S 192 27 = gi T0 192 27 := h 192 27 (by omega)
  rw [fp.1 212 j (by omega), (bg.2.2.2.2.1 j (by omega)).1, m_st_congr h]
theorem HI_si {T0 S : SS} (h : HI T0 S) {r k : Nat} {v : Int} (hx : XH r k) (h2 : r ≠ 212) (hm : MX 0 (si S r k v)) : HI T0 (si S r k v) := ⟨hm, fr_si h.2.1 hx, fun j hj => by rw [gi_off (by omega)]; exact h.2.2 j hj⟩
theorem HI_FF {T0 S S1 : SS} (h : HI T0 S) (hm : MX 0 S1) (hf : FF S S1) : HI T0 S1 := ⟨hm, fun r k a => (hf r k (by omega)).trans (h.2.1 r k a), fun j hj => (hf 212 j (by omega)).trans (h.2.2 j hj)⟩
theorem ok_M_wordsOf {S : SS} (hC : MX 0 S) (hN : NX S) (v1 : Int) (hv : 0 ≤ v1 ∧ v1 ≤ 2) : okk (f_M_wordsOf S v1) (fun u => MX 0 u.2 ∧ fr XH S u.2 ∧ cpt v1 u.1 ∧ u.1 ≤ 300) := by
  have b3 := mx_192_3 hC
  have b4 := mx_192_4 hC
  unfold f_M_wordsOf f_M_wordsOf_10
  refine ok_if (fun c => ok_b1 (HI_make hN hC (fr_refl _ S) 0) (fun S1 h1 => ?_)) (fun c => ?_)
  · have b5 := mx_192_5 h1.1
    refine ok_if (fun c2 => absurd c2 (by omega)) (fun _ => ok_if (fun c3 => absurd c3 (by omega)) (fun _ => ok_some ⟨h1.1, h1.2.1, ⟨b5.1, by show gi S1 192 5 ≤ 320; omega, fun q => absurd q (by omega), fun q => absurd q (by omega)⟩, b5.2⟩))
  · refine ok_if (fun c2 => ok_some ⟨hC, fr_refl _ S, ⟨b3.1, by show gi S 192 3 ≤ 320; omega, fun _ => b3.2, fun q => absurd q (by omega)⟩, by show gi S 192 3 ≤ 300; omega⟩) (fun _ => ok_if (fun c3 => ok_some ⟨hC, fr_refl _ S, ⟨b4.1, by show gi S 192 4 ≤ 320; omega, fun q => absurd q (by omega), fun _ => b4.2⟩, by show gi S 192 4 ≤ 300; omega⟩) (fun c3 => absurd hv (by omega)))
theorem ok_M_word {S : SS} (hC : MX 0 S) (hN : NX S) (v1 v2 : Int) : okk (f_M_word S v1 v2) (fun u => MX 0 u.2 ∧ NX u.2) := by
  unfold f_M_word
  refine ok_b1 (ok_M_isText S v1 hC) (fun r1 h1 => ok_if (fun c => ok_some ⟨hC, hN⟩) (fun c => ok_b2 (ok_M_wordsOf hC hN v1 (by omega)) (fun r5 S4 h4 => ?_)))
  obtain ⟨m4, f4, c4, l4⟩ := h4
  have n4 : NX S4 := nx_fr hN f4 (fun k => by omega) (by omega) (by omega)
  have c4' := c4
  unfold cpt at c4'
  have i01 := in01 S4 v2 0 (r5 - 1)
  exact ok_chk (by omega) (ok_if (fun _ => ok_some ⟨m4, n4⟩) (fun c5 => ok_b1 (ok_M_wordAt S4 v1 v2 r5 m4 c4 (by omega)) (fun w _ => ok_some ⟨m4, n4⟩)))
theorem ok_M_distance {S : SS} (hC : MX 0 S) (hN : NX S) (v1 v2 : Int) : okk (f_M_distance S v1 v2) (fun u => MX 0 u.2 ∧ NX u.2) := by
  unfold f_M_distance
  refine ok_b1 (ok_M_isText S v1 hC) (fun r1 h1 => ok_if (fun c => ok_some ⟨hC, hN⟩) (fun c => ok_b1 (ok_M_isText S v2 hC) (fun r3 h3 => ok_if (fun c2 => ok_some ⟨hC, hN⟩) (fun c2 => ok_b2 (ok_M_wordsOf hC hN v1 (by omega)) (fun r6 S5 h5 => ?_)))))
  have n5 : NX S5 := nx_fr hN h5.2.1 (fun k => by omega) (by omega) (by omega)
  refine ok_b2 (ok_M_wordsOf h5.1 n5 v2 (by omega)) (fun r9 S8 h8 => ?_)
  have n8 : NX S8 := nx_fr n5 h8.2.1 (fun k => by omega) (by omega) (by omega)
  refine ok_b2 (ok_M_apart S8 v1 r6 v2 r9 h8.1 h5.2.2.1 h8.2.2.1) (fun r12 S11 h11 => ok_some ⟨h11.1, nx_fr (X := XZ) n8 (fun r k a => h11.2.1 r k (by omega)) (fun k => by omega) (by omega) (by omega)⟩)
theorem okl_M_count (v1 : Int) (hv : 4 ≤ v1 ∧ v1 ≤ 8) (S : SS) (hC : MX 0 S) : ∀ (n : Nat) (v2 v3 : Int), 0 ≤ v2 ∧ v2 ≤ v3 ∧ v3 ≤ 40 → 40 - v3 < (n : Int) → okk (f_M_count_87 v1 n S v2 v3) (fun u => u.2 = S) := by
  intro n
  induction n with
  | zero => intro v2 v3 h1 h2; exfalso; omega
  | succ n ih =>
    intro v2 v3 h1 h2
    have b27 := mx_192_27 hC
    have go : ∀ a : Int, 0 ≤ a ∧ a ≤ 1 → v3 < gi S 192 27 → okk (f_M_count_136 v1 (f_M_count_87 v1 n) S v3 a v2) (fun u => u.2 = S) := by
      intro a ha hlt
      unfold f_M_count_136
      exact ok_chk (by omega) (ok_chk (by omega) (ih _ _ (by omega) (by omega)))
    show okk (f_M_count_87_b v1 (f_M_count_87 v1 n) S v2 v3) _
    unfold f_M_count_87_b
    exact ok_if (fun _ => ok_some rfl) (fun c => ok_if (fun _ => ok_chk (by omega) (ok_if (fun _ => go 0 (by decide) (by omega)) (fun _ => go 1 (by decide) (by omega)))) (fun _ => ok_chk (by omega) (ok_chk (by omega) (ok_if (fun _ => go 1 (by decide) (by omega)) (fun _ => go 0 (by decide) (by omega))))))
theorem ok_M_count {S : SS} (hC : MX 0 S) (hN : NX S) (v1 : Int) : okk (f_M_count S v1) (fun u => MX 0 u.2 ∧ NX u.2) := by
  have i1 := in01 S v1 0 2
  have i2 := in01 S v1 10 12
  have i3 := in01 S v1 4 8
  unfold f_M_count
  refine ok_if (fun c1 => ok_if (fun c2 => ok_if (fun _ => ok_some ⟨hC, hN⟩) (fun _ => ok_if (fun _ => ok_some ⟨hC, hN⟩) (fun _ => ok_if (fun _ => ok_some ⟨hC, hN⟩) (fun c3 => ?_)))) (fun c2 => ok_chk (by omega) (ok_chk (by omega) (ok_some ⟨hC, hN⟩)))) (fun c1 => ok_b2 (ok_M_wordsOf hC hN v1 (by omega)) (fun r S13 h => ok_some ⟨h.1, nx_fr hN h.2.1 (fun k => by omega) (by omega) (by omega)⟩))
  refine ok_b1 (HI_judge hC) (fun S7 h7 => ok_mono (okl_M_count v1 (by omega) S7 h7.1 FU 0 0 (by omega) (by unfold FU; omega)) (fun u e => ?_))
  rw [e]; exact ⟨h7.1, HI_nx hN h7⟩
theorem okl_M_pays (v1 : Int) (T0 S : SS) (hN : NX T0) (h : HI T0 S) : ∀ (n : Nat) (v2 : Int) (k : Nat), 0 ≤ v2 ∧ v2 ≤ 999 * (k : Int) → (k : Int) ≤ 40 → 40 - (k : Int) < (n : Int) → okk (f_M_pays_21 v1 n S v2 (k : Int)) (fun u => u.2 = S) := by
  intro n
  induction n with
  | zero => intro v2 k h1 h2 h3; exfalso; omega
  | succ n ih =>
    intro v2 k h1 h2 h3
    have b27 := mx_192_27 h.1
    have e27 : gi S 192 27 = gi T0 192 27 := h.2.1 192 27 (by omega)
    have go : ∀ a : Int, 0 ≤ a ∧ a ≤ 999 → (k : Int) < gi S 192 27 → okk (f_M_pays_91 v1 (f_M_pays_21 v1 n) S (k : Int) a v2) (fun u => u.2 = S) := by
      intro a ha hlt
      unfold f_M_pays_91
      refine ok_chk (by omega) (ok_chk (by omega) ?_)
      rw [show (k : Int) + 1 = ((k + 1 : Nat) : Int) by omega]
      exact ih _ _ (by omega) (by omega) (by omega)
    show okk (f_M_pays_21_b v1 (f_M_pays_21 v1 n) S v2 (k : Int)) _
    unfold f_M_pays_21_b
    rw [Int.toNat_natCast]
    refine ok_if (fun _ => ok_some rfl) (fun c => ok_chk (by omega) (ok_if (fun c2 => ?_) (fun _ => go 0 (by decide) (by omega))))
    have st : m_st T0 k = 0 := by rw [← h.2.2 k (by omega)]; exact c2
    have k5 := (m_st_ok T0 k (by omega) (.inl st)).1
    have e199 : gi S 199 k = gi T0 199 k := h.2.1 199 k (by omega)
    have vv := hN k (by omega)
    unfold m_val at vv
    have kk : 0 ≤ gi S 199 k ∧ gi S 199 k < 5 := by omega
    have b210 := mx_210 h.1 (gi S 199 k).toNat
    have g73 : ∀ a c : Int, okk (f_M_pays_73 v1 (f_M_pays_21 v1 n) S (k : Int) a c v2) (fun u => u.2 = S) := by
      intro a c'
      unfold f_M_pays_73 f_M_pays_90
      rw [Int.toNat_natCast]
      exact ok_if (fun _ => ok_chk (by omega) (ok_chk kk (go _ b210 (by omega)))) (fun _ => go 0 (by decide) (by omega))
    have g63 : ∀ a : Int, okk (f_M_pays_63 v1 (f_M_pays_21 v1 n) S (k : Int) a v2) (fun u => u.2 = S) := by
      intro a
      unfold f_M_pays_63
      exact ok_if (fun _ => g73 _ _) (fun _ => g73 _ _)
    unfold f_M_pays_58
    exact ok_chk (by omega) (ok_if (fun _ => g63 _) (fun _ => ok_chk (by omega) (ok_if (fun _ => g63 _) (fun _ => g63 _))))
theorem ok_M_pays {S : SS} (hC : MX 0 S) (hN : NX S) (v1 : Int) : okk (f_M_pays S v1) (fun u => MX 0 u.2 ∧ NX u.2) := by
  unfold f_M_pays
  refine ok_if (fun _ => ok_some ⟨hC, hN⟩) (fun _ => ok_b1 (HI_judge hC) (fun S3 h3 => ok_mono (okl_M_pays v1 S S3 hN h3 FU 0 0 (by omega) (by omega) (by unfold FU; omega)) (fun u e => ?_)))
  rw [e]; exact ⟨h3.1, HI_nx hN h3⟩
