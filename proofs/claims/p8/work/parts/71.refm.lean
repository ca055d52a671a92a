theorem ok_lrow {b : Nat} (S0 : SS) {F : Int} (hn0 : 0 ≤ gi S0 192 27 ∧ gi S0 192 27 ≤ 40) (hF : F ≤ 60) (G : q_good (q_md S0) (q_n S0) F) : ∀ (d : Nat) (low high mv : Int), q_reg (q_md S0) (q_n S0) F low high mv → low ≤ high → q_cnt (q_md S0) low high mv (q_n S0) < d → q_lays b S0 (fun S => f_M_layRow d S low high mv) (q_row (q_md S0) (q_n S0) d low high mv) := by
  intro d
  induction d with
  | zero => intro low high mv _ _ h; exact absurd h (Nat.not_lt_zero _)
  | succ d ih =>
    intro low high mv R hl h
    have r1 := R.1
    have r2 := R.2.1
    exact ok_loop S0 hn0 hF G R d h (f_M_layRow d) ih 100 low FU (by omega) (by omega) q_bd_low (by omega) (by unfold FU; omega) (by unfold FU; omega)
/-- where the text of w is begun -/
def q_begun (b : Nat) (w : Int) (S Su : SS) : Prop := MX b Su ∧ gi Su 192 5 = 0 ∧ Su.2 = S.2 ∧ (∀ r k, r ≠ 212 → r ≠ 213 → r ≠ 214 → ¬ (r = 192 ∧ k = 5) → gi Su r k = gi S r k) ∧ (∀ j : Nat, (j : Int) < gi S 192 27 → gi Su 212 j = m_st S j ∧ gi Su 214 j = m_us w (m_st S) j) ∧ q_good (q_md Su) (q_n S) (gi S 192 3)
theorem ok_make {b : Nat} (S : SS) (w : Int) (hC : MX b S) (hN : NX S) : okk (f_M_make S w) (fun S1 => MX b S1 ∧ ∃ Su, q_begun b w S Su ∧ q_fp Su S1 ∧ S1 = m_toks Su (q_all (q_md Su) (q_n S) (gi S 192 3))) := by
  have b27 := mx_192_27 hC
  have b3 := mx_192_3 hC
  unfold f_M_make
  refine ok_b1 (ok_and (ok_M_use S w hC) (pc_use S w hC)) (fun S1 h1 => ok_lt (fun Su eu => ?_))
  have hCu : MX b Su := by rw [eu]; exact ms_192_5 h1.1.1 (by decide) (by decide)
  have u5 : gi Su 192 5 = 0 := by rw [eu, gi_si, if_pos ⟨rfl, rfl⟩]
  have uf : ∀ r k, r ≠ 212 → r ≠ 213 → r ≠ 214 → ¬ (r = 192 ∧ k = 5) → gi Su r k = gi S r k := fun r k a c d e => by
    rw [eu, gi_si, if_neg e]; exact h1.2.1.2 r k a c d
  have uu : ∀ j : Nat, (j : Int) < gi S 192 27 → gi Su 212 j = m_st S j ∧ gi Su 214 j = m_us w (m_st S) j := fun j hj => by
    rw [eu, gi_si, gi_si, if_neg (by omega), if_neg (by omega)]; exact h1.2.2 j hj
  have emd : q_md Su = q_md S1 := q_md_fp ⟨fun r k h => by rw [eu, gi_si, if_neg h], fun r k _ => by rw [eu]; rfl, by rw [eu]; rfl⟩
  have G : q_good (q_md Su) (q_n S) (gi S 192 3) := by rw [emd]; exact q_fu_good hN b27.1 h1.2.1 h1.2.2
  have e27 : gi Su 192 27 = gi S 192 27 := uf 192 27 (by decide) (by decide) (by decide) (by omega)
  have e3 : gi Su 192 3 = gi S 192 3 := uf 192 3 (by decide) (by decide) (by decide) (by omega)
  have en : q_n Su = q_n S := by unfold q_n; rw [e27]
  have BG : q_begun b w S Su := ⟨hCu, u5, by rw [eu]; exact h1.2.1.1, uf, uu, G⟩
  have bW : ∀ t, q_W Su t ≤ 6 := fun t => by
    unfold q_W
    have := mx_204 hCu (t - 60)
    split <;> omega
  have bW1 : ∀ t, t < 60 → q_W Su t ≤ 1 := fun t ht => by unfold q_W; rw [if_pos ht]; exact Nat.le_refl _
  have W := q_all_wt G b3.2 b3.1 (show (gi S 192 27).toNat ≤ 40 by omega) (q_W Su) bW1 bW
  have L := q_all_ok G b3.2 b3.1 (show (gi S 192 27).toNat ≤ 40 by omega)
  have LR := ok_lrow (b := b) Su (F := gi S 192 3) (by omega) b3.2 (by rw [en]; exact G)
  rw [en] at LR
  have K := q_row_ok G b3.2 43
  have hcnt : ∀ low high mv, q_cnt (q_md Su) low high mv (q_n S) < 43 := fun low high mv => by
    have := q_cnt_le (q_md Su) low high mv (q_n S)
    have : q_n S ≤ 40 := by show (gi S 192 27).toNat ≤ 40; omega
    omega
  have gapL : ∀ g : Int, 0 ≤ g → q_lays b Su (fun S => f_M_layGap (f_M_layRow 43) S g) (q_gap (q_md Su) (q_row (q_md Su) (q_n S) 43) g (q_n S) 0) := by
    intro g g0
    have := ok_lgap (b := b) Su (F := gi S 192 3) (by rw [show (gi Su 192 27).toNat = q_n S from en]; exact G) (f_M_layRow 43) (q_row (q_md Su) (q_n S) 43) g g0 (fun k hk uk gk k4 => ?_) (q_n S) 0 FU (by rw [show (gi Su 192 27).toNat = q_n S from en]; omega) (by show (gi S 192 27).toNat < FU; unfold FU; omega)
    · exact this
    · rw [show (gi Su 192 27).toNat = q_n S from en] at hk
      have Rk := q_reg_move G hk uk k4
      have vk := G.1 k hk uk
      unfold q_val at vk
      exact ⟨LR 43 _ _ _ Rk (by omega) (hcnt _ _ _), fun t ht => q_bel_lt (show (gi S 192 27).toNat ≤ 40 by omega) ((K _ _ _ Rk).2 t ht)⟩
  have fin : okk (some (m_toks Su (q_all (q_md Su) (q_n S) (gi S 192 3)))) (fun S1 => MX b S1 ∧ ∃ Su, q_begun b w S Su ∧ q_fp Su S1 ∧ S1 = m_toks Su (q_all (q_md Su) (q_n S) (gi S 192 3))) := by
    have X := m_toks_ok _ Su hCu (fun t ht => by have := L.2 t ht; omega) (by omega)
    exact ok_some ⟨X.1, Su, BG, X.2.1, rfl⟩
  have sub : ∀ A B : List Nat, (∀ t, t ∈ A ++ B → t < 100) → q_lt A ∧ (∀ t, t ∈ B → t < 100) := fun A B h => ⟨fun t ht => by have := h t (List.mem_append_left B ht); omega, fun t ht => h t (List.mem_append_right A ht)⟩
  rw [e3]
  have W' := W
  have L' := L.2
  unfold q_all at W' L' fin
  by_cases c : gi S 192 3 = 0
  · rw [if_pos c]
    rw [if_pos c, List.append_nil] at W' L' fin
    have := gapL 0 (by decide) Su hCu (q_fp_refl Su) (by omega)
    rw [show f_M_layGap (f_M_layRow 43) Su 0 = _ from this]
    exact fin
  · rw [if_neg c]
    rw [if_neg c] at W' L' fin
    rw [q_wt_append, q_wt_append] at W'
    rw [m_toks_append, m_toks_append] at fin
    have s1 := sub _ _ L'
    have s2 := sub _ _ s1.2
    have g0 := gapL 0 (by decide) Su hCu (q_fp_refl Su) (by omega)
    have X0 := q_lays_mx s1.1 hCu (q_fp_refl Su) (by omega)
    rw [w_b1_is g0]
    have f3 : gi (m_toks Su (q_gap (q_md Su) (q_row (q_md Su) (q_n S) 43) 0 (q_n S) 0)) 192 3 = gi S 192 3 := (X0.2.1.1 192 3 (by omega)).trans e3
    rw [f3]
    refine ok_chk (by omega) ?_
    have r1 := LR 43 0 (gi S 192 3 - 1) (-1) (q_reg_top G) (by omega) (hcnt _ _ _) _ X0.1 X0.2.1 (by omega)
    have X1 := q_lays_mx s2.1 X0.1 X0.2.1 (by omega)
    rw [w_b1_is r1]
    have f3' : gi (m_toks (m_toks Su (q_gap (q_md Su) (q_row (q_md Su) (q_n S) 43) 0 (q_n S) 0)) (q_row (q_md Su) (q_n S) 43 0 (gi S 192 3 - 1) (-1))) 192 3 = gi S 192 3 := (X1.2.1.1 192 3 (by omega)).trans e3
    rw [f3']
    have g1 := gapL (gi S 192 3) b3.1 _ X1.1 X1.2.1 (by omega)
    rw [w_b1_is g1]
    exact fin
