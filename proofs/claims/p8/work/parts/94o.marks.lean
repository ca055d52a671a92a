/-- what reading a text of marks gives, from the states ahead of the call -/
def RD (S T : SS) (n0 : Nat) (r : Int) (S2 : SS) (t : Int) (T1 : SS) : Prop :=
  FE S2 T1 ∧ (∀ r k, ¬ (r = 3 ∨ r = 177 ∨ (r = 10 ∧ k = 4) ∨ (14 + 4 * n0 ≤ r ∧ r ≤ 176)) → gi S2 r k = gi S r k) ∧ (∀ r k, ¬ ((r = 192 ∧ ((8 ≤ k ∧ k ≤ 15) ∨ k = 27)) ∨ (199 ≤ r ∧ r ≤ 208 ∧ n0 ≤ k)) → gi T1 r k = gi T r k) ∧ LNC n0 S S2 ∧ LNR n0 T T1 ∧
  ((r = 0 ∧ t = -1 ∧ gi T1 192 27 = (n0 : Int)) ∨ (∃ m' : Nat, n0 ≤ m' ∧ m' ≤ 40 ∧ r = 1 ∧ t = (m' : Int) - (n0 : Int) ∧ gi S2 10 4 = (m' : Int) - (n0 : Int) ∧ gi T1 192 27 = (m' : Int) ∧ (∀ k, n0 ≤ k → k < m' → MK S2 T1 k) ∧ ∀ k, n0 ≤ k → k < m' → MF S2 T1 k))
theorem rd_sim {S T S2 T1 : SS} {r t : Int} {n0 : Nat} (hC : CX 0 S) (hM : MX 0 T) (h : RM S T) (hn : gi T 192 27 = (n0 : Int)) (h1 : f_MarkReader_readMarks S (gi S 4 1) = some (r, S2)) (h2 : f_M_marks T = some (t, T1)) : RD S T n0 r S2 t T1 := by
  have b27 := mx_192_27 hM
  have b8 := mx_192_8 hM
  have b4 := cx_sh hC (q := 4) (by decide)
  have c4 : cap 4 = 60 := by decide
  obtain ⟨hR, hy, hf, hK, hD⟩ := h
  unfold f_MarkReader_readMarks at h1
  have h1 := w_ltX h1
  have h1 := w_ltX h1
  have h1 := w_ltX h1
  have h1 := w_ltX h1
  have h1 := w_ltX h1
  obtain ⟨_, h1⟩ := w_chkE h1
  have h1 := w_ltX h1
  obtain ⟨_, h1⟩ := w_chkE h1
  have h1 := w_ltX h1
  -- the class's state ahead of the first line
  obtain ⟨S8, e8⟩ : ∃ S8, S8 = si (f_Fault_clear (si (si (sq (sq (sq S 177 0 (some 1)) 177 1 (some 10)) 177 2 (some 3)) 177 3 (gi S 4 1)) 177 4 0)) 10 4 0 := ⟨_, rfl⟩
  rw [← e8] at h1
  have ef : S8 = si (si (si (si (si (sq (sq (sq S 177 0 (some 1)) 177 1 (some 10)) 177 2 (some 3)) 177 3 (gi S 4 1)) 177 4 0) 3 0 0) 3 1 (-1)) 10 4 0 := e8
  have gq0 : ∀ r k, gi (sq (sq (sq S 177 0 (some 1)) 177 1 (some 10)) 177 2 (some 3)) r k = gi S r k := fun r k => rfl
  have g8 : ∀ r k, ¬ (r = 3 ∨ (r = 177 ∧ (k = 3 ∨ k = 4)) ∨ (r = 10 ∧ k = 4)) ∨ (r = 3 ∧ 2 ≤ k) → gi S8 r k = gi S r k := fun r k a => by
    rw [ef, gi_off (by omega), gi_off (by omega), gi_off (by omega), gi_off (by omega), gi_off (by omega), gq0]
  have v30 : gi S8 3 0 = 0 := by rw [ef, gi_off (by omega), gi_off (by omega), gi_at]
  have v31 : gi S8 3 1 = -1 := by rw [ef, gi_off (by omega), gi_at]
  have v73 : gi S8 177 3 = gi S 4 1 := by rw [ef, gi_off (by omega), gi_off (by omega), gi_off (by omega), gi_off (by omega), gi_at]
  have v74 : gi S8 177 4 = 0 := by rw [ef, gi_off (by omega), gi_off (by omega), gi_off (by omega), gi_at]
  have v4 : gi S8 10 4 = 0 := by rw [ef, gi_at]
  have l8 : ∀ r k, gl S8 r k = gl S r k := fun r k => by rw [ef]; rfl
  have s3 : gi S8 10 3 = (n0 : Int) := by rw [g8 10 3 (by omega), hK.1, hn]
  have C8 : CX (n0 + 2) S8 := by
    have x1 : CX 0 (sq (sq (sq S 177 0 (some 1)) 177 1 (some 10)) 177 2 (some 3)) := cs_q177 (cs_q177 (cs_q177 hC (by decide)) (by decide)) (by decide)
    have x2 : CX 0 S8 := by
      rw [e8]
      exact cs_10_4 (cx_Fault_clear (cs_177_4 (cs_177_3 x1 (by omega) (by omega)) (by decide) (by decide))) (by decide) (by decide) (by decide)
    refine CX.two x2 ?_ (by omega)
    rw [ef]
    refine ⟨?_, ?_, ?_⟩
    · show gq (sq (sq (sq S 177 0 (some 1)) 177 1 (some 10)) 177 2 (some 3)) 177 0 = some 1
      rw [gq_off (by omega), gq_off (by omega), gq_at]
    · show gq (sq (sq (sq S 177 0 (some 1)) 177 1 (some 10)) 177 2 (some 3)) 177 1 = some 10
      rw [gq_off (by omega), gq_at]
    · show gq (sq (sq (sq S 177 0 (some 1)) 177 1 (some 10)) 177 2 (some 3)) 177 2 = some 3
      rw [gq_at]
  -- the reference's
  unfold f_M_marks at h2
  have h2 := w_ltX h2
  have mb := m_begin_is T
  have m9 : gi (f_M_begin T) 192 9 = gi T 192 8 := by
    show gi (si (si (si (si (si T 192 9 (gi T 192 8)) 192 8 0) 192 11 0) 192 14 0) 192 15 (-1)) 192 9 = _
    rw [gi_off (by omega), gi_off (by omega), gi_off (by omega), gi_off (by omega), gi_at]
  have m11 : gi (f_M_begin T) 192 11 = 0 := by
    show gi (si (si (si (si (si T 192 9 (gi T 192 8)) 192 8 0) 192 11 0) 192 14 0) 192 15 (-1)) 192 11 = _
    rw [gi_off (by omega), gi_off (by omega), gi_at]
  have m14 : gi (f_M_begin T) 192 14 = 0 := by
    show gi (si (si (si (si (si T 192 9 (gi T 192 8)) 192 8 0) 192 11 0) 192 14 0) 192 15 (-1)) 192 14 = _
    rw [gi_off (by omega), gi_at]
  have m15 : gi (f_M_begin T) 192 15 = -1 := by
    show gi (si (si (si (si (si T 192 9 (gi T 192 8)) 192 8 0) 192 11 0) 192 14 0) 192 15 (-1)) 192 15 = _
    rw [gi_at]
  have lb : (f_M_begin T).2 = T.2 := rfl
  have Mb := mx_M_begin hM
  have m27 : gi (f_M_begin T) 192 27 = (n0 : Int) := by rw [mb.2 192 27 (by omega) (by omega)]; exact hn
  rw [m27] at h2
  generalize f_M_begin T = Tb at h2 mb m9 m11 m14 m15 lb Mb m27
  obtain ⟨T4, e4, h2⟩ := w_b1E h2
  obtain ⟨f4, t4, w4⟩ := mk_scan Tb ⟨by omega, by omega⟩ (by omega) T4 e4
  have l4 := lq_scan Tb T4 e4
  have M4 : MX 1 T4 := (ok_true (ok_M_scan Tb Mb) T4 e4).1
  have e9 : gi T4 192 9 = gi T 192 8 := by rw [f4 192 9 (by omega)]; exact m9
  have eb : mby_ T4 = mby_ Tb := by funext j; unfold mby_; rw [f4 197 _ (by omega)]
  have gT : ∀ r k, ¬ (r = 192 ∧ 8 ≤ k ∧ k ≤ 15) → gi T4 r k = gi T r k := fun r k a => by rw [f4 r k (by omega)]; exact mb.2 r k (by omega) (by omega)
  have B8 : BF S8 T4 := by
    refine ⟨by rw [g8 1 1 (by omega), e9]; exact hR.1.1, by rw [g8 1 1 (by omega)]; exact (cx_1_1 hC).1, by rw [g8 1 1 (by omega)]; exact (cx_1_1 hC).2, fun k hk => ?_⟩
    rw [g8 1 1 (by omega)] at hk
    rw [g8 2 k (by omega), gT 197 k (by omega)]
    exact ⟨hR.1.2 k hk, hy k⟩
  have A8 : AH S8 T4 := by
    unfold AH
    rw [v74, e9, eb]
    rw [m9, m11] at t4
    rw [m9] at w4
    exact ⟨Int.le_refl _, by omega, t4, w4⟩
  have R := rm_sim (gi S 4 1) n0 FU FU n0 S8 T4 0 r S2 t T1 (Nat.le_refl _) (by omega) (by omega) C8 M4 B8 A8 (by rw [v73, gT 192 3 (by omega)]; exact hR.2.1) s3 (by rw [gT 192 27 (by omega)]; exact hn) ⟨by rw [v30, f4 192 14 (by omega), m14], by rw [v31, f4 192 15 (by omega), m15]⟩ (fun k hk => by rw [g8 _ 2 (by omega), gT 199 k (by omega)]; exact (hK.2 k (by omega)).1.1) (fun k a b => by omega) (fun k a b => by omega) h1 h2
  obtain ⟨z1, z2, z3, z4, z5, z6⟩ := R
  refine ⟨z1, fun r k a => ?_, fun r k a => ?_, fun r k a => by rw [z4 r k a]; exact l8 r k, fun r k a => by rw [z5 r k a, gl_2 l4, gl_2 lb], z6⟩
  · rw [z2 r k (by omega)]; exact g8 r k (by omega)
  · rw [z3 r k (by omega)]; exact gT r k (by omega)
theorem ov_cg2 {T T1 : SS} (hn : gi T1 192 27 = gi T 192 27) (ht : ∀ r k : Nat, (199 ≤ r ∧ r ≤ 208) → (k : Int) < gi T 192 27 → gi T1 r k = gi T r k) (k : Nat) : m_ov T1 k ↔ m_ov T k := by
  constructor
  · rintro ⟨s, a, b, c, d⟩
    rw [hn] at b
    exact ⟨s, a, b, by rw [← ht 199 s (by omega) b]; exact c, by rw [← ht 201 s (by omega) b]; exact d⟩
  · rintro ⟨s, a, b, c, d⟩
    exact ⟨s, a, by rw [hn]; exact b, by rw [ht 199 s (by omega) b]; exact c, by rw [ht 201 s (by omega) b]; exact d⟩
theorem mst_cg2 {T T1 : SS} (hn : gi T1 192 27 = gi T 192 27) (ht : ∀ r k : Nat, (199 ≤ r ∧ r ≤ 208) → (k : Int) < gi T 192 27 → gi T1 r k = gi T r k) (hr : ∀ k, gi T1 209 k = gi T 209 k) : ∀ k : Nat, (k : Int) < gi T 192 27 → m_st T1 k = m_st T k := by
  intro k hk
  unfold m_st
  rw [hn]
  have e : ∀ j : Nat, (j : Int) < gi T 192 27 → q_kd (q_md T1) j = q_kd (q_md T) j ∧ q_lo (q_md T1) j = q_lo (q_md T) j ∧ q_hi (q_md T1) j = q_hi (q_md T) j ∧ q_mi (q_md T1) j = q_mi (q_md T) j ∧ q_gp (q_md T1) j = q_gp (q_md T) j := by
    intro j hj
    refine ⟨?_, ?_, ?_, ?_, ?_⟩
    · rw [md_kd, md_kd]; exact ht 199 j (by omega) hj
    · rw [md_lo, md_lo, ht 199 j (by omega) hj, ht 201 j (by omega) hj]
    · rw [md_hi, md_hi, ht 199 j (by omega) hj, ht 202 j (by omega) hj, ht 203 j (by omega) hj]
    · rw [md_mi, md_mi]; exact ht 202 j (by omega) hj
    · rw [md_gp, md_gp, ht 199 j (by omega) hj, ht 201 j (by omega) hj, ht 203 j (by omega) hj]
  refine j_r_cg (bad := fun _ => False) (fun a b ha hb _ _ => (wi_eq (e a (by omega)) (e b (by omega))).2) (fun j hj => ?_) 10 0 _ _ (fun j hj => ?_) (fun j hj q w => w) k (by omega)
  · show gi T1 209 (gi T1 200 j).toNat = gi T 209 (gi T 200 j).toNat
    rw [ht 200 j (by omega) (by omega), hr]
  · unfold m_s0
    rw [ht 199 j (by omega) (by omega), ht 205 j (by omega) (by omega), ht 207 j (by omega) (by omega), propext (ov_cg2 hn ht j)]
theorem RM_marks {S T S1 T1 : SS} {r t : Int} (hC : CX 0 S) (hM : MX 0 T) (hN : NX T) (h : RM S T) (h1 : f_MP_marks S = some (r, S1)) (h2 : f_M_marks T = some (t, T1)) : RM S1 T1 ∧ r = t := by
  have b27 := mx_192_27 hM
  have hb := RBX_marks hM h.1 h1 h2
  have M1 : MX 0 T1 := (ok_true (ok_M_marks T hM) (t, T1) h2).1
  have N1 : NX T1 := nx_marks T hM hN (t, T1) h2
  obtain ⟨n0, hn⟩ : ∃ n0 : Nat, gi T 192 27 = (n0 : Int) := ⟨(gi T 192 27).toNat, by omega⟩
  unfold f_MP_marks at h1
  obtain ⟨r3, S2, e2, h1⟩ := w_b2E h1
  obtain ⟨y1, y2, y3, y4, y5, y6⟩ := rd_sim hC hM h hn e2 h2
  have b4 := cx_sh hC (q := 4) (by decide)
  have c4 : cap 4 = 60 := by decide
  have C2 := ok_true (ok_MarkReader_readMarks S (gi S 4 1) hC (cx_10_3 hC).2 (by omega)) _ e2
  have h1 := w_ltX h1
  have g11 : ∀ r k, ¬ (r = 1 ∧ k = 1) → gi (si S2 1 1 0) r k = gi S2 r k := fun r k a => gi_off a
  have C5 : CX 0 (si S2 1 1 0) := cs_1_1 C2.1 (by decide) (by decide)
  have l5 : ∀ r k, gl (si S2 1 1 0) r k = gl S2 r k := fun _ _ => rfl
  generalize si S2 1 1 0 = S5 at h1 g11 C5 l5
  have gS : ∀ r k, ¬ (r = 3 ∨ r = 177 ∨ (r = 10 ∧ k = 4) ∨ (r = 1 ∧ k = 1) ∨ (14 + 4 * n0 ≤ r ∧ r ≤ 176)) → gi S5 r k = gi S r k := fun r k a => by rw [g11 r k (by omega)]; exact y2 r k (by omega)
  have fe : FE S5 T1 := FE_keep y1 (fun k => g11 3 k (by omega)) rfl rfl
  have by1 : BY T1 := fun k => by rw [y3 197 k (by omega)]; exact h.2.1 k
  obtain ⟨hR, hy, hf, hK, hD⟩ := h
  -- the marks that were there
  have old : ∀ k : Nat, k < n0 → MN S5 T1 k := fun k hk => MN_keep (hK.2 k (by omega)).1 (fun r j a => gS r j (by omega)) (fun r a => y3 r k (by omega))
  rcases y6 with ⟨q1, q2, q3⟩ | ⟨m', q1, q2, q3, q4, q5, q6, q7, q8⟩
  · rw [if_pos q1] at h1
    cases h1
    have en : gi T1 192 27 = gi T 192 27 := by rw [q3, hn]
    have ht : ∀ r k : Nat, (199 ≤ r ∧ r ≤ 208) → (k : Int) < gi T 192 27 → gi T1 r k = gi T r k := fun r k a b => y3 r k (by omega)
    refine ⟨⟨hb, by1, fe, ⟨by rw [gS 10 3 (by omega), en]; exact hK.1, fun k hk => ?_⟩, CD_cg hD en (mst_cg2 en ht (fun k => y3 209 k (by omega))) (fun j hj => gS _ 11 (by omega)) (gS 10 5 (by omega)) (fun k => gS 13 k (by omega))⟩, q2.symm⟩
    rw [en] at hk
    refine ⟨old k (by omega), ?_⟩
    have v := (hK.2 k hk).2
    unfold VW at v ⊢
    rw [gS _ 7 (by omega), gS _ 8 (by omega), ht 207 k (by omega) hk, ht 205 k (by omega) hk, propext (ov_cg2 en ht k)]
    exact v
  · rw [if_neg (by omega)] at h1
    obtain ⟨r7, S6, e6, h1⟩ := w_b2E h1
    obtain ⟨S9, e9, h1⟩ := w_b1E h1
    cases h1
    have new : ∀ k, n0 ≤ k → k < m' → MN S5 T1 k := fun k a b => MN_keep (MK_MN (q7 k a b)) (fun r j w => g11 r j (by omega)) (fun _ _ => rfl)
    have all : ∀ k, k < m' → MN S5 T1 k := fun k a => by
      by_cases c : k < n0
      · exact old k c
      · exact new k (by omega) a
    have hv : ∀ k, k < m' → gi T1 199 k = 5 → 0 ≤ gi T1 201 k ∧ gi T1 201 k < (k : Int) := fun k a c => by
      have := N1 k (by omega)
      unfold m_val at this
      omega
    have A := ac_is (S0 := S5) (T := T1) q2 q1 C5.2.1 (by rw [gS 10 3 (by omega), hK.1, hn]) (by rw [g11 10 4 (by omega)]; exact q5) (fun k hk => ⟨(all k hk).1, (all k hk).2.2.1⟩) hv _ e6
    obtain ⟨a1, a2, a3, a4, a5, a6⟩ := A
    have C6 : CX 0 S6 := (ok_true (ok_Pile_accept S5 C5 (by rw [g11 10 3 (by omega), g11 10 4 (by omega)]; exact C2.2.1)) _ e6).1
    have K6 : RK S6 T1 := by
      refine ⟨by rw [a4, q6], fun k hk => ?_⟩
      have hk' : k < m' := by omega
      refine ⟨MN_keep (all k hk') (fun r j w => a3 r j (by omega)) (fun _ _ => rfl), ?_⟩
      have e8 := a6 k hk'
      have e7 : gi S6 (14 + 4 * k) 7 = gi S5 (14 + 4 * k) 7 := a3 _ 7 (by omega)
      unfold VW
      rw [e7, e8]
      by_cases c : k < n0
      · have v := (hK.2 k (by omega)).2
        unfold VW at v
        rw [gS _ 7 (by omega), gS _ 8 (by omega), y3 207 k (by omega), y3 205 k (by omega)]
        refine ⟨v.1, ?_⟩
        have ov : m_ov T1 k ↔ (m_ov T k ∨ sv T1 n0 m' k) := by
          constructor
          · rintro ⟨s, x1, x2, x3, x4⟩
            by_cases d : s < n0
            · left
              exact ⟨s, x1, by omega, by rw [← y3 199 s (by omega)]; exact x3, by rw [← y3 201 s (by omega)]; exact x4⟩
            · right
              exact ⟨s, by omega, by omega, x3, x4⟩
          · rintro (⟨s, x1, x2, x3, x4⟩ | ⟨s, x1, x2, x3, x4⟩)
            · exact ⟨s, x1, by omega, by rw [y3 199 s (by omega)]; exact x3, by rw [y3 201 s (by omega)]; exact x4⟩
            · exact ⟨s, by omega, by omega, x3, x4⟩
        rw [v.2, ov]
        constructor
        · rintro ((x | x) | x)
          · exact .inl (.inl x)
          · exact .inr x
          · exact .inl (.inr x)
        · rintro ((x | x) | x)
          · exact .inl (.inl x)
          · exact .inr x
          · exact .inl (.inr x)
      · obtain ⟨f1, f2, f3⟩ := q8 k (by omega) hk'
        rw [g11 _ 7 (by omega), g11 _ 8 (by omega), f1, f2, f3]
        refine ⟨⟨fun x => ⟨x, rfl⟩, fun x => x.1⟩, ?_⟩
        constructor
        · rintro (x | ⟨s, x1, x2, x3, x4⟩)
          · exact absurd rfl x
          · have := hv s x2 x3
            exact .inl ⟨s, by omega, by omega, x3, x4⟩
        · rintro (⟨s, x1, x2, x3, x4⟩ | x)
          · exact .inr ⟨s, by omega, by omega, x3, x4⟩
          · exact absurd x.2 (by decide)
    have st := st_settle C6 M1 N1 K6 (fun k => by rw [a3 12 k (by omega), gS 12 k (by omega), y3 209 k (by omega)]; exact hR.2.2.2.1 k) S1 e9
    refine ⟨⟨hb, by1, FE_keep fe (fun k => by rw [st.1 3 k (by omega)]; exact a3 3 k (by omega)) rfl rfl, ⟨by rw [st.1 10 3 (by omega)]; exact K6.1, fun k hk => ?_⟩, st.2⟩, a1.trans q4.symm⟩
    obtain ⟨m, v⟩ := K6.2 k hk
    refine ⟨MN_keep m (fun r j w => st.1 r j (by omega)) (fun _ _ => rfl), ?_⟩
    unfold VW at v ⊢
    rw [st.1 _ 7 (by omega), st.1 _ 8 (by omega)]
    exact v
