theorem im_is {T : SS} {v r : Int} (e : f_M_isMark T v = some r) : (r = 0 ∧ ¬ (0 ≤ v ∧ v < gi T 192 27)) ∨ (r = 1 ∧ 0 ≤ v ∧ v < gi T 192 27) := by
  unfold f_M_isMark at e
  obtain ⟨_, e⟩ := w_chkE e
  obtain ⟨_, e⟩ := w_chkE e
  have e := Option.some.inj e
  have i := in01 T v 0 (gi T 192 27 - 1)
  omega
theorem fd_is {S : SS} (hC : CX 0 S) {v : Int} {o : Option Nat} (e : f_Pile_find S v = some o) : (o = none ∧ ¬ (0 ≤ v ∧ v < gi S 10 3)) ∨ (o = some v.toNat ∧ 0 ≤ v ∧ v < gi S 10 3) := by
  have b3 := cx_10_3 hC
  by_cases c : 0 ≤ v ∧ v < gi S 10 3
  · have := c_find hC.2.1 (k := v.toNat) (by omega) b3.2
    rw [show ((v.toNat : Nat) : Int) = v by omega, e] at this
    exact .inr ⟨Option.some.inj this, c⟩
  · left
    refine ⟨?_, c⟩
    unfold f_Pile_find at e
    by_cases c2 : v < gi S 10 3
    · rw [if_pos c2] at e
      unfold f_Pile_markAt at e
      rw [if_pos (by omega)] at e
      cases e; rfl
    · rw [if_neg c2] at e
      cases e; rfl
/-- the finding of a mark that is no STET -/
theorem fn_is {S T : SS} (hC : CX 0 S) (hK : RK S T) {v : Int} {o : Option Nat} (e : f_Pile_findNoStet S v = some o) : (o = none ∧ (¬ (0 ≤ v ∧ v < gi T 192 27) ∨ gi T 199 v.toNat = 5)) ∨ (o = some v.toNat ∧ 0 ≤ v ∧ v < gi T 192 27 ∧ gi T 199 v.toNat ≠ 5) := by
  unfold f_Pile_findNoStet at e
  obtain ⟨o1, e1, e⟩ := w_b1E e
  rcases fd_is hC e1 with ⟨q, q2⟩ | ⟨q, q2⟩
  · subst q
    have e := w_onN e
    cases e
    rw [hK.1] at q2
    exact .inl ⟨rfl, .inl q2⟩
  · subst q
    have e := w_onS e
    obtain ⟨_, e⟩ := w_chkE e
    rw [hK.1] at q2
    have k := (hK.2 v.toNat (by omega)).1.1
    rw [k] at e
    by_cases c : gi T 199 v.toNat = 5
    · rw [if_pos c] at e; cases e; exact .inl ⟨rfl, .inr c⟩
    · rw [if_neg c] at e; cases e; exact .inr ⟨rfl, q2.1, q2.2, c⟩
theorem RM_error {S T S1 T1 : SS} {a1 a2 r t : Int} (hC : CX 0 S) (hM : MX 0 T) (h : RM S T) (h1 : f_MP_error S a1 a2 = some (r, S1)) (h2 : f_M_error T a1 a2 = some (t, T1)) : RM S1 T1 ∧ r = t := by
  have hb := RBX_error h.1 h1 h2
  have b27 := mx_192_27 hM
  unfold f_MP_error at h1
  unfold f_M_error at h2
  obtain ⟨o, e1, h1⟩ := w_b1E h1
  obtain ⟨x, e2, h2⟩ := w_b1E h2
  have F := fn_is hC h.2.2.2.1 e1
  have I := im_is e2
  rcases F with ⟨q, q2⟩ | ⟨q, q2, q3, q4⟩
  · subst q
    have h1 := w_onN h1
    cases h1
    have : t = -2 ∧ T1 = T := by
      rcases I with i | i
      · rw [if_pos i.1] at h2; cases h2; exact ⟨rfl, rfl⟩
      · rw [if_neg (by omega)] at h2
        obtain ⟨_, h2⟩ := w_chkE h2
        rw [if_pos (by omega)] at h2
        cases h2; exact ⟨rfl, rfl⟩
    rw [this.1, this.2]; exact ⟨h, rfl⟩
  · subst q
    have h1 := w_onS h1
    obtain ⟨_, h1⟩ := w_chkE h1
    obtain ⟨_, h1⟩ := w_chkE h1
    have h1 := w_ltX h1
    rw [if_neg (by omega)] at h2
    obtain ⟨_, h2⟩ := w_chkE h2
    rw [if_neg q4] at h2
    obtain ⟨_, h2⟩ := w_chkE h2
    obtain ⟨_, h2⟩ := w_chkE h2
    obtain ⟨_, h2⟩ := w_chkE h2
    have h2 := w_ltX h2
    have e9 := (h.2.2.2.1.2 a1.toNat (by omega)).1.2.2.2.2.2.2.2
    rw [e9] at h1
    have gS : ∀ r k, ¬ (r = 14 + 4 * a1.toNat ∧ k = 9) → gi (si S (14 + 4 * a1.toNat) 9 a2) r k = gi S r k := fun r k a => gi_off a
    have gT : ∀ r k, ¬ (r = 208 ∧ k = a1.toNat) → gi (si T 208 a1.toNat a2) r k = gi T r k := fun r k a => gi_off a
    have q1 : S1 = si S (14 + 4 * a1.toNat) 9 a2 ∧ T1 = si T 208 a1.toNat a2 ∧ r = t := by
      by_cases c : gi T 208 a1.toNat = a2
      · rw [if_pos c] at h1 h2
        cases h1; cases h2; exact ⟨rfl, rfl, rfl⟩
      · rw [if_neg c] at h1 h2
        cases h1; cases h2; exact ⟨rfl, rfl, rfl⟩
    refine ⟨?_, q1.2.2⟩
    rw [q1.1, q1.2.1] at hb ⊢
    obtain ⟨hR, hy, hf, hK, hD⟩ := h
    have en : gi (si T 208 a1.toNat a2) 192 27 = gi T 192 27 := gT 192 27 (by omega)
    refine ⟨hb, fun k => by rw [gT 197 k (by omega)]; exact hy k, FE_keep hf (fun k => gS 3 k (by omega)) (gT 192 14 (by omega)) (gT 192 15 (by omega)), ⟨by rw [gS 10 3 (by omega), en]; exact hK.1, fun k hk => ?_⟩, CD_cg hD en (mst_cg en (fun r k a => gT r k (by omega))) (fun j hj => gS _ 11 (by omega)) (gS 10 5 (by omega)) (fun k => gS 13 k (by omega))⟩
    rw [en] at hk
    obtain ⟨m, v⟩ := hK.2 k hk
    constructor
    · by_cases c : k = a1.toNat
      · obtain ⟨x1, x2, x3, x4, x5, x6, x7, x8⟩ := m
        refine ⟨?_, ?_, ?_, ?_, ?_, ?_, ?_, ?_⟩
        · rw [gS _ 2 (by omega), gT 199 k (by omega)]; exact x1
        · rw [gS _ 3 (by omega), gT 200 k (by omega)]; exact x2
        · rw [gS _ 0 (by omega), gT 201 k (by omega)]; exact x3
        · rw [gS _ 1 (by omega), gT 202 k (by omega)]; exact x4
        · rw [gS _ 2 (by omega), gT 203 k (by omega)]; exact x5
        · rw [gS _ 1 (by omega), gT 204 k (by omega)]; exact x6
        · unfold PLC at x7 ⊢
          rw [gS (14 + 4 * k) 4 (by omega), gS (14 + 4 * k) 5 (by omega), gS (14 + 4 * k) 6 (by omega), gS (14 + 4 * k) 2 (by omega), gS (14 + 4 * k + 1) 0 (by omega), gS (14 + 4 * k + 1) 1 (by omega), gS (14 + 4 * k + 1) 2 (by omega)]
          exact x7
        · rw [c, gi_at, gi_at]
      · exact MN_keep m (fun r j a => gS r j (by omega)) (fun r a => gT r k (by omega))
    · unfold VW at v ⊢
      rw [gS _ 7 (by omega), gS _ 8 (by omega), gT 207 k (by omega), gT 205 k (by omega), propext (ov_cg en (fun r k a => gT r k (by omega)) k)]
      exact v
theorem nx_keep {T T1 : SS} (h : NX T) (ht : ∀ r k, (199 ≤ r ∧ r ≤ 203) ∨ (r = 192 ∧ (k = 3 ∨ k = 27)) → gi T1 r k = gi T r k) : NX T1 := fun k hk => by
  rw [ht 192 27 (by omega)] at hk
  have := h k hk
  unfold m_val at this ⊢
  rw [ht 199 k (by omega), ht 201 k (by omega), ht 202 k (by omega), ht 203 k (by omega), ht 192 3 (by omega)]
  exact this
theorem st_3 {T : SS} {k : Nat} (hk : (k : Int) < gi T 192 27) : m_st T k = 3 ↔ m_s0 T k = 3 := by
  have inv : ∀ (c : Nat) (r : Int) (st : Nat → Int), (∀ j, st j = m_s0 T j ∨ (st j = 0 ∧ m_s0 T j = 1)) → ∀ j, j_r (q_nm (q_md T)) (gi T 192 27).toNat (m_rk T) c r st j = m_s0 T j ∨ (j_r (q_nm (q_md T)) (gi T 192 27).toNat (m_rk T) c r st j = 0 ∧ m_s0 T j = 1) := by
    have ik : ∀ (r : Int) (c k : Nat) (st : Nat → Int), (∀ j, st j = m_s0 T j ∨ (st j = 0 ∧ m_s0 T j = 1)) → ∀ j, j_k (q_nm (q_md T)) (gi T 192 27).toNat (m_rk T) r c k st j = m_s0 T j ∨ (j_k (q_nm (q_md T)) (gi T 192 27).toNat (m_rk T) r c k st j = 0 ∧ m_s0 T j = 1) := by
      intro r c
      induction c with
      | zero => intro k st h; exact h
      | succ c ih =>
        intro k st h
        rw [j_k]
        refine ih (k + 1) _ ?_
        by_cases d : st k = 1 ∧ m_rk T k = r
        · rw [cif_pos d]
          intro j
          unfold j_one
          by_cases e : j = k ∧ ∀ o, o < (gi T 192 27).toNat → st o = 0 → q_nm (q_md T) k o
          · rw [cif_pos e]
            right
            refine ⟨rfl, ?_⟩
            rw [e.1]
            rcases h k with q | q
            · rw [← q]; exact d.1
            · exact q.2
          · rw [cif_neg e]; exact h j
        · rw [cif_neg d]; exact h
    intro c
    induction c with
    | zero => intro r st h; exact h
    | succ c ih => intro r st h; rw [j_r]; exact ih (r + 1) _ (ik r _ 0 st h)
  have := inv 10 0 (m_s0 T) (fun j => .inl rfl) k
  unfold m_st
  rcases this with q | q
  · rw [q]
  · rw [q.1, q.2]; decide
theorem RM_answer {S T S1 T1 : SS} {a1 a2 r t : Int} (hC : CX 0 S) (hM : MX 0 T) (hN : NX T) (h : RM S T) (h1 : f_MP_answer S a1 a2 = some (r, S1)) (h2 : f_M_answer T a1 a2 = some (t, T1)) : RM S1 T1 ∧ r = t := by
  have hb := RBX_answer hM h.1 h1 h2
  have b27 := mx_192_27 hM
  have M1 : MX 0 T1 := (ok_true (ok_M_answer T a1 a2 hM) (t, T1) h2).1
  unfold f_MP_answer at h1
  unfold f_M_answer at h2
  obtain ⟨o, e1, h1⟩ := w_b1E h1
  obtain ⟨x, e2, h2⟩ := w_b1E h2
  have F := fd_is hC e1
  have I := im_is e2
  rw [h.2.2.2.1.1] at F
  rcases F with ⟨q, q2⟩ | ⟨q, q2, q3⟩
  · subst q
    have h1 := w_onN h1
    cases h1
    rw [if_pos (by omega)] at h2
    cases h2
    exact ⟨h, rfl⟩
  · subst q
    have h1 := w_onS h1
    obtain ⟨_, h1⟩ := w_chkE h1
    rw [if_neg (by omega)] at h2
    obtain ⟨T3, e3, h2⟩ := w_b1E h2
    obtain ⟨j1, j2⟩ := pc_judge T hM T3 e3
    obtain ⟨_, h2⟩ := w_chkE h2
    have f3 : fr XH T T3 := fun r k a => j1.2 r k (by omega) (by omega)
    rw [j2 a1.toNat (by omega)] at h2
    rw [h.2.2.2.2.1 a1.toNat (by omega)] at h1
    have R3 : RM S T3 := RM_ref hM h f3
    by_cases c : m_st T a1.toNat = 3
    · rw [if_pos c] at h1 h2
      have c0 := (st_3 (k := a1.toNat) (by omega)).1 c
      have w0 : gi T 199 a1.toNat ≠ 5 ∧ ¬ m_ov T a1.toNat ∧ gi T 207 a1.toNat ≠ 0 ∧ gi T 205 a1.toNat = 0 := by
        unfold m_s0 at c0
        by_cases d5 : gi T 199 a1.toNat = 5
        · rw [if_pos d5] at c0; exact absurd c0 (by decide)
        · rw [if_neg d5] at c0
          by_cases dv : m_ov T a1.toNat ∨ (gi T 207 a1.toNat ≠ 0 ∧ gi T 205 a1.toNat = 2)
          · rw [cif_pos dv] at c0; exact absurd c0 (by decide)
          · rw [cif_neg dv] at c0
            by_cases dw : gi T 207 a1.toNat ≠ 0 ∧ gi T 205 a1.toNat = 0
            · exact ⟨d5, fun q => dv (.inl q), dw⟩
            · rw [if_neg dw] at c0; exact absurd c0 (by decide)
      have h1 := w_ltX h1
      obtain ⟨bv, av, hv, h1, h2⟩ : ∃ bv av : Int, ((bv = 1 ∧ av = 2) ∨ (bv = 0 ∧ av = 1)) ∧ f_MP_answer_42 a1 a2 (si S (14 + 4 * a1.toNat) 7 0) bv a1.toNat = some (r, S1) ∧ f_M_answer_42 a1 a2 T3 av a1 = some (t, T1) := by
        by_cases d : a2 = 0
        · rw [if_pos d] at h1 h2; exact ⟨1, 2, .inl ⟨rfl, rfl⟩, h1, h2⟩
        · rw [if_neg d] at h1 h2; exact ⟨0, 1, .inr ⟨rfl, rfl⟩, h1, h2⟩
      unfold f_MP_answer_42 at h1
      unfold f_M_answer_42 at h2
      obtain ⟨_, h1⟩ := w_chkE h1
      have h1 := w_ltX h1
      obtain ⟨S3, e9, h1⟩ := w_b1E h1
      obtain ⟨_, h2⟩ := w_chkE h2
      have h2 := w_ltX h2
      cases h1
      cases h2
      refine ⟨?_, rfl⟩
      have gS : ∀ r k, ¬ (r = 14 + 4 * a1.toNat ∧ (k = 7 ∨ k = 8)) → gi (si (si S (14 + 4 * a1.toNat) 7 0) (14 + 4 * a1.toNat) 8 bv) r k = gi S r k := fun r k a => by rw [gi_off (by omega), gi_off (by omega)]
      have s7 : gi (si (si S (14 + 4 * a1.toNat) 7 0) (14 + 4 * a1.toNat) 8 bv) (14 + 4 * a1.toNat) 7 = 0 := by rw [gi_off (by omega), gi_at]
      have s8 : gi (si (si S (14 + 4 * a1.toNat) 7 0) (14 + 4 * a1.toNat) 8 bv) (14 + 4 * a1.toNat) 8 = bv := gi_at _ _ _ _
      have C8 : CX 0 (si (si S (14 + 4 * a1.toNat) 7 0) (14 + 4 * a1.toNat) 8 bv) := cs_mk_8 (cs_mk_7 hC (by omega) (by decide) (by decide)) (by omega) (by omega) (by omega)
      generalize si (si S (14 + 4 * a1.toNat) 7 0) (14 + 4 * a1.toNat) 8 bv = S8 at e9 gS s7 s8 C8
      have gT : ∀ r k, ¬ (r = 205 ∧ k = a1.toNat) → gi (si T3 205 a1.toNat av) r k = gi T3 r k := fun r k a => gi_off a
      have t5 : gi (si T3 205 a1.toNat av) 205 a1.toNat = av := gi_at _ _ _ _
      generalize si T3 205 a1.toNat av = T5 at hb M1 gT t5
      obtain ⟨hR, hy, hf, hK, hD⟩ := R3
      have en : gi T5 192 27 = gi T3 192 27 := gT 192 27 (by omega)
      have e27 : gi T3 192 27 = gi T 192 27 := f3 192 27 (by omega)
      have N5 : NX T5 := nx_keep hN (fun r k a => by rw [gT r k (by omega)]; exact f3 r k (by omega))
      have ov : ∀ k, m_ov T5 k ↔ m_ov T3 k := fun k => by
        constructor
        · rintro ⟨s, x1, x2, x3, x4⟩
          exact ⟨s, x1, by rw [← en]; exact x2, by rw [← gT 199 s (by omega)]; exact x3, by rw [← gT 201 s (by omega)]; exact x4⟩
        · rintro ⟨s, x1, x2, x3, x4⟩
          exact ⟨s, x1, by rw [en]; exact x2, by rw [gT 199 s (by omega)]; exact x3, by rw [gT 201 s (by omega)]; exact x4⟩
      have ov3 : m_ov T3 a1.toNat ↔ m_ov T a1.toNat := ov_cg e27 (fun r k a => f3 r k (by omega)) _
      have K5 : RK S8 T5 := by
        refine ⟨by rw [gS 10 3 (by omega), en]; exact hK.1, fun k hk => ?_⟩
        rw [en] at hk
        obtain ⟨m, v⟩ := hK.2 k hk
        refine ⟨MN_keep m (fun r j a => gS r j (by omega)) (fun r a => gT r k (by omega)), ?_⟩
        unfold VW at v ⊢
        rw [propext (ov k), gT 207 k (by omega)]
        by_cases d : k = a1.toNat
        · subst d
          rw [s7, s8, t5, f3 207 _ (by omega)]
          constructor
          · constructor
            · intro w; exact absurd rfl w
            · intro w; omega
          · constructor
            · intro w; right; exact ⟨w0.2.2.1, by omega⟩
            · rintro (w | w)
              · exact absurd (ov3.1 w) w0.2.1
              · omega
        · rw [gS _ 7 (by omega), gS _ 8 (by omega), gT 205 k (by omega)]; exact v
      have st := st_settle C8 M1 N5 K5 (fun k => by rw [gS 12 k (by omega), gT 209 k (by omega)]; exact hR.2.2.2.1 k) S1 e9
      refine ⟨hb, fun k => by rw [gT 197 k (by omega)]; exact hy k, FE_keep hf (fun k => by rw [st.1 3 k (by omega)]; exact gS 3 k (by omega)) (gT 192 14 (by omega)) (gT 192 15 (by omega)), ⟨by rw [st.1 10 3 (by omega)]; exact K5.1, fun k hk => ?_⟩, st.2⟩
      obtain ⟨m, v⟩ := K5.2 k hk
      have hk' : (k : Int) < gi T 192 27 := by rw [en, e27] at hk; exact hk
      refine ⟨MN_keep m (fun r j w => st.1 r j (by omega)) (fun _ _ => rfl), ?_⟩
      unfold VW at v ⊢
      rw [st.1 _ 7 (by omega), st.1 _ 8 (by omega)]
      exact v
    · rw [if_neg c] at h1 h2
      cases h1
      cases h2
      exact ⟨R3, rfl⟩
theorem RM_meet {S T : SS} {a1 a2 r t : Int} (hC : CX 0 S) (hM : MX 0 T) (hN : NX T) (h : RM S T) (h1 : f_MP_meet S a1 a2 = some r) (h2 : f_M_meet T a1 a2 = some t) : r = t := by
  have b27 := mx_192_27 hM
  have hK := h.2.2.2.1
  unfold f_MP_meet at h1
  unfold f_M_meet at h2
  obtain ⟨o1, e1, h1⟩ := w_b1E h1
  obtain ⟨o2, e2, h1⟩ := w_b1E h1
  obtain ⟨x1, i1, h2⟩ := w_b1E h2
  have F1 := fn_is hC hK e1
  have F2 := fn_is hC hK e2
  have I1 := im_is i1
  have no : ¬ (0 ≤ a1 ∧ a1 < gi T 192 27 ∧ gi T 199 a1.toNat ≠ 5 ∧ 0 ≤ a2 ∧ a2 < gi T 192 27 ∧ gi T 199 a2.toNat ≠ 5 ∧ a1 ≠ a2) → t = -2 := by
    intro c
    by_cases c1 : x1 = 0
    · rw [if_pos c1] at h2; cases h2; rfl
    rw [if_neg c1] at h2
    obtain ⟨x2, i2, h2⟩ := w_b1E h2
    have I2 := im_is i2
    by_cases c2 : x2 = 0
    · rw [if_pos c2] at h2; cases h2; rfl
    rw [if_neg c2] at h2
    by_cases c3 : a1 = a2
    · rw [if_pos c3] at h2; cases h2; rfl
    rw [if_neg c3] at h2
    obtain ⟨_, h2⟩ := w_chkE h2
    by_cases c4 : gi T 199 a1.toNat = 5
    · rw [if_pos c4] at h2; cases h2; rfl
    rw [if_neg c4] at h2
    obtain ⟨_, h2⟩ := w_chkE h2
    by_cases c5 : gi T 199 a2.toNat = 5
    · rw [if_pos c5] at h2; cases h2; rfl
    exact absurd ⟨by omega, by omega, c4, by omega, by omega, c5, c3⟩ c
  rcases F1 with ⟨q, q1⟩ | ⟨q, q1, q2, q3⟩
  · subst q
    have h1 := w_onN h1
    cases h1
    exact (no (fun w => q1.elim (fun z => z ⟨w.1, w.2.1⟩) (fun z => w.2.2.1 z))).symm
  subst q
  have h1 := w_onS h1
  obtain ⟨_, h1⟩ := w_chkE h1
  rcases F2 with ⟨q, p1⟩ | ⟨q, p1, p2, p3⟩
  · subst q
    have h1 := w_onN h1
    cases h1
    exact (no (fun w => p1.elim (fun z => z ⟨w.2.2.2.1, w.2.2.2.2.1⟩) (fun z => w.2.2.2.2.2.1 z))).symm
  subst q
  have h1 := w_onS h1
  obtain ⟨_, h1⟩ := w_chkE h1
  by_cases c : a1 = a2
  · rw [if_pos c] at h1; cases h1
    exact (no (fun w => w.2.2.2.2.2.2 c)).symm
  rw [if_neg c] at h1
  rw [if_neg (by omega)] at h2
  obtain ⟨x2, i2, h2⟩ := w_b1E h2
  have I2 := im_is i2
  rw [if_neg (by omega), if_neg c] at h2
  obtain ⟨_, h2⟩ := w_chkE h2
  rw [if_neg q3] at h2
  obtain ⟨_, h2⟩ := w_chkE h2
  rw [if_neg p3] at h2
  obtain ⟨y, ey, h1⟩ := w_b1E h1
  obtain ⟨z, ez, h2⟩ := w_b1E h2
  have k1 : ((a1.toNat : Nat) : Int) = a1 := by omega
  have k2 : ((a2.toNat : Nat) : Int) = a2 := by omega
  have l1 : ((a1.toNat : Nat) : Int) < gi T 192 27 := by omega
  have l2 : ((a2.toNat : Nat) : Int) < gi T 192 27 := by omega
  have m1 := (hK.2 a1.toNat l1).1
  have m2 := (hK.2 a2.toNat l2).1
  have A := c_meets S a1.toNat a2.toNat (sh_of m1 (hN _ l1) q3) (sh_of m2 (hN _ l2) p3) y ey
  have B := pc_doMeet T a1.toNat a2.toNat z (by rw [k1, k2]; exact ez)
  have E := (wi_eq (md_eq m1 q3) (md_eq m2 p3)).2
  clear no
  rcases A with ⟨u1, u2⟩ | ⟨u1, u2⟩
  · rcases B with ⟨w1, w2⟩ | ⟨w1, w2⟩
    · rw [if_pos u1] at h1; rw [if_pos w1] at h2; cases h1; cases h2; rfl
    · exact absurd (E.1 u2) w2
  · rcases B with ⟨w1, w2⟩ | ⟨w1, w2⟩
    · exact absurd (E.2 w2) u2
    · rw [if_neg (by rw [u1]; decide)] at h1; rw [if_neg (by rw [w1]; decide)] at h2; cases h1; cases h2; rfl
theorem RM_within {S T : SS} {a1 a2 r t : Int} (hC : CX 0 S) (hM : MX 0 T) (hN : NX T) (h : RM S T) (h1 : f_MP_within S a1 a2 = some r) (h2 : f_M_within T a1 a2 = some t) : r = t := by
  have b27 := mx_192_27 hM
  have hK := h.2.2.2.1
  unfold f_MP_within at h1
  unfold f_M_within at h2
  obtain ⟨o1, e1, h1⟩ := w_b1E h1
  obtain ⟨o2, e2, h1⟩ := w_b1E h1
  obtain ⟨x1, i1, h2⟩ := w_b1E h2
  have F1 := fn_is hC hK e1
  have F2 := fn_is hC hK e2
  have I1 := im_is i1
  have no : ¬ (0 ≤ a1 ∧ a1 < gi T 192 27 ∧ gi T 199 a1.toNat ≠ 5 ∧ 0 ≤ a2 ∧ a2 < gi T 192 27 ∧ gi T 199 a2.toNat ≠ 5 ∧ a1 ≠ a2) → t = -2 := by
    intro c
    by_cases c1 : x1 = 0
    · rw [if_pos c1] at h2; cases h2; rfl
    rw [if_neg c1] at h2
    obtain ⟨x2, i2, h2⟩ := w_b1E h2
    have I2 := im_is i2
    by_cases c2 : x2 = 0
    · rw [if_pos c2] at h2; cases h2; rfl
    rw [if_neg c2] at h2
    by_cases c3 : a1 = a2
    · rw [if_pos c3] at h2; cases h2; rfl
    rw [if_neg c3] at h2
    obtain ⟨_, h2⟩ := w_chkE h2
    by_cases c4 : gi T 199 a1.toNat = 5
    · rw [if_pos c4] at h2; cases h2; rfl
    rw [if_neg c4] at h2
    obtain ⟨_, h2⟩ := w_chkE h2
    by_cases c5 : gi T 199 a2.toNat = 5
    · rw [if_pos c5] at h2; cases h2; rfl
    exact absurd ⟨by omega, by omega, c4, by omega, by omega, c5, c3⟩ c
  rcases F1 with ⟨q, q1⟩ | ⟨q, q1, q2, q3⟩
  · subst q
    have h1 := w_onN h1
    cases h1
    exact (no (fun w => q1.elim (fun z => z ⟨w.1, w.2.1⟩) (fun z => w.2.2.1 z))).symm
  subst q
  have h1 := w_onS h1
  obtain ⟨_, h1⟩ := w_chkE h1
  rcases F2 with ⟨q, p1⟩ | ⟨q, p1, p2, p3⟩
  · subst q
    have h1 := w_onN h1
    cases h1
    exact (no (fun w => p1.elim (fun z => z ⟨w.2.2.2.1, w.2.2.2.2.1⟩) (fun z => w.2.2.2.2.2.1 z))).symm
  subst q
  have h1 := w_onS h1
  obtain ⟨_, h1⟩ := w_chkE h1
  by_cases c : a1 = a2
  · rw [if_pos c] at h1; cases h1
    exact (no (fun w => w.2.2.2.2.2.2 c)).symm
  rw [if_neg c] at h1
  rw [if_neg (by omega)] at h2
  obtain ⟨x2, i2, h2⟩ := w_b1E h2
  have I2 := im_is i2
  rw [if_neg (by omega), if_neg c] at h2
  obtain ⟨_, h2⟩ := w_chkE h2
  rw [if_neg q3] at h2
  obtain ⟨_, h2⟩ := w_chkE h2
  rw [if_neg p3] at h2
  obtain ⟨y, ey, h1⟩ := w_b1E h1
  obtain ⟨z, ez, h2⟩ := w_b1E h2
  have k1 : ((a1.toNat : Nat) : Int) = a1 := by omega
  have k2 : ((a2.toNat : Nat) : Int) = a2 := by omega
  have l1 : ((a1.toNat : Nat) : Int) < gi T 192 27 := by omega
  have l2 : ((a2.toNat : Nat) : Int) < gi T 192 27 := by omega
  have m1 := (hK.2 a1.toNat l1).1
  have m2 := (hK.2 a2.toNat l2).1
  have A := c_within S a1.toNat a2.toNat (sh_of m1 (hN _ l1) q3) y ey
  have B := pc_isWithin T a1.toNat a2.toNat z (by rw [k1, k2]; exact ez)
  have E := (wi_eq (md_eq m1 q3) (md_eq m2 p3)).1
  clear no
  rcases A with ⟨u1, u2⟩ | ⟨u1, u2⟩
  · rcases B with ⟨w1, w2⟩ | ⟨w1, w2⟩
    · rw [if_pos u1] at h1; rw [if_pos w1] at h2; cases h1; cases h2; rfl
    · exact absurd (E.2 w2) u2
  · rcases B with ⟨w1, w2⟩ | ⟨w1, w2⟩
    · exact absurd (E.1 u2) w2
    · rw [if_neg (by rw [u1]; decide)] at h1; rw [if_neg (by rw [w1]; decide)] at h2; cases h1; cases h2; rfl
