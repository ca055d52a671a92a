theorem RT_answer {S T S1 T1 : SS} {a1 a2 r t : Int} (hC : CX 0 S) (hM : MX 0 T) (hN : NX T) (hM1 : MX 0 T1) (hN1 : NX T1) (h : RT S T) (h1 : f_MP_answer S a1 a2 = some (r, S1)) (h2 : f_M_answer T a1 a2 = some (t, T1)) : RT S1 T1 := by
  have hr := (RM_answer hC hM hN h.1 h1 h2).1
  have l2 := lx_M_answer (X := XNo) (S0 := T) T a1 a2 (LX_refl _ T) _ h2
  have m2 := fm_answer hM a1 a2 _ h2
  have b27 := mx_192_27 hM
  unfold f_MP_answer at h1
  unfold f_M_answer at h2
  obtain ⟨o, e1, h1⟩ := w_b1E h1
  obtain ⟨x, e2, h2⟩ := w_b1E h2
  have F := fd_is hC e1
  have I := im_is e2
  rw [h.1.2.2.2.1.1] at F
  rcases F with ⟨q, q2⟩ | ⟨q, q2, q3⟩
  · subst q
    have h1 := w_onN h1
    cases h1
    rw [if_pos (by omega)] at h2
    cases h2
    exact h
  · subst q
    have h1 := w_onS h1
    obtain ⟨_, h1⟩ := w_chkE h1
    rw [if_neg (by omega)] at h2
    obtain ⟨T3, e3, h2⟩ := w_b1E h2
    obtain ⟨j1, j2⟩ := pc_judge T hM T3 e3
    obtain ⟨_, h2⟩ := w_chkE h2
    have f3 : fr XH T T3 := fun r k a => j1.2 r k (by omega) (by omega)
    rw [j2 a1.toNat (by omega)] at h2
    rw [h.1.2.2.2.2.1 a1.toNat (by omega)] at h1
    by_cases c : m_st T a1.toNat = 3
    · rw [if_pos c] at h1 h2
      have h1 := w_ltX h1
      obtain ⟨bv, hv, h1⟩ : ∃ bv : Int, (bv = 1 ∨ bv = 0) ∧ f_MP_answer_42 a1 a2 (si S (14 + 4 * a1.toNat) 7 0) bv a1.toNat = some (r, S1) := by
        by_cases d : a2 = 0
        · rw [if_pos d] at h1; exact ⟨1, .inl rfl, h1⟩
        · rw [if_neg d] at h1; exact ⟨0, .inr rfl, h1⟩
      unfold f_MP_answer_42 at h1
      obtain ⟨_, h1⟩ := w_chkE h1
      have h1 := w_ltX h1
      obtain ⟨S3, e9, h1⟩ := w_b1E h1
      cases h1
      have C8 : CX 0 (si (si S (14 + 4 * a1.toNat) 7 0) (14 + 4 * a1.toNat) 8 bv) := cs_mk_8 (cs_mk_7 hC (by omega) (by decide) (by decide)) (by omega) (by omega) (by omega)
      refine RT_set C8 hM1 hN1 hr e9 (fun i hi => ?_) (fun i hi => ?_) (fun k hk j hj => ?_)
      · rw [m2 192 3 (by omega)] at hi
        rw [l2.1 193 i (fun z => z)]; exact h.2.1 i hi
      · rw [m2 192 4 (by omega)] at hi
        rw [l2.1 194 i (fun z => z)]; exact h.2.2.1 i hi
      · rw [m2 192 27 (by omega)] at hk
        rw [m2 204 k (by omega)] at hj
        rw [l2.1 206 _ (fun z => z)]; exact h.2.2.2.1 k hk j hj
    · rw [if_neg c] at h1 h2
      cases h1
      cases h2
      exact RT_ref hM hN h f3 ⟨fun r k _ => l2.1 r k (fun z => z), l2.2⟩
abbrev X176 (r : Nat) : Prop := r = 176
theorem RT_first {S T S1 T1 : SS} {r t : Int} (hC : CX 0 S) (hM : MX 0 T) (hN : NX T) (hM1 : MX 0 T1) (hN1 : NX T1) (h : RT S T) (h1 : f_MP_first S = some (r, S1)) (h2 : f_M_first T = some (t, T1)) : RT S1 T1 := by
  have hr := RM_first hC hM h.1 h1 h2
  unfold f_MP_first at h1
  unfold f_M_first at h2
  unfold w_lt at h1 h2
  obtain ⟨r2, S2, e2, h1⟩ := w_b2E h1
  have f2 := fx_SheetReader_readProof (X := XSR) (S0 := S) (x_3_0 := .inl rfl) (x_3_1 := .inl rfl) (x_175_1 := .inr rfl) S 60 (FX_refl _ S) _ e2
  have l2 := lx_SheetReader_readProof (X := X176) (S0 := S) (x_176 := rfl) S 60 (LX_refl _ S) _ e2
  have C2 : CX 0 S2 := (ok_true (ok_SheetReader_readProof S 60 hC (by decide)) _ e2).1
  have g11 : ∀ r k, ¬ (r = 1 ∧ k = 1) → gi (si S2 1 1 0) r k = gi S2 r k := fun r k a => gi_off a
  have C4 : CX 0 (si S2 1 1 0) := cs_1_1 C2 (by decide) (by decide)
  rcases w_b3E h2 with ⟨n, T2, e3, h2⟩ | ⟨T2, e3, h2⟩
  · have q := sim_readProof 60 (by decide) S T h.1.1.1 (cx_1_1 hC) r2 S2 (some n) T2 e2 e3
    have m2 := m_rp_is e3
    have lr := lx_rp e3
    rcases q.2 with ⟨qr, qo, q0, q1, qw⟩ | ⟨_, qo⟩
    · cases qo
      dsimp only at h1
      rw [if_neg (show ¬ r2 = 0 by omega)] at h1
      obtain ⟨S5, e5, h1⟩ := w_b1E h1
      obtain ⟨S9, e9, h1⟩ := w_b1E h1
      cases h1
      have k1 : gi (si S2 1 1 0) 175 1 = gi S2 175 1 := gi_off (by omega)
      have c4 : cap 4 = 60 := by decide
      have c175 : cap 175 = 150 := by decide
      have cp := sh_copy (by decide) (by decide) (by decide) e5 (by omega) (by omega) (by omega)
      have C5 : CX 0 S5 := (ok_true (ok_Sheet_copyFrom _ 4 175 C4 (by decide) (by decide)) _ e5).1
      have F := m_first_is FU T2 T1 (gi S2 175 1) 0 t h2 (Int.le_refl _)
      refine RT_set (S := f_Pile_clear S5) (cx_Pile_clear C5) hM1 hN1 hr e9 (fun i hi => ?_) (fun i hi => ?_) (fun k hk => ?_)
      · rw [F.2.1] at hi
        show gl S5 5 i = _
        rw [cp.2.2.2.2 i (by rw [k1]; exact hi), F.2.2.2.2.2.2 i (by omega) hi]
        exact qw i hi
      · rw [F.2.2.1 192 4 (by omega), m2.2 192 4 (by omega) (by omega)] at hi
        show gl S5 7 i = _
        rw [cp.2.2.1 7 i (by decide), F.2.2.2.2.1 194 i (by decide), lr.1 194 i (by decide)]
        exact (l2.1 7 i (by decide)).trans (h.2.2.1 i hi)
      · rw [F.2.2.2.1] at hk; omega
    · cases qo
  · have q := sim_readProof 60 (by decide) S T h.1.1.1 (cx_1_1 hC) r2 S2 none T2 e2 e3
    have m2 := m_rp_is e3
    have lr := lx_rp e3
    rcases q.2 with ⟨_, qo, _⟩ | ⟨qr, _⟩
    · cases qo
    · dsimp only at h1
      rw [if_pos qr] at h1
      cases h1
      cases h2
      exact RT_mk hM hN h hr (fun r k a => l2.1 r k (by show ¬ r = 176; omega)) (by rw [g11 8 1 (by omega)]; exact f2.1 8 1 (by omega)) (fun r k a => lr.1 r k (by show ¬ r = 198; omega)) (fun r k p => m2.2 r k (by omega) (by omega))
theorem RT_second {S T S1 T1 : SS} {r t : Int} (hC : CX 0 S) (hM : MX 0 T) (hN : NX T) (h : RT S T) (h1 : f_MP_second S = some (r, S1)) (h2 : f_M_second T = some (t, T1)) : RT S1 T1 := by
  have hr := RM_second hC hM h.1 h1 h2
  unfold f_MP_second at h1
  unfold f_M_second at h2
  unfold w_lt at h1 h2
  obtain ⟨r2, S2, e2, h1⟩ := w_b2E h1
  have f2 := fx_SheetReader_readProof (X := XSR) (S0 := S) (x_3_0 := .inl rfl) (x_3_1 := .inl rfl) (x_175_1 := .inr rfl) S 150 (FX_refl _ S) _ e2
  have l2 := lx_SheetReader_readProof (X := X176) (S0 := S) (x_176 := rfl) S 150 (LX_refl _ S) _ e2
  have g11 : ∀ r k, ¬ (r = 1 ∧ k = 1) → gi (si S2 1 1 0) r k = gi S2 r k := fun r k a => gi_off a
  rcases w_b3E h2 with ⟨n, T2, e3, h2⟩ | ⟨T2, e3, h2⟩
  · have q := sim_readProof 150 (by decide) S T h.1.1.1 (cx_1_1 hC) r2 S2 (some n) T2 e2 e3
    have m2 := m_rp_is e3
    have lr := lx_rp e3
    rcases q.2 with ⟨qr, qo, q0, q1, qw⟩ | ⟨_, qo⟩
    · cases qo
      dsimp only at h1
      rw [if_neg (show ¬ r2 = 0 by omega)] at h1
      obtain ⟨S5, e5, h1⟩ := w_b1E h1
      cases h1
      have k1 : gi (si S2 1 1 0) 175 1 = gi S2 175 1 := gi_off (by omega)
      have c6 : cap 6 = 150 := by decide
      have c175 : cap 175 = 150 := by decide
      have cp := sh_copy (by decide) (by decide) (by decide) e5 (by omega) (by omega) (by omega)
      have F := m_second_is FU T2 T1 (gi S2 175 1) 0 t h2 (Int.le_refl _)
      obtain ⟨_, h2', h3', h4', h5'⟩ := id h
      have ti : ∀ r k, ¬ (r = 192 ∧ (k = 4 ∨ k = 8 ∨ k = 9 ∨ k = 11 ∨ k = 14 ∨ k = 15)) → gi T1 r k = gi T r k := fun r k a => by rw [F.2.2.1 r k (by omega)]; exact m2.2 r k (by omega) (by omega)
      have tl : ∀ r k, r ≠ 194 → r ≠ 198 → gl T1 r k = gl T r k := fun r k a c => by rw [F.2.2.2.1 r k a]; exact lr.1 r k c
      have sl' : ∀ r k, r ≠ 7 → r ≠ 176 → gl S1 r k = gl S r k := fun r k a c => by rw [cp.2.2.1 r k a]; exact l2.1 r k c
      have en := ti 192 27 (by omega)
      have b27 := mx_192_27 hM
      refine ⟨hr, fun i hi => ?_, fun i hi => ?_, fun k hk j hj => ?_, ?_⟩
      · rw [ti 192 3 (by omega)] at hi
        rw [sl' 5 i (by omega) (by omega), tl 193 i (by omega) (by omega)]; exact h2' i hi
      · rw [F.2.1] at hi
        rw [cp.2.2.2.2 i (by rw [k1]; exact hi), F.2.2.2.2.2 i (by omega) hi]
        exact qw i hi
      · rw [en] at hk
        rw [ti 204 k (by omega)] at hj
        rw [sl' (14 + 4 * k + 3) j (by omega) (by omega), tl 206 _ (by omega) (by omega)]; exact h4' k hk j hj
      · rw [tx_cg hM hN 0 en (ti 192 3 (by omega)) (mst_cg en (fun r k a => ti r k (by omega))) (fun r k a _ => ti r k (by omega)) (fun i _ => tl 193 i (by omega) (by omega)) (fun k _ j _ => tl 206 _ (by omega) (by omega))]
        exact HL_cg h5' (by rw [cp.2.1 8 1 (by omega), g11 8 1 (by omega)]; exact f2.1 8 1 (by omega)) (fun i _ => sl' 9 i (by omega) (by omega))
    · cases qo
  · have q := sim_readProof 150 (by decide) S T h.1.1.1 (cx_1_1 hC) r2 S2 none T2 e2 e3
    have m2 := m_rp_is e3
    have lr := lx_rp e3
    rcases q.2 with ⟨_, qo, _⟩ | ⟨qr, _⟩
    · cases qo
    · dsimp only at h1
      rw [if_pos qr] at h1
      cases h1
      cases h2
      exact RT_mk hM hN h hr (fun r k a => l2.1 r k (by show ¬ r = 176; omega)) (by rw [g11 8 1 (by omega)]; exact f2.1 8 1 (by omega)) (fun r k a => lr.1 r k (by show ¬ r = 198; omega)) (fun r k p => m2.2 r k (by omega) (by omega))
theorem RT_next {S T S1 T1 : SS} {r t : Int} (hC : CX 0 S) (hM : MX 0 T) (hM1 : MX 0 T1) (hN1 : NX T1) (h : RT S T) (h1 : f_MP_next S = some (r, S1)) (h2 : f_M_next T = some (t, T1)) : RT S1 T1 := by
  have hr := RM_next hC hM h.1 h1 h2
  have e6 := h.1.1.2.2.1
  unfold f_MP_next at h1
  unfold f_M_next at h2
  have i1 := in01 T (gi T 192 4) 1 60
  have b6 := cx_sh hC (q := 6) (by decide)
  by_cases c : 1 ≤ gi T 192 4 ∧ gi T 192 4 ≤ 60
  · rw [if_neg (by omega), if_pos (by omega)] at h1
    rw [if_neg (by omega)] at h2
    obtain ⟨S3, e3, h1⟩ := w_b1E h1
    have h1 := w_ltX h1
    have h1 := w_ltX h1
    obtain ⟨S9, e9, h1⟩ := w_b1E h1
    cases h1
    have c4 : cap 4 = 60 := by decide
    have c6 : cap 6 = 150 := by decide
    have cp := sh_copy (by decide) (by decide) (by decide) e3 (by omega) (by omega) (by omega)
    have C3 : CX 0 S3 := (ok_true (ok_Sheet_copyFrom _ 4 6 hC (by decide) (by decide)) _ e3).1
    have C5 : CX 0 (f_Sheet_clear S3 6) := cs_sh C3 (by decide) (by decide) (by decide)
    have F := m_next_is FU T T1 0 t h2 (Int.le_refl _)
    refine RT_set (S := f_Pile_clear (f_Sheet_clear S3 6)) (cx_Pile_clear C5) hM1 hN1 hr e9 (fun i hi => ?_) (fun i hi => ?_) (fun k hk => ?_)
    · rw [F.2.1] at hi
      show gl S3 5 i = _
      rw [cp.2.2.2.2 i (by rw [e6]; exact hi), F.2.2.2.2.2.2.2 i (by omega) hi]
      exact h.2.2.1 i hi
    · rw [F.2.2.1] at hi; omega
    · rw [F.2.2.2.1] at hk; omega
  · rw [if_pos (by omega)] at h2
    cases h2
    by_cases d : gi S 6 1 = 0
    · rw [if_pos d] at h1; cases h1; exact h
    · rw [if_neg d, if_neg (by omega)] at h1; cases h1; exact h
theorem RT_marks {S T S1 T1 : SS} {r t : Int} (hC : CX 0 S) (hM : MX 0 T) (hN : NX T) (hM1 : MX 0 T1) (hN1 : NX T1) (h : RT S T) (h1 : f_MP_marks S = some (r, S1)) (h2 : f_M_marks T = some (t, T1)) : RT S1 T1 := by
  have b27 := mx_192_27 hM
  have hr := (RM_marks hC hM hN h.1 h1 h2).1
  obtain ⟨n0, hn⟩ : ∃ n0 : Nat, gi T 192 27 = (n0 : Int) := ⟨(gi T 192 27).toNat, by omega⟩
  unfold f_MP_marks at h1
  obtain ⟨r3, S2, e2, h1⟩ := w_b2E h1
  obtain ⟨y1, y2, y3, y4, y5, y6⟩ := rd_sim hC hM h.1 hn e2 h2
  have b4 := cx_sh hC (q := 4) (by decide)
  have c4 : cap 4 = 60 := by decide
  have C2 := ok_true (ok_MarkReader_readMarks S (gi S 4 1) hC (cx_10_3 hC).2 (by omega)) _ e2
  have h1 := w_ltX h1
  have g11 : ∀ r k, ¬ (r = 1 ∧ k = 1) → gi (si S2 1 1 0) r k = gi S2 r k := fun r k a => gi_off a
  have C5 : CX 0 (si S2 1 1 0) := cs_1_1 C2.1 (by decide) (by decide)
  have l5 : ∀ r k, gl (si S2 1 1 0) r k = gl S2 r k := fun _ _ => rfl
  generalize si S2 1 1 0 = S5 at h1 g11 C5 l5
  have gS : ∀ r k, ¬ (r = 3 ∨ r = 177 ∨ (r = 10 ∧ k = 4) ∨ (r = 1 ∧ k = 1) ∨ (14 + 4 * n0 ≤ r ∧ r ≤ 176)) → gi S5 r k = gi S r k := fun r k a => by rw [g11 r k (by omega)]; exact y2 r k (by omega)
  have lS : ∀ r k, (r < 14 + 4 * n0 ∨ 178 ≤ r) → gl S5 r k = gl S r k := fun r k a => by rw [l5]; exact y4 r k a
  obtain ⟨hR', hf', hs', hm', hx'⟩ := h
  have wf : WF S5 T1 := fun i hi => by
    rw [y3 192 3 (by omega)] at hi
    rw [lS 5 i (by omega), y5 193 i (by omega)]; exact hf' i hi
  have ws : WS S5 T1 := fun i hi => by
    rw [y3 192 4 (by omega)] at hi
    rw [lS 7 i (by omega), y5 194 i (by omega)]; exact hs' i hi
  have old : ∀ k : Nat, k < n0 → ∀ j : Nat, (j : Int) < gi T1 204 k → gl S5 (14 + 4 * k + 3) j = gl T1 206 (6 * k + j) := fun k hk j hj => by
    rw [y3 204 k (by omega)] at hj
    have b := mx_204 hM k
    rw [lS (14 + 4 * k + 3) j (by omega), y5 206 _ (by omega)]; exact hm' k (by omega) j hj
  rcases y6 with ⟨q1, q2, q3⟩ | ⟨m', q1, q2, q3, q4, q5, q6, q7, q8⟩
  · rw [if_pos q1] at h1
    cases h1
    have en : gi T1 192 27 = gi T 192 27 := by rw [q3, hn]
    have ht : ∀ r k : Nat, (199 ≤ r ∧ r ≤ 208) → (k : Int) < gi T 192 27 → gi T1 r k = gi T r k := fun r k a b => y3 r k (by omega)
    refine ⟨hr, wf, ws, fun k hk => old k (by omega), ?_⟩
    rw [tx_cg hM hN 0 en (y3 192 3 (by omega)) (mst_cg2 en ht (fun k => y3 209 k (by omega))) (fun r k a b => ht r k (by omega) b) (fun i _ => y5 193 i (by omega)) (fun k hk j hj => y5 206 _ (by omega))]
    exact HL_cg hx' (gS 8 1 (by omega)) (fun i _ => lS 9 i (by omega))
  · rw [if_neg (by omega)] at h1
    obtain ⟨r7, S6, e6, h1⟩ := w_b2E h1
    obtain ⟨S9, e9, h1⟩ := w_b1E h1
    cases h1
    have C6 : CX 0 S6 := (ok_true (ok_Pile_accept S5 C5 (by rw [g11 10 3 (by omega), g11 10 4 (by omega)]; exact C2.2.1)) _ e6).1
    have l6 := lx_Pile_accept (X := XNo) (S0 := S5) S5 (LX_refl _ S5) _ e6
    refine RT_set C6 hM1 hN1 hr e9 (fun i hi => ?_) (fun i hi => ?_) (fun k hk j hj => ?_)
    · rw [l6.1 5 i (fun z => z)]; exact wf i hi
    · rw [l6.1 7 i (fun z => z)]; exact ws i hi
    · rw [l6.1 _ j (fun z => z)]
      by_cases c : k < n0
      · exact old k c j hj
      · rw [l5]
        exact (q7 k (by omega) (by omega)).2.2.2.2.2.1.2.2.2 j hj
