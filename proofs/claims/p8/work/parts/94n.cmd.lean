/-- no marks: nothing decided -/
theorem RK_nil {S T : SS} (h3 : gi S 10 3 = 0) (h27 : gi T 192 27 = 0) : RK S T := ⟨by rw [h3, h27], fun k hk => absurd hk (by rw [h27]; omega)⟩
theorem NX_nil {T : SS} (h27 : gi T 192 27 = 0) : NX T := fun k hk => absurd hk (by rw [h27]; omega)
theorem pcl_is (S : SS) : gi (f_Pile_clear S) 10 3 = 0 ∧ ∀ r k, r ≠ 10 → gi (f_Pile_clear S) r k = gi S r k := by
  refine ⟨?_, fun r k a => ?_⟩
  · show gi (si (si (si S 10 3 0) 10 4 0) 10 5 0) 10 3 = 0
    rw [gi_off (by omega), gi_off (by omega), gi_at]
  · show gi (si (si (si S 10 3 0) 10 4 0) 10 5 0) r k = _
    rw [gi_off (by omega), gi_off (by omega), gi_off (by omega)]
theorem CD_nil {S T : SS} (h27 : gi T 192 27 = 0) (h5 : gi S 10 5 = 0) : CD S T := ⟨fun j hj => absurd hj (by rw [h27]; omega), by rw [h5, h27]; rfl, fun j hj => absurd hj (by rw [h27]; omega)⟩
theorem RM_first {S T S1 T1 : SS} {r t : Int} (hC : CX 0 S) (hM : MX 0 T) (h : RM S T) (h1 : f_MP_first S = some (r, S1)) (h2 : f_M_first T = some (t, T1)) : RM S1 T1 := by
  have hb := (RBX_first hC h.1 h1 h2).1
  unfold f_MP_first at h1
  unfold f_M_first at h2
  unfold w_lt at h1 h2
  obtain ⟨r2, S2, e2, h1⟩ := w_b2E h1
  have f2 := fx_SheetReader_readProof (X := XSR) (S0 := S) (x_3_0 := .inl rfl) (x_3_1 := .inl rfl) (x_175_1 := .inr rfl) S 60 (FX_refl _ S) _ e2
  have C2 : CX 0 S2 := (ok_true (ok_SheetReader_readProof S 60 hC (by decide)) _ e2).1
  have g11 : ∀ r k, ¬ (r = 1 ∧ k = 1) → gi (si S2 1 1 0) r k = gi S2 r k := fun r k a => gi_off a
  have C4 : CX 0 (si S2 1 1 0) := cs_1_1 C2 (by decide) (by decide)
  rcases w_b3E h2 with ⟨n, T2, e3, h2⟩ | ⟨T2, e3, h2⟩
  · have q := sim_readProof 60 (by decide) S T h.1.1 (cx_1_1 hC) r2 S2 (some n) T2 e2 e3
    have m2 := m_rp_is e3
    rcases q.2 with ⟨qr, qo, q0, q1, _⟩ | ⟨_, qo⟩
    · cases qo
      dsimp only at h1
      rw [if_neg (show ¬ r2 = 0 by omega)] at h1
      obtain ⟨S5, e5, h1⟩ := w_b1E h1
      obtain ⟨S9, e9, h1⟩ := w_b1E h1
      cases h1
      have k1 : gi (si S2 1 1 0) 175 1 = gi S2 175 1 := gi_off (by omega)
      have c4 : cap 4 = 60 := by decide
      have c175 : cap 175 = 150 := by decide
      have cp := sh_copy (by decide) (by decide) (by decide) e5 (by omega) (by omega) (by omega)
      have C5 : CX 0 S5 := (ok_true (ok_Sheet_copyFrom _ 4 175 C4 (by decide) (by decide)) _ e5).1
      have F := m_first_is FU T2 T1 (gi S2 175 1) 0 t h2 (Int.le_refl _)
      have z27 : gi T1 192 27 = 0 := F.2.2.2.1
      have pl := pcl_is S5
      have M1 : MX 0 T1 := (ok_true (ok_M_first T hM) (t, T1) (by unfold f_M_first w_lt; show w_b3 _ _ _ = _; rw [e3]; exact h2)).1
      have st := st_settle (S := f_Pile_clear S5) (T := T1) (cx_Pile_clear C5) M1 (NX_nil z27) (RK_nil pl.1 z27) (fun k => by
        rw [pl.2 12 k (by omega), cp.2.1 12 k (by omega), g11 12 k (by omega), f2.1 12 k (by omega), F.2.2.1 209 k (by omega), m2.2 209 k (by omega) (by omega)]
        exact h.1.2.2.2.1 k) S1 e9
      refine ⟨hb, fun k => ?_, ?_, RK_nil ?_ z27, st.2⟩
      · rw [F.2.2.1 197 k (by omega), m2.2 197 k (by omega) (by omega)]; exact h.2.1 k
      · refine FE_keep q.1 (fun k => ?_) (F.2.2.1 192 14 (by omega)) (F.2.2.1 192 15 (by omega))
        rw [st.1 3 k (by omega), pl.2 3 k (by omega), cp.2.1 3 k (by omega), g11 3 k (by omega)]
      · rw [st.1 10 3 (by omega)]; exact pl.1
    · cases qo
  · have q := sim_readProof 60 (by decide) S T h.1.1 (cx_1_1 hC) r2 S2 none T2 e2 e3
    have m2 := m_rp_is e3
    rcases q.2 with ⟨_, qo, _⟩ | ⟨qr, _⟩
    · cases qo
    · dsimp only at h1
      rw [if_pos qr] at h1
      cases h1
      cases h2
      exact RM_mk hM h hb (fun k => by rw [m2.2 197 k (by omega) (by omega)]; exact h.2.1 k) (FE_keep q.1 (fun k => g11 3 k (by omega)) rfl rfl) (fun r k p => by rw [g11 r k (by omega)]; exact f2.1 r k (by omega)) (fun r k p => m2.2 r k (by omega) (by omega))
theorem RM_second {S T S1 T1 : SS} {r t : Int} (hC : CX 0 S) (hM : MX 0 T) (h : RM S T) (h1 : f_MP_second S = some (r, S1)) (h2 : f_M_second T = some (t, T1)) : RM S1 T1 := by
  have hb := (RBX_second hC h.1 h1 h2).1
  unfold f_MP_second at h1
  unfold f_M_second at h2
  unfold w_lt at h1 h2
  obtain ⟨r2, S2, e2, h1⟩ := w_b2E h1
  have f2 := fx_SheetReader_readProof (X := XSR) (S0 := S) (x_3_0 := .inl rfl) (x_3_1 := .inl rfl) (x_175_1 := .inr rfl) S 150 (FX_refl _ S) _ e2
  have g11 : ∀ r k, ¬ (r = 1 ∧ k = 1) → gi (si S2 1 1 0) r k = gi S2 r k := fun r k a => gi_off a
  rcases w_b3E h2 with ⟨n, T2, e3, h2⟩ | ⟨T2, e3, h2⟩
  · have q := sim_readProof 150 (by decide) S T h.1.1 (cx_1_1 hC) r2 S2 (some n) T2 e2 e3
    have m2 := m_rp_is e3
    rcases q.2 with ⟨qr, qo, q0, q1, _⟩ | ⟨_, qo⟩
    · cases qo
      dsimp only at h1
      rw [if_neg (show ¬ r2 = 0 by omega)] at h1
      obtain ⟨S5, e5, h1⟩ := w_b1E h1
      cases h1
      have k1 : gi (si S2 1 1 0) 175 1 = gi S2 175 1 := gi_off (by omega)
      have c6 : cap 6 = 150 := by decide
      have c175 : cap 175 = 150 := by decide
      have cp := sh_copy (by decide) (by decide) (by decide) e5 (by omega) (by omega) (by omega)
      have F := m_second_is FU T2 T1 (gi S2 175 1) 0 t h2 (Int.le_refl _)
      refine RM_mk hM h hb (fun k => ?_) (FE_keep q.1 (fun k => ?_) (F.2.2.1 192 14 (by omega)) (F.2.2.1 192 15 (by omega))) (fun r k p => ?_) (fun r k p => ?_)
      · rw [F.2.2.1 197 k (by omega), m2.2 197 k (by omega) (by omega)]; exact h.2.1 k
      · rw [cp.2.1 3 k (by omega), g11 3 k (by omega)]
      · rw [cp.2.1 r k (by omega), g11 r k (by omega)]; exact f2.1 r k (by omega)
      · rw [F.2.2.1 r k (by omega)]; exact m2.2 r k (by omega) (by omega)
    · cases qo
  · have q := sim_readProof 150 (by decide) S T h.1.1 (cx_1_1 hC) r2 S2 none T2 e2 e3
    have m2 := m_rp_is e3
    rcases q.2 with ⟨_, qo, _⟩ | ⟨qr, _⟩
    · cases qo
    · dsimp only at h1
      rw [if_pos qr] at h1
      cases h1
      cases h2
      exact RM_mk hM h hb (fun k => by rw [m2.2 197 k (by omega) (by omega)]; exact h.2.1 k) (FE_keep q.1 (fun k => g11 3 k (by omega)) rfl rfl) (fun r k p => by rw [g11 r k (by omega)]; exact f2.1 r k (by omega)) (fun r k p => m2.2 r k (by omega) (by omega))
theorem RM_next {S T S1 T1 : SS} {r t : Int} (hC : CX 0 S) (hM : MX 0 T) (h : RM S T) (h1 : f_MP_next S = some (r, S1)) (h2 : f_M_next T = some (t, T1)) : RM S1 T1 := by
  have hb := (RBX_next hC h.1 h1 h2).1
  have e6 := h.1.2.2.1
  have M1 : MX 0 T1 := (ok_true (ok_M_next T hM) (t, T1) h2).1
  unfold f_MP_next at h1
  unfold f_M_next at h2
  have i1 := in01 T (gi T 192 4) 1 60
  have b6 := cx_sh hC (q := 6) (by decide)
  by_cases c : 1 ≤ gi T 192 4 ∧ gi T 192 4 ≤ 60
  · rw [if_neg (by omega), if_pos (by omega)] at h1
    rw [if_neg (by omega)] at h2
    obtain ⟨S3, e3, h1⟩ := w_b1E h1
    have h1 := w_ltX h1
    have h1 := w_ltX h1
    obtain ⟨S9, e9, h1⟩ := w_b1E h1
    cases h1
    have c4 : cap 4 = 60 := by decide
    have c6 : cap 6 = 150 := by decide
    have cp := sh_copy (by decide) (by decide) (by decide) e3 (by omega) (by omega) (by omega)
    have C3 : CX 0 S3 := (ok_true (ok_Sheet_copyFrom _ 4 6 hC (by decide) (by decide)) _ e3).1
    have C5 : CX 0 (f_Sheet_clear S3 6) := cs_sh C3 (by decide) (by decide) (by decide)
    have g5 : ∀ r k, ¬ (r = 6 ∧ k = 1) → gi (f_Sheet_clear S3 6) r k = gi S3 r k := fun r k a => gi_off a
    have F := m_next_is FU T T1 0 t h2 (Int.le_refl _)
    have z27 : gi T1 192 27 = 0 := F.2.2.2.1
    have pl := pcl_is (f_Sheet_clear S3 6)
    have st := st_settle (S := f_Pile_clear (f_Sheet_clear S3 6)) (T := T1) (cx_Pile_clear C5) M1 (NX_nil z27) (RK_nil pl.1 z27) (fun k => by
      rw [pl.2 12 k (by omega), g5 12 k (by omega), cp.2.1 12 k (by omega), F.2.2.2.2.1 209 k (by omega)]
      exact h.1.2.2.2.1 k) S1 e9
    refine ⟨hb, fun k => ?_, ?_, RK_nil ?_ z27, st.2⟩
    · rw [F.2.2.2.2.1 197 k (by omega)]; exact h.2.1 k
    · refine FE_keep h.2.2.1 (fun k => ?_) (F.2.2.2.2.1 192 14 (by omega)) (F.2.2.2.2.1 192 15 (by omega))
      rw [st.1 3 k (by omega), pl.2 3 k (by omega), g5 3 k (by omega), cp.2.1 3 k (by omega)]
    · rw [st.1 10 3 (by omega)]; exact pl.1
  · rw [if_pos (by omega)] at h2
    cases h2
    by_cases d : gi S 6 1 = 0
    · rw [if_pos d] at h1; cases h1; exact h
    · rw [if_neg d, if_neg (by omega)] at h1; cases h1; exact h
theorem RM_rank {S T S1 T1 : SS} {a1 a2 r t : Int} (hC : CX 0 S) (hM : MX 0 T) (hN : NX T) (h : RM S T) (h1 : f_MP_rank S a1 a2 = some (r, S1)) (h2 : f_M_rank T a1 a2 = some (t, T1)) : RM S1 T1 := by
  have hb := (RBX_rank h.1 h1 h2).1
  have M1 : MX 0 T1 := (ok_true (ok_M_rank T a1 a2 hM) (t, T1) h2).1
  have i1 := in01 T a1 0 2
  have i2 := in01 T a2 0 9
  have b27 := mx_192_27 hM
  unfold f_MP_rank at h1
  unfold f_M_rank at h2
  by_cases c : 0 ≤ a1 ∧ a1 ≤ 2 ∧ 0 ≤ a2 ∧ a2 ≤ 9
  · rw [if_neg (by omega), if_neg (by omega), if_neg (by omega), if_pos (by omega)] at h1
    rw [if_neg (by omega), if_neg (by omega)] at h2
    obtain ⟨_, h2⟩ := w_chkE h2
    obtain ⟨_, h2⟩ := w_chkE h2
    have h2 := w_ltX h2
    cases h2
    obtain ⟨r1, er, h1⟩ := w_b1E h1
    obtain ⟨_, h1⟩ := w_chkE h1
    have h1 := w_ltX h1
    obtain ⟨S4, e4, h1⟩ := w_b1E h1
    cases h1
    have gS : ∀ r k, r ≠ 12 → gi (si S 12 a1.toNat a2) r k = gi S r k := fun r k a => gi_off (fun q => a q.1)
    have gT : ∀ r k, r ≠ 209 → gi (si T 209 a1.toNat a2) r k = gi T r k := fun r k a => gi_off (fun q => a q.1)
    have K1 : RK (si S 12 a1.toNat a2) (si T 209 a1.toNat a2) := by
      refine ⟨by rw [gS 10 3 (by omega), gT 192 27 (by omega)]; exact h.2.2.2.1.1, fun k hk => ?_⟩
      rw [gT 192 27 (by omega)] at hk
      obtain ⟨m, v⟩ := h.2.2.2.1.2 k hk
      refine ⟨MN_keep m (fun r j a => gS r j (by omega)) (fun r a => gT r k (by omega)), ?_⟩
      unfold VW at v ⊢
      have ov : m_ov (si T 209 a1.toNat a2) k ↔ m_ov T k := by
        constructor
        · rintro ⟨s, x1, x2, x3, x4⟩
          exact ⟨s, x1, by rw [← gT 192 27 (by omega)]; exact x2, by rw [← gT 199 s (by omega)]; exact x3, by rw [← gT 201 s (by omega)]; exact x4⟩
        · rintro ⟨s, x1, x2, x3, x4⟩
          exact ⟨s, x1, by rw [gT 192 27 (by omega)]; exact x2, by rw [gT 199 s (by omega)]; exact x3, by rw [gT 201 s (by omega)]; exact x4⟩
      rw [gS _ 7 (by omega), gS _ 8 (by omega), gT 207 k (by omega), gT 205 k (by omega), propext ov]
      exact v
    have N1 : NX (si T 209 a1.toNat a2) := fun k hk => by
      rw [gT 192 27 (by omega)] at hk
      have := hN k hk
      unfold m_val at this ⊢
      rw [gT 199 k (by omega), gT 201 k (by omega), gT 202 k (by omega), gT 203 k (by omega), gT 192 3 (by omega)]
      exact this
    have st := st_settle (S := si S 12 a1.toNat a2) (T := si T 209 a1.toNat a2) (cs_12 hC (by omega) (by omega)) M1 N1 K1 (fun k => by
      rw [gi_si, gi_si]
      by_cases e : k = a1.toNat
      · left; rw [if_pos ⟨rfl, e⟩, if_pos ⟨rfl, e⟩]
      · rw [if_neg (fun q => e q.2), if_neg (fun q => e q.2)]; exact h.1.2.2.2.1 k) S1 e4
    refine ⟨hb, fun k => by rw [gT 197 k (by omega)]; exact h.2.1 k, FE_keep h.2.2.1 (fun k => by rw [st.1 3 k (by omega)]; exact gS 3 k (by omega)) (gT 192 14 (by omega)) (gT 192 15 (by omega)), ⟨by rw [st.1 10 3 (by omega)]; exact K1.1, fun k hk => ?_⟩, st.2⟩
    rw [gT 192 27 (by omega)] at hk
    obtain ⟨m, v⟩ := K1.2 k (by rw [gT 192 27 (by omega)]; exact hk)
    refine ⟨MN_keep m (fun r j a => st.1 r j (by omega)) (fun r a => rfl), ?_⟩
    unfold VW at v ⊢
    rw [st.1 _ 7 (by omega), st.1 _ 8 (by omega)]
    exact v
  · have q2 : T1 = T := by
      by_cases d : 0 ≤ a1 ∧ a1 ≤ 2
      · rw [if_neg (by omega), if_pos (by omega)] at h2; cases h2; rfl
      · rw [if_pos (by omega)] at h2; cases h2; rfl
    have q1 : S1 = S := by
      by_cases d1 : a1 < 0
      · rw [if_pos d1] at h1; cases h1; rfl
      rw [if_neg d1] at h1
      by_cases d2 : 3 ≤ a1
      · rw [if_pos d2] at h1; cases h1; rfl
      rw [if_neg d2] at h1
      by_cases d3 : a2 < 0
      · rw [if_pos d3] at h1; cases h1; rfl
      rw [if_neg d3, if_neg (by omega)] at h1; cases h1; rfl
    rw [q1, q2]; exact h
