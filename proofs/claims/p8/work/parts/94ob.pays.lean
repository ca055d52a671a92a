theorem RM_fault {S T : SS} (h : RM S T) (a : Int) : f_MP_fault S a = f_M_fault T a := by
  unfold f_MP_fault f_M_fault
  rw [h.2.2.1.1, h.2.2.1.2]
/-- whose a mark is: 1 the printer's, 0 the author's -/
def cnd (T : SS) (k : Nat) : Int := if gi T 200 k = 2 then 1 else if gi T 208 k = 0 then 0 else 1
/-- what the first k marks come to -/
noncomputable def ps (T : SS) (w : Int) : Nat → Int
  | 0 => 0
  | k + 1 => ps T w k + (if m_st T k = 0 then (if cnd T k = w then gi T 210 (gi T 199 k).toNat else 0) else 0)
theorem pr_ref (T S3 : SS) (w a1 : Int) (hw : (a1 = 1 ∧ w = 1) ∨ (a1 ≠ 1 ∧ w = 0)) (f3 : fr XH T S3) (h0 : 0 ≤ gi T 192 27) (hj : ∀ j : Nat, (j : Int) < gi T 192 27 → gi S3 212 j = m_st T j) : ∀ (n : Nat) (k : Nat), (k : Int) ≤ gi T 192 27 → pc (f_M_pays_21 a1 n S3 (ps T w k) (k : Int)) (fun u => u.1 = ps T w (gi T 192 27).toNat) := by
  intro n
  induction n with
  | zero => intro k _ r e; exact absurd e (by simp [f_M_pays_21])
  | succ n ih =>
    intro k hk
    show pc (f_M_pays_21_b a1 (f_M_pays_21 a1 n) S3 (ps T w k) (k : Int)) _
    unfold f_M_pays_21_b
    rw [f3 192 27 (by omega), Int.toNat_natCast]
    refine pc_if (fun c => pc_some ?_) (fun c => pc_chk (fun _ => ?_))
    · show ps T w k = _
      rw [show (gi T 192 27).toNat = k by omega]
    rw [hj k (by omega), f3 200 k (by omega), f3 208 k (by omega)]
    have go : ∀ d v : Int, ps T w (k + 1) = v + d → pc (f_M_pays_91 a1 (f_M_pays_21 a1 n) S3 (k : Int) d v) (fun u => u.1 = ps T w (gi T 192 27).toNat) := by
      intro d v e
      unfold f_M_pays_91
      refine pc_chk (fun _ => pc_chk (fun _ => ?_))
      rw [← e, show (k : Int) + 1 = ((k + 1 : Nat) : Int) by omega]
      exact ih (k + 1) (by omega)
    have st : ∀ c : Int, cnd T k = c → m_st T k = 0 → pc (f_M_pays_63 a1 (f_M_pays_21 a1 n) S3 (k : Int) c (ps T w k)) (fun u => u.1 = ps T w (gi T 192 27).toNat) := by
      intro c ec es
      unfold f_M_pays_63
      have x73 : pc (f_M_pays_73 a1 (f_M_pays_21 a1 n) S3 (k : Int) w c (ps T w k)) (fun u => u.1 = ps T w (gi T 192 27).toNat) := by
        unfold f_M_pays_73 f_M_pays_90
        rw [Int.toNat_natCast]
        refine pc_if (fun c1 => pc_chk (fun _ => pc_chk (fun _ => go _ _ ?_))) (fun c1 => go _ _ ?_)
        · rw [ps, if_pos es, if_pos (ec.trans c1), f3 199 k (by omega), f3 210 _ (by omega)]
        · rw [ps, if_pos es, if_neg (fun q => c1 (ec.symm.trans q))]
      refine pc_if (fun c1 => ?_) (fun c1 => ?_)
      · have : w = 1 := by omega
        rw [this] at x73 ⊢; exact x73
      · have : w = 0 := by omega
        rw [this] at x73 ⊢; exact x73
    refine pc_if (fun cs => pc_chk (fun _ => pc_if (fun c2 => ?_) (fun c2 => pc_chk (fun _ => pc_if (fun c8 => st 0 ?_ cs) (fun c8 => ?_))))) (fun cs => ?_)
    · unfold f_M_pays_58
      exact st 1 (by unfold cnd; rw [if_pos c2]) cs
    · unfold cnd; rw [if_neg c2, if_pos c8]
    · unfold f_M_pays_58
      exact st 1 (by unfold cnd; rw [if_neg c2, if_neg c8]) cs
    · unfold f_M_pays_90
      exact go 0 _ (by rw [ps, if_neg cs])
theorem dn_le (st : Nat → Int) : ∀ k : Nat, m_dn st k ≤ k := by
  intro k
  induction k with
  | zero => exact Nat.le_refl _
  | succ k ih => rw [m_dn]; split <;> omega
theorem dn_mono (st : Nat → Int) (k : Nat) : ∀ c : Nat, m_dn st k ≤ m_dn st (k + c) := by
  intro c
  induction c with
  | zero => exact Nat.le_refl _
  | succ c ih => rw [show k + (c + 1) = (k + c) + 1 by omega, m_dn]; omega
theorem pr_cls {S T : SS} (hC : CX 0 S) (hM : MX 0 T) (hN : NX T) (h : RM S T) (w : Int) : ∀ (c k fuel : Nat), k + c = (gi T 192 27).toNat → pc (f_Bill_sum_5 S w fuel (ps T w k) (m_dn (m_st T) k : Int)) (fun r => r = ps T w (gi T 192 27).toNat) := by
  have b27 := mx_192_27 hM
  obtain ⟨hR, hy, hf, hK, hD⟩ := h
  intro c
  induction c with
  | zero =>
    intro k fuel hk
    have ek : k = (gi T 192 27).toNat := by omega
    cases fuel with
    | zero => intro r e; exact absurd e (by simp [f_Bill_sum_5])
    | succ fuel =>
      show pc (f_Bill_sum_5_b S w (f_Bill_sum_5 S w fuel) (ps T w k) (m_dn (m_st T) k : Int)) _
      unfold f_Bill_sum_5_b
      rw [if_pos (by rw [hD.2.1, ek]; exact Int.le_refl _)]
      exact pc_some (by rw [ek])
  | succ c ih =>
    intro k fuel hk
    by_cases cs : m_st T k = 0
    · cases fuel with
      | zero => intro r e; exact absurd e (by simp [f_Bill_sum_5])
      | succ fuel =>
        have dk := dn_le (m_st T) k
        have d1 : m_dn (m_st T) (k + 1) = m_dn (m_st T) k + 1 := by rw [m_dn, if_pos cs]
        have dm := dn_mono (m_st T) (k + 1) c
        rw [show k + 1 + c = (gi T 192 27).toNat by omega] at dm
        have hcnt := hD.2.1
        have h13 := hD.2.2 k (by omega) cs
        show pc (f_Bill_sum_5_b S w (f_Bill_sum_5 S w fuel) (ps T w k) (m_dn (m_st T) k : Int)) _
        unfold f_Bill_sum_5_b
        rw [if_neg (by omega)]
        have en : f_Pile_doneNumber S (m_dn (m_st T) k : Int) = some (k : Int) := by
          unfold f_Pile_doneNumber
          rw [if_neg (by omega), if_neg (by omega), if_pos (by omega), w_chkP (by omega), Int.toNat_natCast, h13]
        rw [w_b1_is en, w_b1_is (c_find hC.2.1 (k := k) (by rw [hK.1]; omega) (cx_10_3 hC).2)]
        show pc (w_chk (k < 40) _) _
        refine pc_chk (fun _ => ?_)
        obtain ⟨x1, x2, x3, x4, x5, x6, x7, x8⟩ := (hK.2 k (by omega)).1
        have k5 : gi T 199 k ≠ 5 := (m_st_ok T k (by omega) (.inl cs)).1
        have kv := hN k (by omega)
        have kr : 0 ≤ gi T 199 k ∧ gi T 199 k < 5 := by unfold m_val at kv; omega
        have go : ∀ v : Int, ps T w (k + 1) = v → pc (f_Bill_sum_69 S w (f_Bill_sum_5 S w fuel) v (m_dn (m_st T) k : Int)) (fun r => r = ps T w (gi T 192 27).toNat) := by
          intro v e
          unfold f_Bill_sum_69
          refine pc_chk (fun _ => ?_)
          rw [← e, show (m_dn (m_st T) k : Int) + 1 = (m_dn (m_st T) (k + 1) : Int) by omega]
          exact ih (k + 1) fuel (by omega)
        have st : ∀ d : Int, cnd T k = d → pc (f_Bill_sum_53 S w (f_Bill_sum_5 S w fuel) (ps T w k) (m_dn (m_st T) k : Int) k d) (fun r => r = ps T w (gi T 192 27).toNat) := by
          intro d ed
          unfold f_Bill_sum_53
          refine pc_if (fun c1 => ?_) (fun c1 => go _ ?_)
          · have ep : f_Bill_priceOf S (gi S (14 + 4 * k) 2) = some (gi T 210 (gi T 199 k).toNat) := by
              unfold f_Bill_priceOf
              rw [x1, if_neg (by omega), if_pos (by omega), w_chkP (by omega)]
              rcases hR.2.2.2.2.1 (gi T 199 k).toNat with z | z
              · rw [z]
              · omega
            rw [w_b1_is ep]
            refine pc_chk (fun _ => go _ ?_)
            rw [ps, if_pos cs, if_pos (ed.trans c1)]
          · rw [ps, if_pos cs, if_neg (fun q => c1 (ed.symm.trans q))]; omega
        rw [x2, x8]
        unfold f_Bill_sum_48
        refine pc_if (fun c2 => st 1 ?_) (fun c2 => pc_if (fun c8 => st 0 ?_) (fun c8 => st 1 ?_))
        · unfold cnd; rw [if_pos c2]
        · unfold cnd; rw [if_neg c2, if_pos c8]
        · unfold cnd; rw [if_neg c2, if_neg c8]
    · have d1 : m_dn (m_st T) (k + 1) = m_dn (m_st T) k := by rw [m_dn, if_neg cs]; rfl
      have p1 : ps T w (k + 1) = ps T w k := by rw [ps, if_neg cs]; omega
      have := ih (k + 1) fuel (by omega)
      rw [d1, p1] at this
      exact this
theorem RM_pays {S T T1 : SS} {a1 r t : Int} (hC : CX 0 S) (hM : MX 0 T) (hN : NX T) (h : RM S T) (h1 : f_MP_pays S a1 = some r) (h2 : f_M_pays T a1 = some (t, T1)) : r = t := by
  have b27 := mx_192_27 hM
  have i := in01 T a1 0 1
  unfold f_MP_pays at h1
  unfold f_M_pays at h2
  by_cases c : a1 = 0 ∨ a1 = 1
  · rw [if_neg (by omega)] at h2
    obtain ⟨T3, e3, h2⟩ := w_b1E h2
    obtain ⟨j1, j2⟩ := pc_judge T hM T3 e3
    have f3 : fr XH T T3 := fun r k a => j1.2 r k (by omega) (by omega)
    have h1 : f_MP_pays_12 S a1 = some r := by
      by_cases d : a1 = 0
      · rw [if_pos d] at h1; exact h1
      · rw [if_neg d, if_pos (by omega)] at h1; exact h1
    have fin : ∀ w, ((a1 = 1 ∧ w = 1) ∨ (a1 ≠ 1 ∧ w = 0)) → f_MP_pays_30 S a1 w = some r → r = t := by
      intro w hw q
      unfold f_MP_pays_30 f_Bill_sum at q
      obtain ⟨y, ey, q⟩ := w_b1E q
      cases q
      have A := pr_cls hC hM hN h w (gi T 192 27).toNat 0 FU (by omega) r ey
      have B := pr_ref T T3 w a1 hw f3 b27.1 j2 FU 0 (by omega) (t, T1) h2
      exact A.trans B.symm
    unfold f_MP_pays_12 at h1
    by_cases d : a1 = 1
    · rw [if_pos d] at h1; exact fin 1 (.inl ⟨d, rfl⟩) h1
    · rw [if_neg d] at h1; exact fin 0 (.inr ⟨d, rfl⟩) h1
  · rw [if_pos (by omega)] at h2
    rw [if_neg (by omega), if_neg (by omega)] at h1
    cases h1
    cases h2
    rfl
