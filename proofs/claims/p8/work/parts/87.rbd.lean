theorem RBX_rank {S T S1 T1 : SS} {a1 a2 r t : Int} (h : RBX S T) (h1 : f_MP_rank S a1 a2 = some (r, S1)) (h2 : f_M_rank T a1 a2 = some (t, T1)) : RBX S1 T1 ∧ r = t := by
  have i1 := in01 T a1 0 2
  have i2 := in01 T a2 0 9
  unfold f_MP_rank at h1
  unfold f_M_rank at h2
  by_cases c : 0 ≤ a1 ∧ a1 ≤ 2 ∧ 0 ≤ a2 ∧ a2 ≤ 9
  · rw [if_neg (by omega), if_neg (by omega), if_neg (by omega), if_pos (by omega)] at h1
    rw [if_neg (by omega), if_neg (by omega)] at h2
    obtain ⟨_, h2⟩ := w_chkE h2
    obtain ⟨_, h2⟩ := w_chkE h2
    unfold w_lt at h1 h2
    cases h2
    obtain ⟨r1, er, h1⟩ := w_b1E h1
    obtain ⟨_, h1⟩ := w_chkE h1
    obtain ⟨S4, e4, h1⟩ := w_b1E h1
    cases h1
    unfold f_Pile_rankOf at er
    rw [if_neg (by omega), if_pos (by omega), w_chkP (by omega)] at er
    cases er
    have st := fs_settle (X := XT) (fun _ _ q => q) _ _ (fr_refl _ _) _ e4
    obtain ⟨a, b, c', d, e, f, g⟩ := h
    have ek : gi S 12 a1.toNat = gi T 209 a1.toNat := by
      rcases d a1.toNat with q | q
      · exact q
      · omega
    have all : ∀ r k, ¬ XT r k → r ≠ 12 → gi S1 r k = gi S r k := fun r k a1 a2 => by rw [st r k a1, gi_off (fun q => a2 q.1)]
    refine ⟨⟨⟨by rw [all 1 1 (by omega) (by omega), gi_off (by omega)]; exact a.1, fun k hk => ?_⟩, by rw [all 4 1 (by omega) (by omega), gi_off (by omega)]; exact b, by rw [all 6 1 (by omega) (by omega), gi_off (by omega)]; exact c', fun k => ?_, fun k => by rw [all 191 k (by omega) (by omega), gi_off (by omega)]; exact e k, by rw [all 183 5 (by omega) (by omega), gi_off (by omega)]; exact f, by rw [all 183 6 (by omega) (by omega), gi_off (by omega)]; exact g⟩, ek⟩
    · rw [all 1 1 (by omega) (by omega)] at hk
      rw [all 2 k (by omega) (by omega), gi_off (by omega)]; exact a.2 k hk
    · rw [st 12 k (by omega), gi_si, gi_si]
      by_cases e : k = a1.toNat
      · left; rw [if_pos ⟨rfl, e⟩, if_pos ⟨rfl, e⟩]
      · rw [if_neg (fun q => e q.2), if_neg (fun q => e q.2)]; exact d k
  · have q2 : t = -2 ∧ T1 = T := by
      by_cases d : 0 ≤ a1 ∧ a1 ≤ 2
      · rw [if_neg (by omega), if_pos (by omega)] at h2; cases h2; exact ⟨rfl, rfl⟩
      · rw [if_pos (by omega)] at h2; cases h2; exact ⟨rfl, rfl⟩
    have q1 : r = -2 ∧ S1 = S := by
      by_cases d1 : a1 < 0
      · rw [if_pos d1] at h1; cases h1; exact ⟨rfl, rfl⟩
      rw [if_neg d1] at h1
      by_cases d2 : 3 ≤ a1
      · rw [if_pos d2] at h1; cases h1; exact ⟨rfl, rfl⟩
      rw [if_neg d2] at h1
      by_cases d3 : a2 < 0
      · rw [if_pos d3] at h1; cases h1; exact ⟨rfl, rfl⟩
      rw [if_neg d3, if_neg (by omega)] at h1; cases h1; exact ⟨rfl, rfl⟩
    rw [q1.1, q2.1, q1.2, q2.2]
    exact ⟨h, rfl⟩
theorem RBX_price {S T S1 T1 : SS} {a1 a2 r t : Int} (h : RBX S T) (h1 : f_MP_price S a1 a2 = some (r, S1)) (h2 : f_M_price T a1 a2 = some (t, T1)) : RBX S1 T1 ∧ r = t := by
  have i1 := in01 T a1 0 4
  have i2 := in01 T a2 0 999
  unfold f_MP_price at h1
  unfold f_M_price at h2
  by_cases c : 0 ≤ a1 ∧ a1 ≤ 4 ∧ 0 ≤ a2 ∧ a2 ≤ 999
  · rw [if_neg (by omega), if_neg (by omega), if_neg (by omega), if_pos (by omega)] at h1
    rw [if_neg (by omega), if_neg (by omega)] at h2
    obtain ⟨_, h2⟩ := w_chkE h2
    obtain ⟨_, h2⟩ := w_chkE h2
    unfold w_lt at h2
    cases h2
    obtain ⟨r1, S2, er, h1⟩ := w_b2E h1
    cases h1
    unfold f_Bill_setPrice at er
    obtain ⟨p, ep, er⟩ := w_b1E er
    rw [if_neg (by omega), if_neg (by omega)] at er
    obtain ⟨_, er⟩ := w_chkE er
    unfold w_lt at er
    cases er
    unfold f_Bill_priceOf at ep
    rw [if_neg (by omega), if_pos (by omega), w_chkP (by omega)] at ep
    cases ep
    obtain ⟨a, b, c', d, e, f, g⟩ := h
    have ek : gi S 191 a1.toNat = gi T 210 a1.toNat := by
      rcases e a1.toNat with q | q
      · exact q
      · omega
    refine ⟨⟨⟨by rw [gi_off (by omega), gi_off (by omega)]; exact a.1, fun k hk => ?_⟩, by rw [gi_off (by omega), gi_off (by omega)]; exact b, by rw [gi_off (by omega), gi_off (by omega)]; exact c', fun k => by rw [gi_off (by omega), gi_off (by omega)]; exact d k, fun k => ?_, by rw [gi_off (by omega), gi_off (by omega)]; exact f, by rw [gi_off (by omega), gi_off (by omega)]; exact g⟩, ek⟩
    · rw [gi_off (by omega)] at hk
      rw [gi_off (by omega), gi_off (by omega)]; exact a.2 k hk
    · rw [gi_si, gi_si]
      by_cases e' : k = a1.toNat
      · left; rw [if_pos ⟨rfl, e'⟩, if_pos ⟨rfl, e'⟩]
      · rw [if_neg (fun q => e' q.2), if_neg (fun q => e' q.2)]; exact e k
  · have q2 : t = -2 ∧ T1 = T := by
      by_cases d : 0 ≤ a1 ∧ a1 ≤ 4
      · rw [if_neg (by omega), if_pos (by omega)] at h2; cases h2; exact ⟨rfl, rfl⟩
      · rw [if_pos (by omega)] at h2; cases h2; exact ⟨rfl, rfl⟩
    have q1 : r = -2 ∧ S1 = S := by
      by_cases d1 : a1 < 0
      · rw [if_pos d1] at h1; cases h1; exact ⟨rfl, rfl⟩
      rw [if_neg d1] at h1
      by_cases d2 : 5 ≤ a1
      · rw [if_pos d2] at h1; cases h1; exact ⟨rfl, rfl⟩
      rw [if_neg d2] at h1
      by_cases d3 : a2 < 0
      · rw [if_pos d3] at h1; cases h1; exact ⟨rfl, rfl⟩
      rw [if_neg d3, if_neg (by omega)] at h1; cases h1; exact ⟨rfl, rfl⟩
    rw [q1.1, q2.1, q1.2, q2.2]
    exact ⟨h, rfl⟩
theorem RBX_costs {S T S1 T1 : SS} {a1 a2 r t : Int} (h : RBX S T) (h1 : f_MP_costs S a1 a2 = some (r, S1)) (h2 : f_M_costs T a1 a2 = some (t, T1)) : RBX S1 T1 ∧ r = t := by
  have i1 := in01 T a1 1 9
  have i2 := in01 T a2 1 9
  unfold f_MP_costs at h1
  unfold f_M_costs at h2
  by_cases c : 1 ≤ a1 ∧ a1 ≤ 9 ∧ 1 ≤ a2 ∧ a2 ≤ 9
  · rw [if_neg (by omega), if_neg (by omega), if_neg (by omega), if_pos (by omega)] at h1
    rw [if_neg (by omega), if_neg (by omega)] at h2
    unfold w_lt at h1 h2
    obtain ⟨_, h2⟩ := w_chkE h2
    obtain ⟨_, h2⟩ := w_chkE h2
    cases h1
    cases h2
    obtain ⟨a, b, c', d, e, f, g⟩ := h
    refine ⟨⟨⟨by rw [gi_off (by omega), gi_off (by omega), gi_off (by omega), gi_off (by omega)]; exact a.1, fun k hk => ?_⟩, by rw [gi_off (by omega), gi_off (by omega), gi_off (by omega), gi_off (by omega)]; exact b, by rw [gi_off (by omega), gi_off (by omega), gi_off (by omega), gi_off (by omega)]; exact c', fun k => by rw [gi_off (by omega), gi_off (by omega), gi_off (by omega), gi_off (by omega)]; exact d k, fun k => by rw [gi_off (by omega), gi_off (by omega), gi_off (by omega), gi_off (by omega)]; exact e k, ?_, ?_⟩, rfl⟩
    · rw [gi_off (by omega), gi_off (by omega)] at hk
      rw [gi_off (by omega), gi_off (by omega), gi_off (by omega), gi_off (by omega)]; exact a.2 k hk
    · rw [gi_off (by omega), gi_at, gi_off (by decide)]; exact (gi_at T 211 0 a1).symm
    · rw [gi_at]; exact (gi_at _ 211 1 a2).symm
  · have q2 : t = -2 ∧ T1 = T := by
      by_cases d : 1 ≤ a1 ∧ a1 ≤ 9
      · rw [if_neg (by omega), if_pos (by omega)] at h2; cases h2; exact ⟨rfl, rfl⟩
      · rw [if_pos (by omega)] at h2; cases h2; exact ⟨rfl, rfl⟩
    have q1 : r = -2 ∧ S1 = S := by
      by_cases d1 : a1 < 1
      · rw [if_pos d1] at h1; cases h1; exact ⟨rfl, rfl⟩
      rw [if_neg d1] at h1
      by_cases d2 : 9 < a1
      · rw [if_pos d2] at h1; cases h1; exact ⟨rfl, rfl⟩
      rw [if_neg d2] at h1
      by_cases d3 : a2 < 1
      · rw [if_pos d3] at h1; cases h1; exact ⟨rfl, rfl⟩
      rw [if_neg d3, if_neg (by omega)] at h1; cases h1; exact ⟨rfl, rfl⟩
    rw [q1.1, q2.1, q1.2, q2.2]
    exact ⟨h, rfl⟩
theorem RBX_marks {S T S1 T1 : SS} {r t : Int} (hM : MX 0 T) (h : RBX S T) (h1 : f_MP_marks S = some (r, S1)) (h2 : f_M_marks T = some (t, T1)) : RBX S1 T1 := by
  have f1 := fs_marks S _ h1
  have f2 := fm_marks T hM _ h2
  refine RBX_sizes h f1.2 f2.1 ?_ ?_ (fun r k p a1 a2 a3 a4 => f1.1 r k (by omega)) (fun r k p a1 a2 => f2.2 r k (by omega) (by omega))
  · rw [f1.1 4 1 (by omega), f2.2 192 3 (by omega) (by omega)]; exact h.2.1
  · rw [f1.1 6 1 (by omega), f2.2 192 4 (by omega) (by omega)]; exact h.2.2.1
theorem RBX_answer {S T S1 T1 : SS} {a1 a2 r t : Int} (hM : MX 0 T) (h : RBX S T) (h1 : f_MP_answer S a1 a2 = some (r, S1)) (h2 : f_M_answer T a1 a2 = some (t, T1)) : RBX S1 T1 := by
  have f1 := fs_answer S a1 a2 _ h1
  have f2 := fm_answer hM a1 a2 _ h2
  exact RBX_keep h (fun r k p => f1 r k (by omega)) (fun r k p => f2 r k (by omega))
theorem RBX_hold {S T S1 T1 : SS} {r t : Int} (hM : MX 0 T) (hN : NX T) (h : RBX S T) (h1 : f_MP_hold S = some (r, S1)) (h2 : f_M_hold T = some (t, T1)) : RBX S1 T1 := by
  have f1 := fs_hold S _ h1
  have f2 := fm_hold hM hN _ h2
  exact RBX_keep h (fun r k p => f1 r k (by omega)) (fun r k p => f2 r k (by omega))
theorem RBX_distance {S T S1 T1 : SS} {a1 a2 r t : Int} (hM : MX 0 T) (hN : NX T) (h : RBX S T) (h1 : f_MP_distance S a1 a2 = some (r, S1)) (h2 : f_M_distance T a1 a2 = some (t, T1)) : RBX S1 T1 := by
  have f1 := fx_MP_distance (X := fun r _ => r = 182) (S0 := S) (x_182 := fun k => rfl) S a1 a2 (FX_refl _ S) _ h1
  have f2 := fm_distance hM hN a1 a2 _ h2
  exact RBX_keep h (fun r k p => f1.1 r k (by omega)) (fun r k p => f2 r k (by omega))
theorem RBX_error {S T S1 T1 : SS} {a1 a2 r t : Int} (h : RBX S T) (h1 : f_MP_error S a1 a2 = some (r, S1)) (h2 : f_M_error T a1 a2 = some (t, T1)) : RBX S1 T1 := by
  have f1 := fx_MP_error (X := fun r _ => 14 ≤ r ∧ r < 174) (S0 := S) (x_m_9 := fun j hj => by omega) S a1 a2 (FX_refl _ S) _ h1
  have f2 := fm_error (T := T) a1 a2 _ h2
  exact RBX_keep h (fun r k p => f1.1 r k (by omega)) (fun r k p => f2 r k (by omega))
theorem RBX_ref {S T T1 : SS} (h : RBX S T) (f2 : fr XM T T1) : RBX S T1 := RBX_keep h (keep_refl PCB) (fun r k p => f2 r k (by omega))
