set_option maxHeartbeats 4000000 in
set_option maxRecDepth 100000 in
theorem a_X0_sum_1 (l : Launch) (D : va_G) (kc : Nat → ClassId) (b : Nat) (f : Nat → va_E) (h10 : f 10 = .inr (5, [.ref (b + 11), .ref (b + 12), .ref (b + 13), .int 0, .int 0, .int 0])) : mMi l yX0_sum cX0_sum 6 .int 1 0 0 D kc b 220 f [.ref (b + 190), .ref (b + 10), .int 1] (fun r u => r = 0 ∧ u.1 = 220 ∧ u.2 = f) := by
  refine m_start (by decide) (Nat.le_of_ble_eq_true rfl) ?_
  intro p e s m below meth c C hr hlk hnm hM ls hl
  obtain ⟨hx, hb, hml, hown, hts, hE, hbs⟩ := id C
  have hl : lv_has ls 6 [(0, .ref (b + 190)), (1, .ref (b + 10)), (2, .int 1)] := hl
  refine lv_iconst (v := 0) hx hb dX0_sum_0 (by decide) ?_
  refine lv_istore_n (lv' := [(3, .int 0), (0, .ref (b + 190)), (1, .ref (b + 10)), (2, .int 1)]) hx hb dX0_sum_1 rfl hl (by decide) rfl (fun ls hl => ?_)
  refine lv_iconst (v := 0) hx hb dX0_sum_2 (by decide) ?_
  refine lv_istore (lv' := [(4, .int 0), (3, .int 0), (0, .ref (b + 190)), (1, .ref (b + 10)), (2, .int 1)]) hx hb dX0_sum_3 hl (by decide) rfl (fun ls hl => ?_)
  refine lv_iload hx hb dX0_sum_5 (lv_at hl 0 rfl) ?_
  refine lv_aload_n hx hb dX0_sum_7 rfl (lv_at hl 3 rfl) ?_
  refine m_getN fl_X0_27_X5 C hM (i := 10) (by decide) h10 (v := .int 0) rfl dX0_sum_8 ?_
  refine lv_icmp_ge (tgt := 75) hx hb dX0_sum_11 (by decide) (fun _ => ?_) (fun h => absurd (by decide) h)
  refine lv_iload_n hx hb dX0_sum_75 rfl (lv_at hl 1 rfl) ?_
  exact m_iret C hr hlk hM (⟨rfl, rfl, rfl⟩) dX0_sum_76
set_option maxHeartbeats 4000000 in
set_option maxRecDepth 100000 in
theorem k_x_pays (l : Launch) (D : va_G) (kc : Nat → ClassId) (b : Nat) (f : Nat → va_E) (a0 : Int32) (h0 : f 0 = .inr (11, [.ref (b + 1), .ref (b + 3), .ref (b + 4), .ref (b + 6), .ref (b + 8), .ref (b + 10), .ref (b + 174), .ref (b + 177), .ref (b + 178), .ref (b + 181), .ref (b + 183), .ref (b + 190)])) (h10 : f 10 = .inr (5, [.ref (b + 11), .ref (b + 12), .ref (b + 13), .int 0, .int 0, .int 0])) (h190 : f 190 = .inr (0, [.ref (b + 191)])) : mMi l yX11_pays cX11_pays 2 .int 2 0 0 D kc b 220 f [.ref (b + 0), .int a0] (fun r u => r = p_pays a0 ∧ u.1 = 220 ∧ ∀ j, 192 ≤ j → u.2 j = f j) := by
  refine m_start (by decide) (Nat.le_of_ble_eq_true rfl) ?_
  intro p e s m below meth c C hr hlk hnm hM ls hl
  obtain ⟨hx, hb, hml, hown, hts, hE, hbs⟩ := id C
  have hl : lv_has ls 2 [(0, .ref (b + 0)), (1, .int a0)] := hl
  by_cases q1 : a0 < 0
  · refine lv_iload_n hx hb dX11_pays_0 rfl (lv_at hl 1 rfl) ?_
    refine lv_if_eq (tgt := 12) hx hb dX11_pays_1 (by decide) (fun c2 => ?_) (fun c2 => ?_)
    · exfalso; revert q1 c2; simp only [← Int32.toInt_inj, Int32.lt_iff_toInt_lt, Int32.le_iff_toInt_le, m_lits]; omega
    · refine lv_iload_n hx hb dX11_pays_4 rfl (lv_at hl 1 rfl) ?_
      refine lv_iconst (v := 1) hx hb dX11_pays_5 (by decide) ?_
      refine lv_icmp_eq (tgt := 12) hx hb dX11_pays_6 (by decide) (fun c3 => ?_) (fun c3 => ?_)
      · exfalso; revert q1 c2 c3; simp only [← Int32.toInt_inj, Int32.lt_iff_toInt_lt, Int32.le_iff_toInt_le, m_lits]; omega
      · refine lv_bipush (v := (-2)) hx hb dX11_pays_9 (by decide) ?_
        exact m_iret C hr hlk hM (⟨by unfold p_pays; rw [if_neg (by revert q1 c2 c3; simp only [Int32.lt_iff_toInt_lt, Int32.le_iff_toInt_le, m_lits]; omega)], rfl, fun _ _ => rfl⟩) dX11_pays_11
  by_cases q4 : 1 < a0
  · refine lv_iload_n hx hb dX11_pays_0 rfl (lv_at hl 1 rfl) ?_
    refine lv_if_eq (tgt := 12) hx hb dX11_pays_1 (by decide) (fun c5 => ?_) (fun c5 => ?_)
    · exfalso; revert q1 q4 c5; simp only [← Int32.toInt_inj, Int32.lt_iff_toInt_lt, Int32.le_iff_toInt_le, m_lits]; omega
    · refine lv_iload_n hx hb dX11_pays_4 rfl (lv_at hl 1 rfl) ?_
      refine lv_iconst (v := 1) hx hb dX11_pays_5 (by decide) ?_
      refine lv_icmp_eq (tgt := 12) hx hb dX11_pays_6 (by decide) (fun c6 => ?_) (fun c6 => ?_)
      · exfalso; revert q1 q4 c5 c6; simp only [← Int32.toInt_inj, Int32.lt_iff_toInt_lt, Int32.le_iff_toInt_le, m_lits]; omega
      · refine lv_bipush (v := (-2)) hx hb dX11_pays_9 (by decide) ?_
        exact m_iret C hr hlk hM (⟨by unfold p_pays; rw [if_neg (by revert q1 q4 c5 c6; simp only [Int32.lt_iff_toInt_lt, Int32.le_iff_toInt_le, m_lits]; omega)], rfl, fun _ _ => rfl⟩) dX11_pays_11
  by_cases s7 : a0 = 0
  · subst s7
    refine lv_iload_n hx hb dX11_pays_0 rfl (lv_at hl 1 rfl) ?_
    refine lv_if_eq (tgt := 12) hx hb dX11_pays_1 (by decide) (fun _ => ?_) (fun h => absurd (by decide) h)
    refine lv_aload_n hx hb dX11_pays_12 rfl (lv_at hl 0 rfl) ?_
    refine m_get fl_X11_83_X11 C hM (i := 0) (by decide) h0 (v := .ref (b + 190)) rfl dX11_pays_13 ?_
    refine lv_aload_n hx hb dX11_pays_16 rfl (lv_at hl 0 rfl) ?_
    refine m_get fl_X11_41_X11 C hM (i := 0) (by decide) h0 (v := .ref (b + 10)) rfl dX11_pays_17 ?_
    refine lv_iload_n hx hb dX11_pays_20 rfl (lv_at hl 1 rfl) ?_
    refine lv_iconst (v := 1) hx hb dX11_pays_21 (by decide) ?_
    refine lv_icmp_ne (tgt := 29) hx hb dX11_pays_22 (by decide) (fun _ => ?_) (fun h => absurd h (by decide))
    refine lv_iconst (v := 0) hx hb dX11_pays_29 (by decide) ?_
    refine m_goi (m_runV calV_X0_sum wd_995 (a_X0_sum_0 l D kc b f h10) C hM (by decide) h190 rfl hl.1 rfl rfl (Nat.le_of_ble_eq_true rfl) dX11_pays_30 ⟨Nat.le_of_ble_eq_true rfl, Nat.le_of_ble_eq_true rfl⟩ ⟨Nat.le_of_ble_eq_true rfl, Nat.le_of_ble_eq_true rfl⟩) hM (fun r8 n9 f1 H locs hp hM => ?_)
    have hp : r8 = 0 ∧ n9 = 220 ∧ f1 = f := hp
    obtain ⟨rfl, rfl, ef1⟩ := hp
    have fr_1 : ∀ j, 192 ≤ j → f1 j = f j := fun j hj => m_sm ef1 (rfl)
    exact m_iret C hr hlk hM (⟨by decide, rfl, fr_1⟩) dX11_pays_33
  by_cases s10 : a0 = 1
  · subst s10
    refine lv_iload_n hx hb dX11_pays_0 rfl (lv_at hl 1 rfl) ?_
    refine lv_if_eq (tgt := 12) hx hb dX11_pays_1 (by decide) (fun h => absurd h (by decide)) (fun _ => ?_)
    refine lv_iload_n hx hb dX11_pays_4 rfl (lv_at hl 1 rfl) ?_
    refine lv_iconst (v := 1) hx hb dX11_pays_5 (by decide) ?_
    refine lv_icmp_eq (tgt := 12) hx hb dX11_pays_6 (by decide) (fun _ => ?_) (fun h => absurd (by decide) h)
    refine lv_aload_n hx hb dX11_pays_12 rfl (lv_at hl 0 rfl) ?_
    refine m_get fl_X11_83_X11 C hM (i := 0) (by decide) h0 (v := .ref (b + 190)) rfl dX11_pays_13 ?_
    refine lv_aload_n hx hb dX11_pays_16 rfl (lv_at hl 0 rfl) ?_
    refine m_get fl_X11_41_X11 C hM (i := 0) (by decide) h0 (v := .ref (b + 10)) rfl dX11_pays_17 ?_
    refine lv_iload_n hx hb dX11_pays_20 rfl (lv_at hl 1 rfl) ?_
    refine lv_iconst (v := 1) hx hb dX11_pays_21 (by decide) ?_
    refine lv_icmp_ne (tgt := 29) hx hb dX11_pays_22 (by decide) (fun h => absurd (by decide) h) (fun _ => ?_)
    refine lv_iconst (v := 1) hx hb dX11_pays_25 (by decide) ?_
    refine lv_goto (tgt := 30) hx hb dX11_pays_26 (by decide) ?_
    refine m_goi (m_runV calV_X0_sum wd_995 (a_X0_sum_1 l D kc b f h10) C hM (by decide) h190 rfl hl.1 rfl rfl (Nat.le_of_ble_eq_true rfl) dX11_pays_30 ⟨Nat.le_of_ble_eq_true rfl, Nat.le_of_ble_eq_true rfl⟩ ⟨Nat.le_of_ble_eq_true rfl, Nat.le_of_ble_eq_true rfl⟩) hM (fun r11 n12 f1 H locs hp hM => ?_)
    have hp : r11 = 0 ∧ n12 = 220 ∧ f1 = f := hp
    obtain ⟨rfl, rfl, ef1⟩ := hp
    have fr_1 : ∀ j, 192 ≤ j → f1 j = f j := fun j hj => m_sm ef1 (rfl)
    exact m_iret C hr hlk hM (⟨by decide, rfl, fr_1⟩) dX11_pays_33
  exfalso; revert q1 q4 s7 s10; simp only [← Int32.toInt_inj, Int32.lt_iff_toInt_lt, Int32.le_iff_toInt_le, m_lits]; omega
set_option maxHeartbeats 4000000 in
set_option maxRecDepth 100000 in
theorem a_X11_sizeOf_0 (l : Launch) (D : va_G) (kc : Nat → ClassId) (b : Nat) (f : Nat → va_E) (h0 : f 0 = .inr (11, [.ref (b + 1), .ref (b + 3), .ref (b + 4), .ref (b + 6), .ref (b + 8), .ref (b + 10), .ref (b + 174), .ref (b + 177), .ref (b + 178), .ref (b + 181), .ref (b + 183), .ref (b + 190)])) (h4 : f 4 = .inr (8, [.ref (b + 5), .int 0])) : mMi l yX11_sizeOf cX11_sizeOf 3 .int 2 0 0 D kc b 220 f [.ref (b + 0), .int 0] (fun r u => r = 0 ∧ u.1 = 220 ∧ u.2 = f) := by
  refine m_start (by decide) (Nat.le_of_ble_eq_true rfl) ?_
  intro p e s m below meth c C hr hlk hnm hM ls hl
  obtain ⟨hx, hb, hml, hown, hts, hE, hbs⟩ := id C
  have hl : lv_has ls 3 [(0, .ref (b + 0)), (1, .int 0)] := hl
  refine lv_aload_n hx hb dX11_sizeOf_0 rfl (lv_at hl 0 rfl) ?_
  refine lv_iload_n hx hb dX11_sizeOf_1 rfl (lv_at hl 1 rfl) ?_
  refine m_goq (m_runV calV_X11_sheetOf wd_845 (a_X11_sheetOf_2 l D kc b f h0) C hM (by decide) h0 rfl hl.1 rfl rfl (Nat.le_of_ble_eq_true rfl) dX11_sizeOf_2 ⟨Nat.le_of_ble_eq_true rfl, Nat.le_of_ble_eq_true rfl⟩ ⟨Nat.le_of_ble_eq_true rfl, Nat.le_of_ble_eq_true rfl⟩) hM (fun r1 n2 f1 H locs hp hM => ?_)
  have hp : r1 = some (b + 4) ∧ n2 = 220 ∧ f1 = f := hp
  obtain ⟨rfl, rfl, ef1⟩ := hp
  refine m_vv (y := .ref (b + 4)) rfl ?_
  refine lv_astore_n (lv' := [(2, .ref (b + 4)), (0, .ref (b + 0)), (1, .int 0)]) hx hb dX11_sizeOf_5 rfl hl (by decide) rfl (fun ls hl => ?_)
  refine lv_aload_n hx hb dX11_sizeOf_6 rfl (lv_at hl 0 rfl) ?_
  refine lv_ifnonnull (tgt := 14) hx hb dX11_sizeOf_7 (by decide) ?_
  refine lv_aload_n hx hb dX11_sizeOf_14 rfl (lv_at hl 0 rfl) ?_
  have h4_1 : f1 4 = .inr (8, [.ref (b + 5), .int 0]) := m_sm ef1 h4
  refine m_getN fl_X11_111_X8 C hM (i := 4) (by decide) h4_1 (v := .int 0) rfl dX11_sizeOf_15 ?_
  exact m_iret C hr hlk hM (⟨rfl, rfl, by rw [ef1]⟩) dX11_sizeOf_18
set_option maxHeartbeats 4000000 in
set_option maxRecDepth 100000 in
theorem a_X11_sizeOf_1 (l : Launch) (D : va_G) (kc : Nat → ClassId) (b : Nat) (f : Nat → va_E) (h0 : f 0 = .inr (11, [.ref (b + 1), .ref (b + 3), .ref (b + 4), .ref (b + 6), .ref (b + 8), .ref (b + 10), .ref (b + 174), .ref (b + 177), .ref (b + 178), .ref (b + 181), .ref (b + 183), .ref (b + 190)])) (h6 : f 6 = .inr (8, [.ref (b + 7), .int 0])) : mMi l yX11_sizeOf cX11_sizeOf 3 .int 2 0 0 D kc b 220 f [.ref (b + 0), .int 1] (fun r u => r = 0 ∧ u.1 = 220 ∧ u.2 = f) := by
  refine m_start (by decide) (Nat.le_of_ble_eq_true rfl) ?_
  intro p e s m below meth c C hr hlk hnm hM ls hl
  obtain ⟨hx, hb, hml, hown, hts, hE, hbs⟩ := id C
  have hl : lv_has ls 3 [(0, .ref (b + 0)), (1, .int 1)] := hl
  refine lv_aload_n hx hb dX11_sizeOf_0 rfl (lv_at hl 0 rfl) ?_
  refine lv_iload_n hx hb dX11_sizeOf_1 rfl (lv_at hl 1 rfl) ?_
  refine m_goq (m_runV calV_X11_sheetOf wd_845 (a_X11_sheetOf_3 l D kc b f h0) C hM (by decide) h0 rfl hl.1 rfl rfl (Nat.le_of_ble_eq_true rfl) dX11_sizeOf_2 ⟨Nat.le_of_ble_eq_true rfl, Nat.le_of_ble_eq_true rfl⟩ ⟨Nat.le_of_ble_eq_true rfl, Nat.le_of_ble_eq_true rfl⟩) hM (fun r1 n2 f1 H locs hp hM => ?_)
  have hp : r1 = some (b + 6) ∧ n2 = 220 ∧ f1 = f := hp
  obtain ⟨rfl, rfl, ef1⟩ := hp
  refine m_vv (y := .ref (b + 6)) rfl ?_
  refine lv_astore_n (lv' := [(2, .ref (b + 6)), (0, .ref (b + 0)), (1, .int 1)]) hx hb dX11_sizeOf_5 rfl hl (by decide) rfl (fun ls hl => ?_)
  refine lv_aload_n hx hb dX11_sizeOf_6 rfl (lv_at hl 0 rfl) ?_
  refine lv_ifnonnull (tgt := 14) hx hb dX11_sizeOf_7 (by decide) ?_
  refine lv_aload_n hx hb dX11_sizeOf_14 rfl (lv_at hl 0 rfl) ?_
  have h6_1 : f1 6 = .inr (8, [.ref (b + 7), .int 0]) := m_sm ef1 h6
  refine m_getN fl_X11_111_X8 C hM (i := 6) (by decide) h6_1 (v := .int 0) rfl dX11_sizeOf_15 ?_
  exact m_iret C hr hlk hM (⟨rfl, rfl, by rw [ef1]⟩) dX11_sizeOf_18
set_option maxHeartbeats 4000000 in
set_option maxRecDepth 100000 in
theorem a_X11_sizeOf_2 (l : Launch) (D : va_G) (kc : Nat → ClassId) (b : Nat) (f : Nat → va_E) (h0 : f 0 = .inr (11, [.ref (b + 1), .ref (b + 3), .ref (b + 4), .ref (b + 6), .ref (b + 8), .ref (b + 10), .ref (b + 174), .ref (b + 177), .ref (b + 178), .ref (b + 181), .ref (b + 183), .ref (b + 190)])) (h8 : f 8 = .inr (8, [.ref (b + 9), .int 0])) : mMi l yX11_sizeOf cX11_sizeOf 3 .int 2 0 0 D kc b 220 f [.ref (b + 0), .int 2] (fun r u => r = 0 ∧ u.1 = 220 ∧ u.2 = f) := by
  refine m_start (by decide) (Nat.le_of_ble_eq_true rfl) ?_
  intro p e s m below meth c C hr hlk hnm hM ls hl
  obtain ⟨hx, hb, hml, hown, hts, hE, hbs⟩ := id C
  have hl : lv_has ls 3 [(0, .ref (b + 0)), (1, .int 2)] := hl
  refine lv_aload_n hx hb dX11_sizeOf_0 rfl (lv_at hl 0 rfl) ?_
  refine lv_iload_n hx hb dX11_sizeOf_1 rfl (lv_at hl 1 rfl) ?_
  refine m_goq (m_runV calV_X11_sheetOf wd_845 (a_X11_sheetOf_4 l D kc b f h0) C hM (by decide) h0 rfl hl.1 rfl rfl (Nat.le_of_ble_eq_true rfl) dX11_sizeOf_2 ⟨Nat.le_of_ble_eq_true rfl, Nat.le_of_ble_eq_true rfl⟩ ⟨Nat.le_of_ble_eq_true rfl, Nat.le_of_ble_eq_true rfl⟩) hM (fun r1 n2 f1 H locs hp hM => ?_)
  have hp : r1 = some (b + 8) ∧ n2 = 220 ∧ f1 = f := hp
  obtain ⟨rfl, rfl, ef1⟩ := hp
  refine m_vv (y := .ref (b + 8)) rfl ?_
  refine lv_astore_n (lv' := [(2, .ref (b + 8)), (0, .ref (b + 0)), (1, .int 2)]) hx hb dX11_sizeOf_5 rfl hl (by decide) rfl (fun ls hl => ?_)
  refine lv_aload_n hx hb dX11_sizeOf_6 rfl (lv_at hl 0 rfl) ?_
  refine lv_ifnonnull (tgt := 14) hx hb dX11_sizeOf_7 (by decide) ?_
  refine lv_aload_n hx hb dX11_sizeOf_14 rfl (lv_at hl 0 rfl) ?_
  have h8_1 : f1 8 = .inr (8, [.ref (b + 9), .int 0]) := m_sm ef1 h8
  refine m_getN fl_X11_111_X8 C hM (i := 8) (by decide) h8_1 (v := .int 0) rfl dX11_sizeOf_15 ?_
  exact m_iret C hr hlk hM (⟨rfl, rfl, by rw [ef1]⟩) dX11_sizeOf_18
set_option maxHeartbeats 4000000 in
set_option maxRecDepth 100000 in
theorem a_X5_tally_0 (l : Launch) (D : va_G) (kc : Nat → ClassId) (b : Nat) (f : Nat → va_E) (h10 : f 10 = .inr (5, [.ref (b + 11), .ref (b + 12), .ref (b + 13), .int 0, .int 0, .int 0])) : mMi l yX5_tally cX5_tally 5 .int 1 0 0 D kc b 220 f [.ref (b + 10), .int 0] (fun r u => r = 0 ∧ u.1 = 220 ∧ u.2 = f) := by
  refine m_start (by decide) (Nat.le_of_ble_eq_true rfl) ?_
  intro p e s m below meth c C hr hlk hnm hM ls hl
  obtain ⟨hx, hb, hml, hown, hts, hE, hbs⟩ := id C
  have hl : lv_has ls 5 [(0, .ref (b + 10)), (1, .int 0)] := hl
  refine lv_iconst (v := 0) hx hb dX5_tally_0 (by decide) ?_
  refine lv_istore_n (lv' := [(2, .int 0), (0, .ref (b + 10)), (1, .int 0)]) hx hb dX5_tally_1 rfl hl (by decide) rfl (fun ls hl => ?_)
  refine lv_iconst (v := 0) hx hb dX5_tally_2 (by decide) ?_
  refine lv_istore_n (lv' := [(3, .int 0), (2, .int 0), (0, .ref (b + 10)), (1, .int 0)]) hx hb dX5_tally_3 rfl hl (by decide) rfl (fun ls hl => ?_)
  refine lv_iload_n hx hb dX5_tally_4 rfl (lv_at hl 0 rfl) ?_
  refine lv_aload_n hx hb dX5_tally_5 rfl (lv_at hl 2 rfl) ?_
  refine m_get fl_X5_25_X5 C hM (i := 10) (by decide) h10 (v := .int 0) rfl dX5_tally_6 ?_
  refine lv_icmp_ge (tgt := 42) hx hb dX5_tally_9 (by decide) (fun _ => ?_) (fun h => absurd (by decide) h)
  refine lv_iload_n hx hb dX5_tally_42 rfl (lv_at hl 1 rfl) ?_
  exact m_iret C hr hlk hM (⟨rfl, rfl, rfl⟩) dX5_tally_43
set_option maxHeartbeats 4000000 in
set_option maxRecDepth 100000 in
theorem a_X5_tally_1 (l : Launch) (D : va_G) (kc : Nat → ClassId) (b : Nat) (f : Nat → va_E) (h10 : f 10 = .inr (5, [.ref (b + 11), .ref (b + 12), .ref (b + 13), .int 0, .int 0, .int 0])) : mMi l yX5_tally cX5_tally 5 .int 1 0 0 D kc b 220 f [.ref (b + 10), .int 1] (fun r u => r = 0 ∧ u.1 = 220 ∧ u.2 = f) := by
  refine m_start (by decide) (Nat.le_of_ble_eq_true rfl) ?_
  intro p e s m below meth c C hr hlk hnm hM ls hl
  obtain ⟨hx, hb, hml, hown, hts, hE, hbs⟩ := id C
  have hl : lv_has ls 5 [(0, .ref (b + 10)), (1, .int 1)] := hl
  refine lv_iconst (v := 0) hx hb dX5_tally_0 (by decide) ?_
  refine lv_istore_n (lv' := [(2, .int 0), (0, .ref (b + 10)), (1, .int 1)]) hx hb dX5_tally_1 rfl hl (by decide) rfl (fun ls hl => ?_)
  refine lv_iconst (v := 0) hx hb dX5_tally_2 (by decide) ?_
  refine lv_istore_n (lv' := [(3, .int 0), (2, .int 0), (0, .ref (b + 10)), (1, .int 1)]) hx hb dX5_tally_3 rfl hl (by decide) rfl (fun ls hl => ?_)
  refine lv_iload_n hx hb dX5_tally_4 rfl (lv_at hl 0 rfl) ?_
  refine lv_aload_n hx hb dX5_tally_5 rfl (lv_at hl 2 rfl) ?_
  refine m_get fl_X5_25_X5 C hM (i := 10) (by decide) h10 (v := .int 0) rfl dX5_tally_6 ?_
  refine lv_icmp_ge (tgt := 42) hx hb dX5_tally_9 (by decide) (fun _ => ?_) (fun h => absurd (by decide) h)
  refine lv_iload_n hx hb dX5_tally_42 rfl (lv_at hl 1 rfl) ?_
  exact m_iret C hr hlk hM (⟨rfl, rfl, rfl⟩) dX5_tally_43
set_option maxHeartbeats 4000000 in
set_option maxRecDepth 100000 in
theorem a_X5_tally_2 (l : Launch) (D : va_G) (kc : Nat → ClassId) (b : Nat) (f : Nat → va_E) (h10 : f 10 = .inr (5, [.ref (b + 11), .ref (b + 12), .ref (b + 13), .int 0, .int 0, .int 0])) : mMi l yX5_tally cX5_tally 5 .int 1 0 0 D kc b 220 f [.ref (b + 10), .int 2] (fun r u => r = 0 ∧ u.1 = 220 ∧ u.2 = f) := by
  refine m_start (by decide) (Nat.le_of_ble_eq_true rfl) ?_
  intro p e s m below meth c C hr hlk hnm hM ls hl
  obtain ⟨hx, hb, hml, hown, hts, hE, hbs⟩ := id C
  have hl : lv_has ls 5 [(0, .ref (b + 10)), (1, .int 2)] := hl
  refine lv_iconst (v := 0) hx hb dX5_tally_0 (by decide) ?_
  refine lv_istore_n (lv' := [(2, .int 0), (0, .ref (b + 10)), (1, .int 2)]) hx hb dX5_tally_1 rfl hl (by decide) rfl (fun ls hl => ?_)
  refine lv_iconst (v := 0) hx hb dX5_tally_2 (by decide) ?_
  refine lv_istore_n (lv' := [(3, .int 0), (2, .int 0), (0, .ref (b + 10)), (1, .int 2)]) hx hb dX5_tally_3 rfl hl (by decide) rfl (fun ls hl => ?_)
  refine lv_iload_n hx hb dX5_tally_4 rfl (lv_at hl 0 rfl) ?_
  refine lv_aload_n hx hb dX5_tally_5 rfl (lv_at hl 2 rfl) ?_
  refine m_get fl_X5_25_X5 C hM (i := 10) (by decide) h10 (v := .int 0) rfl dX5_tally_6 ?_
  refine lv_icmp_ge (tgt := 42) hx hb dX5_tally_9 (by decide) (fun _ => ?_) (fun h => absurd (by decide) h)
  refine lv_iload_n hx hb dX5_tally_42 rfl (lv_at hl 1 rfl) ?_
  exact m_iret C hr hlk hM (⟨rfl, rfl, rfl⟩) dX5_tally_43
set_option maxHeartbeats 4000000 in
set_option maxRecDepth 100000 in
theorem a_X5_tally_3 (l : Launch) (D : va_G) (kc : Nat → ClassId) (b : Nat) (f : Nat → va_E) (h10 : f 10 = .inr (5, [.ref (b + 11), .ref (b + 12), .ref (b + 13), .int 0, .int 0, .int 0])) : mMi l yX5_tally cX5_tally 5 .int 1 0 0 D kc b 220 f [.ref (b + 10), .int 3] (fun r u => r = 0 ∧ u.1 = 220 ∧ u.2 = f) := by
  refine m_start (by decide) (Nat.le_of_ble_eq_true rfl) ?_
  intro p e s m below meth c C hr hlk hnm hM ls hl
  obtain ⟨hx, hb, hml, hown, hts, hE, hbs⟩ := id C
  have hl : lv_has ls 5 [(0, .ref (b + 10)), (1, .int 3)] := hl
  refine lv_iconst (v := 0) hx hb dX5_tally_0 (by decide) ?_
  refine lv_istore_n (lv' := [(2, .int 0), (0, .ref (b + 10)), (1, .int 3)]) hx hb dX5_tally_1 rfl hl (by decide) rfl (fun ls hl => ?_)
  refine lv_iconst (v := 0) hx hb dX5_tally_2 (by decide) ?_
  refine lv_istore_n (lv' := [(3, .int 0), (2, .int 0), (0, .ref (b + 10)), (1, .int 3)]) hx hb dX5_tally_3 rfl hl (by decide) rfl (fun ls hl => ?_)
  refine lv_iload_n hx hb dX5_tally_4 rfl (lv_at hl 0 rfl) ?_
  refine lv_aload_n hx hb dX5_tally_5 rfl (lv_at hl 2 rfl) ?_
  refine m_get fl_X5_25_X5 C hM (i := 10) (by decide) h10 (v := .int 0) rfl dX5_tally_6 ?_
  refine lv_icmp_ge (tgt := 42) hx hb dX5_tally_9 (by decide) (fun _ => ?_) (fun h => absurd (by decide) h)
  refine lv_iload_n hx hb dX5_tally_42 rfl (lv_at hl 1 rfl) ?_
  exact m_iret C hr hlk hM (⟨rfl, rfl, rfl⟩) dX5_tally_43
set_option maxHeartbeats 4000000 in
set_option maxRecDepth 100000 in
theorem a_X5_rankOf_1 (l : Launch) (D : va_G) (kc : Nat → ClassId) (b : Nat) (f : Nat → va_E) (h10 : f 10 = .inr (5, [.ref (b + 11), .ref (b + 12), .ref (b + 13), .int 0, .int 0, .int 0])) (h12 : f 12 = .inl (kc 1, 3, .inl (mRk))) : mMi l yX5_rankOf cX5_rankOf 2 .int 1 0 0 D kc b 220 f [.ref (b + 10), .int 0] (fun r u => r = 0 ∧ u.1 = 220 ∧ u.2 = f) := by
  refine m_start (by decide) (Nat.le_of_ble_eq_true rfl) ?_
  intro p e s m below meth c C hr hlk hnm hM ls hl
  obtain ⟨hx, hb, hml, hown, hts, hE, hbs⟩ := id C
  have hl : lv_has ls 2 [(0, .ref (b + 10)), (1, .int 0)] := hl
  refine lv_iload_n hx hb dX5_rankOf_0 rfl (lv_at hl 1 rfl) ?_
  refine lv_if_lt (tgt := 13) hx hb dX5_rankOf_1 (by decide) (fun h => absurd h (by decide)) (fun _ => ?_)
  refine lv_iload_n hx hb dX5_rankOf_4 rfl (lv_at hl 1 rfl) ?_
  refine lv_aload_n hx hb dX5_rankOf_5 rfl (lv_at hl 0 rfl) ?_
  refine m_get fl_X5_17_X5 C hM (i := 10) (by decide) h10 (v := .ref (b + 12)) rfl dX5_rankOf_6 ?_
  refine m_alen C hM (j := 12) (by decide) 1 h12 rfl (v := 3) rfl dX5_rankOf_9 ?_
  refine lv_icmp_lt (tgt := 17) hx hb dX5_rankOf_10 (by decide) (fun _ => ?_) (fun h => absurd (by decide) h)
  refine lv_aload_n hx hb dX5_rankOf_17 rfl (lv_at hl 0 rfl) ?_
  refine m_get fl_X5_17_X5 C hM (i := 10) (by decide) h10 (v := .ref (b + 12)) rfl dX5_rankOf_18 ?_
  refine lv_iload_n hx hb dX5_rankOf_21 rfl (lv_at hl 1 rfl) ?_
  refine m_iald C hM (j := 12) (by decide) h12 (m_in (by decide)) dX5_rankOf_22 ?_
  refine m_vi (y := 0) (by decide) ?_
  exact m_iret C hr hlk hM (⟨rfl, rfl, rfl⟩) dX5_rankOf_23
set_option maxHeartbeats 4000000 in
set_option maxRecDepth 100000 in
theorem a_X5_rankOf_2 (l : Launch) (D : va_G) (kc : Nat → ClassId) (b : Nat) (f : Nat → va_E) (h10 : f 10 = .inr (5, [.ref (b + 11), .ref (b + 12), .ref (b + 13), .int 0, .int 0, .int 0])) (h12 : f 12 = .inl (kc 1, 3, .inl (mRk))) : mMi l yX5_rankOf cX5_rankOf 2 .int 1 0 0 D kc b 220 f [.ref (b + 10), .int 1] (fun r u => r = 1 ∧ u.1 = 220 ∧ u.2 = f) := by
  refine m_start (by decide) (Nat.le_of_ble_eq_true rfl) ?_
  intro p e s m below meth c C hr hlk hnm hM ls hl
  obtain ⟨hx, hb, hml, hown, hts, hE, hbs⟩ := id C
  have hl : lv_has ls 2 [(0, .ref (b + 10)), (1, .int 1)] := hl
  refine lv_iload_n hx hb dX5_rankOf_0 rfl (lv_at hl 1 rfl) ?_
  refine lv_if_lt (tgt := 13) hx hb dX5_rankOf_1 (by decide) (fun h => absurd h (by decide)) (fun _ => ?_)
  refine lv_iload_n hx hb dX5_rankOf_4 rfl (lv_at hl 1 rfl) ?_
  refine lv_aload_n hx hb dX5_rankOf_5 rfl (lv_at hl 0 rfl) ?_
  refine m_get fl_X5_17_X5 C hM (i := 10) (by decide) h10 (v := .ref (b + 12)) rfl dX5_rankOf_6 ?_
  refine m_alen C hM (j := 12) (by decide) 1 h12 rfl (v := 3) rfl dX5_rankOf_9 ?_
  refine lv_icmp_lt (tgt := 17) hx hb dX5_rankOf_10 (by decide) (fun _ => ?_) (fun h => absurd (by decide) h)
  refine lv_aload_n hx hb dX5_rankOf_17 rfl (lv_at hl 0 rfl) ?_
  refine m_get fl_X5_17_X5 C hM (i := 10) (by decide) h10 (v := .ref (b + 12)) rfl dX5_rankOf_18 ?_
  refine lv_iload_n hx hb dX5_rankOf_21 rfl (lv_at hl 1 rfl) ?_
  refine m_iald C hM (j := 12) (by decide) h12 (m_in (by decide)) dX5_rankOf_22 ?_
  refine m_vi (y := 1) (by decide) ?_
  exact m_iret C hr hlk hM (⟨rfl, rfl, rfl⟩) dX5_rankOf_23
set_option maxHeartbeats 4000000 in
set_option maxRecDepth 100000 in
theorem a_X5_rankOf_3 (l : Launch) (D : va_G) (kc : Nat → ClassId) (b : Nat) (f : Nat → va_E) (h10 : f 10 = .inr (5, [.ref (b + 11), .ref (b + 12), .ref (b + 13), .int 0, .int 0, .int 0])) (h12 : f 12 = .inl (kc 1, 3, .inl (mRk))) : mMi l yX5_rankOf cX5_rankOf 2 .int 1 0 0 D kc b 220 f [.ref (b + 10), .int 2] (fun r u => r = 2 ∧ u.1 = 220 ∧ u.2 = f) := by
  refine m_start (by decide) (Nat.le_of_ble_eq_true rfl) ?_
  intro p e s m below meth c C hr hlk hnm hM ls hl
  obtain ⟨hx, hb, hml, hown, hts, hE, hbs⟩ := id C
  have hl : lv_has ls 2 [(0, .ref (b + 10)), (1, .int 2)] := hl
  refine lv_iload_n hx hb dX5_rankOf_0 rfl (lv_at hl 1 rfl) ?_
  refine lv_if_lt (tgt := 13) hx hb dX5_rankOf_1 (by decide) (fun h => absurd h (by decide)) (fun _ => ?_)
  refine lv_iload_n hx hb dX5_rankOf_4 rfl (lv_at hl 1 rfl) ?_
  refine lv_aload_n hx hb dX5_rankOf_5 rfl (lv_at hl 0 rfl) ?_
  refine m_get fl_X5_17_X5 C hM (i := 10) (by decide) h10 (v := .ref (b + 12)) rfl dX5_rankOf_6 ?_
  refine m_alen C hM (j := 12) (by decide) 1 h12 rfl (v := 3) rfl dX5_rankOf_9 ?_
  refine lv_icmp_lt (tgt := 17) hx hb dX5_rankOf_10 (by decide) (fun _ => ?_) (fun h => absurd (by decide) h)
  refine lv_aload_n hx hb dX5_rankOf_17 rfl (lv_at hl 0 rfl) ?_
  refine m_get fl_X5_17_X5 C hM (i := 10) (by decide) h10 (v := .ref (b + 12)) rfl dX5_rankOf_18 ?_
  refine lv_iload_n hx hb dX5_rankOf_21 rfl (lv_at hl 1 rfl) ?_
  refine m_iald C hM (j := 12) (by decide) h12 (m_in (by decide)) dX5_rankOf_22 ?_
  refine m_vi (y := 2) (by decide) ?_
  exact m_iret C hr hlk hM (⟨rfl, rfl, rfl⟩) dX5_rankOf_23
set_option maxHeartbeats 4000000 in
set_option maxRecDepth 100000 in
theorem k_x_count (l : Launch) (D : va_G) (kc : Nat → ClassId) (b : Nat) (f : Nat → va_E) (a0 : Int32) (h0 : f 0 = .inr (11, [.ref (b + 1), .ref (b + 3), .ref (b + 4), .ref (b + 6), .ref (b + 8), .ref (b + 10), .ref (b + 174), .ref (b + 177), .ref (b + 178), .ref (b + 181), .ref (b + 183), .ref (b + 190)])) (h4 : f 4 = .inr (8, [.ref (b + 5), .int 0])) (h6 : f 6 = .inr (8, [.ref (b + 7), .int 0])) (h8 : f 8 = .inr (8, [.ref (b + 9), .int 0])) (h10 : f 10 = .inr (5, [.ref (b + 11), .ref (b + 12), .ref (b + 13), .int 0, .int 0, .int 0])) (h1 : f 1 = .inr (10, [.ref (b + 2), .int 0])) (h12 : f 12 = .inl (kc 1, 3, .inl (mRk))) : mMi l yX11_count cX11_count 2 .int 3 0 0 D kc b 220 f [.ref (b + 0), .int a0] (fun r u => r = p_count a0 ∧ u.1 = 220 ∧ ∀ j, 192 ≤ j → u.2 j = f j) := by
  refine m_start (by decide) (Nat.le_of_ble_eq_true rfl) ?_
  intro p e s m below meth c C hr hlk hnm hM ls hl
  obtain ⟨hx, hb, hml, hown, hts, hE, hbs⟩ := id C
  have hl : lv_has ls 2 [(0, .ref (b + 0)), (1, .int a0)] := hl
  by_cases q1 : a0 < 0
  · refine lv_iload_n hx hb dX11_count_0 rfl (lv_at hl 1 rfl) ?_
    refine lv_tableOut (tgt := 156) hx hb dX11_count_1 (by revert q1; simp only [Int32.lt_iff_toInt_lt, Int32.le_iff_toInt_le, m_lits]; omega) (by decide) ?_
    refine lv_iconst (v := (-1)) hx hb dX11_count_156 (by decide) ?_
    exact m_iret C hr hlk hM (⟨by unfold p_count; rw [if_neg (by revert q1; simp only [Int32.lt_iff_toInt_lt, Int32.le_iff_toInt_le, m_lits]; omega), if_neg (by revert q1; simp only [Int32.lt_iff_toInt_lt, Int32.le_iff_toInt_le, m_lits]; omega)], rfl, fun _ _ => rfl⟩) dX11_count_157
  by_cases q2 : 12 < a0
  · refine lv_iload_n hx hb dX11_count_0 rfl (lv_at hl 1 rfl) ?_
    refine lv_tableOut (tgt := 156) hx hb dX11_count_1 (by revert q1 q2; simp only [Int32.lt_iff_toInt_lt, Int32.le_iff_toInt_le, m_lits]; omega) (by decide) ?_
    refine lv_iconst (v := (-1)) hx hb dX11_count_156 (by decide) ?_
    exact m_iret C hr hlk hM (⟨by unfold p_count; rw [if_neg (by revert q1 q2; simp only [Int32.lt_iff_toInt_lt, Int32.le_iff_toInt_le, m_lits]; omega), if_neg (by revert q1 q2; simp only [Int32.lt_iff_toInt_lt, Int32.le_iff_toInt_le, m_lits]; omega)], rfl, fun _ _ => rfl⟩) dX11_count_157
  by_cases s3 : a0 = 0
  · subst s3
    refine lv_iload_n hx hb dX11_count_0 rfl (lv_at hl 1 rfl) ?_
    refine lv_tableIn (tgt := 68) hx hb dX11_count_1 (by decide) (by decide) rfl (by decide) ?_
    refine lv_aload_n hx hb dX11_count_68 rfl (lv_at hl 0 rfl) ?_
    refine lv_iload_n hx hb dX11_count_69 rfl (lv_at hl 1 rfl) ?_
    refine m_goi (m_runV calV_X11_sizeOf wd_1005 (a_X11_sizeOf_0 l D kc b f h0 h4) C hM (by decide) h0 rfl hl.1 rfl rfl (Nat.le_of_ble_eq_true rfl) dX11_count_70 ⟨Nat.le_of_ble_eq_true rfl, Nat.le_of_ble_eq_true rfl⟩ ⟨Nat.le_of_ble_eq_true rfl, Nat.le_of_ble_eq_true rfl⟩) hM (fun r4 n5 f1 H locs hp hM => ?_)
    have hp : r4 = 0 ∧ n5 = 220 ∧ f1 = f := hp
    obtain ⟨rfl, rfl, ef1⟩ := hp
    have fr_1 : ∀ j, 192 ≤ j → f1 j = f j := fun j hj => m_sm ef1 (rfl)
    exact m_iret C hr hlk hM (⟨by decide, rfl, fr_1⟩) dX11_count_73
  by_cases s6 : a0 = 1
  · subst s6
    refine lv_iload_n hx hb dX11_count_0 rfl (lv_at hl 1 rfl) ?_
    refine lv_tableIn (tgt := 68) hx hb dX11_count_1 (by decide) (by decide) rfl (by decide) ?_
    refine lv_aload_n hx hb dX11_count_68 rfl (lv_at hl 0 rfl) ?_
    refine lv_iload_n hx hb dX11_count_69 rfl (lv_at hl 1 rfl) ?_
    refine m_goi (m_runV calV_X11_sizeOf wd_1005 (a_X11_sizeOf_1 l D kc b f h0 h6) C hM (by decide) h0 rfl hl.1 rfl rfl (Nat.le_of_ble_eq_true rfl) dX11_count_70 ⟨Nat.le_of_ble_eq_true rfl, Nat.le_of_ble_eq_true rfl⟩ ⟨Nat.le_of_ble_eq_true rfl, Nat.le_of_ble_eq_true rfl⟩) hM (fun r7 n8 f1 H locs hp hM => ?_)
    have hp : r7 = 0 ∧ n8 = 220 ∧ f1 = f := hp
    obtain ⟨rfl, rfl, ef1⟩ := hp
    have fr_1 : ∀ j, 192 ≤ j → f1 j = f j := fun j hj => m_sm ef1 (rfl)
    exact m_iret C hr hlk hM (⟨by decide, rfl, fr_1⟩) dX11_count_73
  by_cases s9 : a0 = 2
  · subst s9
    refine lv_iload_n hx hb dX11_count_0 rfl (lv_at hl 1 rfl) ?_
    refine lv_tableIn (tgt := 68) hx hb dX11_count_1 (by decide) (by decide) rfl (by decide) ?_
    refine lv_aload_n hx hb dX11_count_68 rfl (lv_at hl 0 rfl) ?_
    refine lv_iload_n hx hb dX11_count_69 rfl (lv_at hl 1 rfl) ?_
    refine m_goi (m_runV calV_X11_sizeOf wd_1005 (a_X11_sizeOf_2 l D kc b f h0 h8) C hM (by decide) h0 rfl hl.1 rfl rfl (Nat.le_of_ble_eq_true rfl) dX11_count_70 ⟨Nat.le_of_ble_eq_true rfl, Nat.le_of_ble_eq_true rfl⟩ ⟨Nat.le_of_ble_eq_true rfl, Nat.le_of_ble_eq_true rfl⟩) hM (fun r10 n11 f1 H locs hp hM => ?_)
    have hp : r10 = 0 ∧ n11 = 220 ∧ f1 = f := hp
    obtain ⟨rfl, rfl, ef1⟩ := hp
    have fr_1 : ∀ j, 192 ≤ j → f1 j = f j := fun j hj => m_sm ef1 (rfl)
    exact m_iret C hr hlk hM (⟨by decide, rfl, fr_1⟩) dX11_count_73
  by_cases s12 : a0 = 3
  · subst s12
    refine lv_iload_n hx hb dX11_count_0 rfl (lv_at hl 1 rfl) ?_
    refine lv_tableIn (tgt := 74) hx hb dX11_count_1 (by decide) (by decide) rfl (by decide) ?_
    refine lv_aload_n hx hb dX11_count_74 rfl (lv_at hl 0 rfl) ?_
    refine m_get fl_X11_41_X11 C hM (i := 0) (by decide) h0 (v := .ref (b + 10)) rfl dX11_count_75 ?_
    refine m_getN fl_X11_210_X5 C hM (i := 10) (by decide) h10 (v := .int 0) rfl dX11_count_78 ?_
    exact m_iret C hr hlk hM (⟨by decide, rfl, fun _ _ => rfl⟩) dX11_count_81
  by_cases s13 : a0 = 4
  · subst s13
    refine lv_iload_n hx hb dX11_count_0 rfl (lv_at hl 1 rfl) ?_
    refine lv_tableIn (tgt := 82) hx hb dX11_count_1 (by decide) (by decide) rfl (by decide) ?_
    refine lv_aload_n hx hb dX11_count_82 rfl (lv_at hl 0 rfl) ?_
    refine m_get fl_X11_41_X11 C hM (i := 0) (by decide) h0 (v := .ref (b + 10)) rfl dX11_count_83 ?_
    refine lv_iconst (v := 0) hx hb dX11_count_86 (by decide) ?_
    refine m_goi (m_runV calV_X5_tally wd_1009 (a_X5_tally_0 l D kc b f h10) C hM (by decide) h10 rfl hl.1 rfl rfl (Nat.le_of_ble_eq_true rfl) dX11_count_87 ⟨Nat.le_of_ble_eq_true rfl, Nat.le_of_ble_eq_true rfl⟩ ⟨Nat.le_of_ble_eq_true rfl, Nat.le_of_ble_eq_true rfl⟩) hM (fun r14 n15 f1 H locs hp hM => ?_)
    have hp : r14 = 0 ∧ n15 = 220 ∧ f1 = f := hp
    obtain ⟨rfl, rfl, ef1⟩ := hp
    refine lv_aload_n hx hb dX11_count_90 rfl (lv_at hl 0 rfl) ?_
    have h0_1 : f1 0 = .inr (11, [.ref (b + 1), .ref (b + 3), .ref (b + 4), .ref (b + 6), .ref (b + 8), .ref (b + 10), .ref (b + 174), .ref (b + 177), .ref (b + 178), .ref (b + 181), .ref (b + 183), .ref (b + 190)]) := m_sm ef1 h0
    refine m_get fl_X11_41_X11 C hM (i := 0) (by decide) h0_1 (v := .ref (b + 10)) rfl dX11_count_91 ?_
    refine lv_iconst (v := 1) hx hb dX11_count_94 (by decide) ?_
    have h10_1 : f1 10 = .inr (5, [.ref (b + 11), .ref (b + 12), .ref (b + 13), .int 0, .int 0, .int 0]) := m_sm ef1 h10
    refine m_goi (m_runV calV_X5_tally wd_1009 (a_X5_tally_1 l D kc b f1 h10_1) C hM (by decide) h10_1 rfl hl.1 rfl rfl (Nat.le_of_ble_eq_true rfl) dX11_count_95 ⟨Nat.le_of_ble_eq_true rfl, Nat.le_of_ble_eq_true rfl⟩ ⟨Nat.le_of_ble_eq_true rfl, Nat.le_of_ble_eq_true rfl⟩) hM (fun r16 n17 f2 H locs hp hM => ?_)
    have hp : r16 = 0 ∧ n17 = 220 ∧ f2 = f1 := hp
    obtain ⟨rfl, rfl, ef2⟩ := hp
    refine lv_iadd hx hb dX11_count_98 ?_
    refine m_vi (y := 0) (by decide) ?_
    have fr_1 : ∀ j, 192 ≤ j → f1 j = f j := fun j hj => m_sm ef1 (rfl)
    have fr_2 : ∀ j, 192 ≤ j → f2 j = f j := fun j hj => m_sm ef2 (fr_1 j hj)
    exact m_iret C hr hlk hM (⟨by decide, rfl, fr_2⟩) dX11_count_99
  by_cases s18 : a0 = 5
  · subst s18
    refine lv_iload_n hx hb dX11_count_0 rfl (lv_at hl 1 rfl) ?_
    refine lv_tableIn (tgt := 100) hx hb dX11_count_1 (by decide) (by decide) rfl (by decide) ?_
    refine lv_aload_n hx hb dX11_count_100 rfl (lv_at hl 0 rfl) ?_
    refine m_get fl_X11_41_X11 C hM (i := 0) (by decide) h0 (v := .ref (b + 10)) rfl dX11_count_101 ?_
    refine lv_iconst (v := 0) hx hb dX11_count_104 (by decide) ?_
    refine m_goi (m_runV calV_X5_tally wd_1009 (a_X5_tally_0 l D kc b f h10) C hM (by decide) h10 rfl hl.1 rfl rfl (Nat.le_of_ble_eq_true rfl) dX11_count_105 ⟨Nat.le_of_ble_eq_true rfl, Nat.le_of_ble_eq_true rfl⟩ ⟨Nat.le_of_ble_eq_true rfl, Nat.le_of_ble_eq_true rfl⟩) hM (fun r19 n20 f1 H locs hp hM => ?_)
    have hp : r19 = 0 ∧ n20 = 220 ∧ f1 = f := hp
    obtain ⟨rfl, rfl, ef1⟩ := hp
    have fr_1 : ∀ j, 192 ≤ j → f1 j = f j := fun j hj => m_sm ef1 (rfl)
    exact m_iret C hr hlk hM (⟨by decide, rfl, fr_1⟩) dX11_count_108
  by_cases s21 : a0 = 6
  · subst s21
    refine lv_iload_n hx hb dX11_count_0 rfl (lv_at hl 1 rfl) ?_
    refine lv_tableIn (tgt := 109) hx hb dX11_count_1 (by decide) (by decide) rfl (by decide) ?_
    refine lv_aload_n hx hb dX11_count_109 rfl (lv_at hl 0 rfl) ?_
    refine m_get fl_X11_41_X11 C hM (i := 0) (by decide) h0 (v := .ref (b + 10)) rfl dX11_count_110 ?_
    refine lv_iconst (v := 1) hx hb dX11_count_113 (by decide) ?_
    refine m_goi (m_runV calV_X5_tally wd_1009 (a_X5_tally_1 l D kc b f h10) C hM (by decide) h10 rfl hl.1 rfl rfl (Nat.le_of_ble_eq_true rfl) dX11_count_114 ⟨Nat.le_of_ble_eq_true rfl, Nat.le_of_ble_eq_true rfl⟩ ⟨Nat.le_of_ble_eq_true rfl, Nat.le_of_ble_eq_true rfl⟩) hM (fun r22 n23 f1 H locs hp hM => ?_)
    have hp : r22 = 0 ∧ n23 = 220 ∧ f1 = f := hp
    obtain ⟨rfl, rfl, ef1⟩ := hp
    have fr_1 : ∀ j, 192 ≤ j → f1 j = f j := fun j hj => m_sm ef1 (rfl)
    exact m_iret C hr hlk hM (⟨by decide, rfl, fr_1⟩) dX11_count_117
  by_cases s24 : a0 = 7
  · subst s24
    refine lv_iload_n hx hb dX11_count_0 rfl (lv_at hl 1 rfl) ?_
    refine lv_tableIn (tgt := 118) hx hb dX11_count_1 (by decide) (by decide) rfl (by decide) ?_
    refine lv_aload_n hx hb dX11_count_118 rfl (lv_at hl 0 rfl) ?_
    refine m_get fl_X11_41_X11 C hM (i := 0) (by decide) h0 (v := .ref (b + 10)) rfl dX11_count_119 ?_
    refine lv_iconst (v := 2) hx hb dX11_count_122 (by decide) ?_
    refine m_goi (m_runV calV_X5_tally wd_1009 (a_X5_tally_2 l D kc b f h10) C hM (by decide) h10 rfl hl.1 rfl rfl (Nat.le_of_ble_eq_true rfl) dX11_count_123 ⟨Nat.le_of_ble_eq_true rfl, Nat.le_of_ble_eq_true rfl⟩ ⟨Nat.le_of_ble_eq_true rfl, Nat.le_of_ble_eq_true rfl⟩) hM (fun r25 n26 f1 H locs hp hM => ?_)
    have hp : r25 = 0 ∧ n26 = 220 ∧ f1 = f := hp
    obtain ⟨rfl, rfl, ef1⟩ := hp
    have fr_1 : ∀ j, 192 ≤ j → f1 j = f j := fun j hj => m_sm ef1 (rfl)
    exact m_iret C hr hlk hM (⟨by decide, rfl, fr_1⟩) dX11_count_126
  by_cases s27 : a0 = 8
  · subst s27
    refine lv_iload_n hx hb dX11_count_0 rfl (lv_at hl 1 rfl) ?_
    refine lv_tableIn (tgt := 127) hx hb dX11_count_1 (by decide) (by decide) rfl (by decide) ?_
    refine lv_aload_n hx hb dX11_count_127 rfl (lv_at hl 0 rfl) ?_
    refine m_get fl_X11_41_X11 C hM (i := 0) (by decide) h0 (v := .ref (b + 10)) rfl dX11_count_128 ?_
    refine lv_iconst (v := 3) hx hb dX11_count_131 (by decide) ?_
    refine m_goi (m_runV calV_X5_tally wd_1009 (a_X5_tally_3 l D kc b f h10) C hM (by decide) h10 rfl hl.1 rfl rfl (Nat.le_of_ble_eq_true rfl) dX11_count_132 ⟨Nat.le_of_ble_eq_true rfl, Nat.le_of_ble_eq_true rfl⟩ ⟨Nat.le_of_ble_eq_true rfl, Nat.le_of_ble_eq_true rfl⟩) hM (fun r28 n29 f1 H locs hp hM => ?_)
    have hp : r28 = 0 ∧ n29 = 220 ∧ f1 = f := hp
    obtain ⟨rfl, rfl, ef1⟩ := hp
    have fr_1 : ∀ j, 192 ≤ j → f1 j = f j := fun j hj => m_sm ef1 (rfl)
    exact m_iret C hr hlk hM (⟨by decide, rfl, fr_1⟩) dX11_count_135
  by_cases s30 : a0 = 9
  · subst s30
    refine lv_iload_n hx hb dX11_count_0 rfl (lv_at hl 1 rfl) ?_
    refine lv_tableIn (tgt := 136) hx hb dX11_count_1 (by decide) (by decide) rfl (by decide) ?_
    refine lv_aload_n hx hb dX11_count_136 rfl (lv_at hl 0 rfl) ?_
    refine m_get fl_X11_12_X11 C hM (i := 0) (by decide) h0 (v := .ref (b + 1)) rfl dX11_count_137 ?_
    refine m_getN fl_X11_87_X10 C hM (i := 1) (by decide) h1 (v := .int 0) rfl dX11_count_140 ?_
    exact m_iret C hr hlk hM (⟨by decide, rfl, fun _ _ => rfl⟩) dX11_count_143
  by_cases s31 : a0 = 10
  · subst s31
    refine lv_iload_n hx hb dX11_count_0 rfl (lv_at hl 1 rfl) ?_
    refine lv_tableIn (tgt := 144) hx hb dX11_count_1 (by decide) (by decide) rfl (by decide) ?_
    refine lv_aload_n hx hb dX11_count_144 rfl (lv_at hl 0 rfl) ?_
    refine m_get fl_X11_41_X11 C hM (i := 0) (by decide) h0 (v := .ref (b + 10)) rfl dX11_count_145 ?_
    refine lv_iload_n hx hb dX11_count_148 rfl (lv_at hl 1 rfl) ?_
    refine lv_bipush (v := 10) hx hb dX11_count_149 (by decide) ?_
    refine lv_isub hx hb dX11_count_151 ?_
    refine m_vi (y := 0) (by decide) ?_
    refine m_goi (m_runV calV_X5_rankOf wd_876 (a_X5_rankOf_1 l D kc b f h10 h12) C hM (by decide) h10 rfl hl.1 rfl rfl (Nat.le_of_ble_eq_true rfl) dX11_count_152 ⟨Nat.le_of_ble_eq_true rfl, Nat.le_of_ble_eq_true rfl⟩ ⟨Nat.le_of_ble_eq_true rfl, Nat.le_of_ble_eq_true rfl⟩) hM (fun r32 n33 f1 H locs hp hM => ?_)
    have hp : r32 = 0 ∧ n33 = 220 ∧ f1 = f := hp
    obtain ⟨rfl, rfl, ef1⟩ := hp
    have fr_1 : ∀ j, 192 ≤ j → f1 j = f j := fun j hj => m_sm ef1 (rfl)
    exact m_iret C hr hlk hM (⟨by decide, rfl, fr_1⟩) dX11_count_155
  by_cases s34 : a0 = 11
  · subst s34
    refine lv_iload_n hx hb dX11_count_0 rfl (lv_at hl 1 rfl) ?_
    refine lv_tableIn (tgt := 144) hx hb dX11_count_1 (by decide) (by decide) rfl (by decide) ?_
    refine lv_aload_n hx hb dX11_count_144 rfl (lv_at hl 0 rfl) ?_
    refine m_get fl_X11_41_X11 C hM (i := 0) (by decide) h0 (v := .ref (b + 10)) rfl dX11_count_145 ?_
    refine lv_iload_n hx hb dX11_count_148 rfl (lv_at hl 1 rfl) ?_
    refine lv_bipush (v := 10) hx hb dX11_count_149 (by decide) ?_
    refine lv_isub hx hb dX11_count_151 ?_
    refine m_vi (y := 1) (by decide) ?_
    refine m_goi (m_runV calV_X5_rankOf wd_876 (a_X5_rankOf_2 l D kc b f h10 h12) C hM (by decide) h10 rfl hl.1 rfl rfl (Nat.le_of_ble_eq_true rfl) dX11_count_152 ⟨Nat.le_of_ble_eq_true rfl, Nat.le_of_ble_eq_true rfl⟩ ⟨Nat.le_of_ble_eq_true rfl, Nat.le_of_ble_eq_true rfl⟩) hM (fun r35 n36 f1 H locs hp hM => ?_)
    have hp : r35 = 1 ∧ n36 = 220 ∧ f1 = f := hp
    obtain ⟨rfl, rfl, ef1⟩ := hp
    have fr_1 : ∀ j, 192 ≤ j → f1 j = f j := fun j hj => m_sm ef1 (rfl)
    exact m_iret C hr hlk hM (⟨by decide, rfl, fr_1⟩) dX11_count_155
  by_cases s37 : a0 = 12
  · subst s37
    refine lv_iload_n hx hb dX11_count_0 rfl (lv_at hl 1 rfl) ?_
    refine lv_tableIn (tgt := 144) hx hb dX11_count_1 (by decide) (by decide) rfl (by decide) ?_
    refine lv_aload_n hx hb dX11_count_144 rfl (lv_at hl 0 rfl) ?_
    refine m_get fl_X11_41_X11 C hM (i := 0) (by decide) h0 (v := .ref (b + 10)) rfl dX11_count_145 ?_
    refine lv_iload_n hx hb dX11_count_148 rfl (lv_at hl 1 rfl) ?_
    refine lv_bipush (v := 10) hx hb dX11_count_149 (by decide) ?_
    refine lv_isub hx hb dX11_count_151 ?_
    refine m_vi (y := 2) (by decide) ?_
    refine m_goi (m_runV calV_X5_rankOf wd_876 (a_X5_rankOf_3 l D kc b f h10 h12) C hM (by decide) h10 rfl hl.1 rfl rfl (Nat.le_of_ble_eq_true rfl) dX11_count_152 ⟨Nat.le_of_ble_eq_true rfl, Nat.le_of_ble_eq_true rfl⟩ ⟨Nat.le_of_ble_eq_true rfl, Nat.le_of_ble_eq_true rfl⟩) hM (fun r38 n39 f1 H locs hp hM => ?_)
    have hp : r38 = 2 ∧ n39 = 220 ∧ f1 = f := hp
    obtain ⟨rfl, rfl, ef1⟩ := hp
    have fr_1 : ∀ j, 192 ≤ j → f1 j = f j := fun j hj => m_sm ef1 (rfl)
    exact m_iret C hr hlk hM (⟨by decide, rfl, fr_1⟩) dX11_count_155
  exfalso; revert q1 q2 s3 s6 s9 s12 s13 s18 s21 s24 s27 s30 s31 s34 s37; simp only [← Int32.toInt_inj, Int32.lt_iff_toInt_lt, Int32.le_iff_toInt_le, m_lits]; omega
