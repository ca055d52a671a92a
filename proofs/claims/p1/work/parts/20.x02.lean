set_option maxHeartbeats 4000000 in
set_option maxRecDepth 100000 in
theorem k_x_fault (l : Launch) (D : va_G) (kc : Nat → ClassId) (b : Nat) (f : Nat → va_E) (a0 : Int32) (h0 : f 0 = .inr (11, [.ref (b + 1), .ref (b + 3), .ref (b + 4), .ref (b + 6), .ref (b + 8), .ref (b + 10), .ref (b + 174), .ref (b + 177), .ref (b + 178), .ref (b + 181), .ref (b + 183), .ref (b + 190)])) (h3 : f 3 = .inr (1, [.int 0, .int (-1)])) : mMi l yX11_fault cX11_fault 2 .int 1 0 0 D kc b 220 f [.ref (b + 0), .int a0] (fun r u => r = p_fault a0 ∧ u.1 = 220 ∧ ∀ j, 192 ≤ j → u.2 j = f j) := by
  refine m_start (by decide) (Nat.le_of_ble_eq_true rfl) ?_
  intro p e s m below meth c C hr hlk hnm hM ls hl
  obtain ⟨hx, hb, hml, hown, hts, hE, hbs⟩ := id C
  have hl : lv_has ls 2 [(0, .ref (b + 0)), (1, .int a0)] := hl
  refine lv_iload_n hx hb dX11_fault_0 rfl (lv_at hl 1 rfl) ?_
  refine lv_if_ne (tgt := 12) hx hb dX11_fault_1 (by decide) (fun c1 => ?_) (fun c1 => ?_)
  · refine lv_iload_n hx hb dX11_fault_12 rfl (lv_at hl 1 rfl) ?_
    refine lv_iconst (v := 1) hx hb dX11_fault_13 (by decide) ?_
    refine lv_icmp_ne (tgt := 27) hx hb dX11_fault_14 (by decide) (fun c2 => ?_) (fun c2 => ?_)
    · refine lv_iconst (v := (-1)) hx hb dX11_fault_27 (by decide) ?_
      exact m_iret C hr hlk hM (⟨by simp [p_fault, c1, c2], rfl, fun _ _ => rfl⟩) dX11_fault_28
    · refine lv_aload_n hx hb dX11_fault_17 rfl (lv_at hl 0 rfl) ?_
      refine m_get fl_X11_19_X11 C hM (i := 0) (by decide) h0 (v := .ref (b + 3)) rfl dX11_fault_18 ?_
      refine m_getN fl_X11_123_X1 C hM (i := 3) (by decide) h3 (v := .int (-1)) rfl dX11_fault_21 ?_
      refine lv_goto (tgt := 28) hx hb dX11_fault_24 (by decide) ?_
      exact m_iret C hr hlk hM (⟨by simp [p_fault, c1, c2], rfl, fun _ _ => rfl⟩) dX11_fault_28
  · refine lv_aload_n hx hb dX11_fault_4 rfl (lv_at hl 0 rfl) ?_
    refine m_get fl_X11_19_X11 C hM (i := 0) (by decide) h0 (v := .ref (b + 3)) rfl dX11_fault_5 ?_
    refine m_getN fl_X11_120_X1 C hM (i := 3) (by decide) h3 (v := .int 0) rfl dX11_fault_8 ?_
    exact m_iret C hr hlk hM (⟨by simp [p_fault, c1], rfl, fun _ _ => rfl⟩) dX11_fault_11
set_option maxHeartbeats 4000000 in
set_option maxRecDepth 100000 in
theorem a_X11_sheetOf_0 (l : Launch) (D : va_G) (kc : Nat → ClassId) (b : Nat) (f : Nat → va_E) (a0 : Int32) (z1 : a0 < 0) : mMq l yX11_sheetOf cX11_sheetOf 2 (.object "MarkedProof$Sheet") 1 0 0 D kc b 220 f [.ref (b + 0), .int a0] (fun r u => r = none ∧ u.1 = 220 ∧ u.2 = f) := by
  refine m_start (by decide) (Nat.le_of_ble_eq_true rfl) ?_
  intro p e s m below meth c C hr hlk hnm hM ls hl
  obtain ⟨hx, hb, hml, hown, hts, hE, hbs⟩ := id C
  have hl : lv_has ls 2 [(0, .ref (b + 0)), (1, .int a0)] := hl
  refine lv_iload_n hx hb dX11_sheetOf_0 rfl (lv_at hl 1 rfl) ?_
  refine lv_tableOut (tgt := 43) hx hb dX11_sheetOf_1 (by revert z1; simp only [Int32.lt_iff_toInt_lt, Int32.le_iff_toInt_le, m_lits]; omega) (by decide) ?_
  refine lv_null hx hb dX11_sheetOf_43 ?_
  exact m_qret (v := none) C hr hlk hM (⟨rfl, rfl, rfl⟩) dX11_sheetOf_44
set_option maxHeartbeats 4000000 in
set_option maxRecDepth 100000 in
theorem a_X11_sheetOf_1 (l : Launch) (D : va_G) (kc : Nat → ClassId) (b : Nat) (f : Nat → va_E) (a0 : Int32) (z1 : ¬ a0 < 0) (z2 : 2 < a0) : mMq l yX11_sheetOf cX11_sheetOf 2 (.object "MarkedProof$Sheet") 1 0 0 D kc b 220 f [.ref (b + 0), .int a0] (fun r u => r = none ∧ u.1 = 220 ∧ u.2 = f) := by
  refine m_start (by decide) (Nat.le_of_ble_eq_true rfl) ?_
  intro p e s m below meth c C hr hlk hnm hM ls hl
  obtain ⟨hx, hb, hml, hown, hts, hE, hbs⟩ := id C
  have hl : lv_has ls 2 [(0, .ref (b + 0)), (1, .int a0)] := hl
  refine lv_iload_n hx hb dX11_sheetOf_0 rfl (lv_at hl 1 rfl) ?_
  refine lv_tableOut (tgt := 43) hx hb dX11_sheetOf_1 (by revert z1 z2; simp only [Int32.lt_iff_toInt_lt, Int32.le_iff_toInt_le, m_lits]; omega) (by decide) ?_
  refine lv_null hx hb dX11_sheetOf_43 ?_
  exact m_qret (v := none) C hr hlk hM (⟨rfl, rfl, rfl⟩) dX11_sheetOf_44
set_option maxHeartbeats 4000000 in
set_option maxRecDepth 100000 in
theorem a_X11_sheetOf_2 (l : Launch) (D : va_G) (kc : Nat → ClassId) (b : Nat) (f : Nat → va_E) (h0 : f 0 = .inr (11, [.ref (b + 1), .ref (b + 3), .ref (b + 4), .ref (b + 6), .ref (b + 8), .ref (b + 10), .ref (b + 174), .ref (b + 177), .ref (b + 178), .ref (b + 181), .ref (b + 183), .ref (b + 190)])) : mMq l yX11_sheetOf cX11_sheetOf 2 (.object "MarkedProof$Sheet") 1 0 0 D kc b 220 f [.ref (b + 0), .int 0] (fun r u => r = some (b + 4) ∧ u.1 = 220 ∧ u.2 = f) := by
  refine m_start (by decide) (Nat.le_of_ble_eq_true rfl) ?_
  intro p e s m below meth c C hr hlk hnm hM ls hl
  obtain ⟨hx, hb, hml, hown, hts, hE, hbs⟩ := id C
  have hl : lv_has ls 2 [(0, .ref (b + 0)), (1, .int 0)] := hl
  refine lv_iload_n hx hb dX11_sheetOf_0 rfl (lv_at hl 1 rfl) ?_
  refine lv_tableIn (tgt := 28) hx hb dX11_sheetOf_1 (by decide) (by decide) rfl (by decide) ?_
  refine lv_aload_n hx hb dX11_sheetOf_28 rfl (lv_at hl 0 rfl) ?_
  refine m_get fl_X11_28_X11 C hM (i := 0) (by decide) h0 (v := .ref (b + 4)) rfl dX11_sheetOf_29 ?_
  exact m_qret (v := (some (b + 4))) C hr hlk hM (⟨rfl, rfl, rfl⟩) dX11_sheetOf_32
set_option maxHeartbeats 4000000 in
set_option maxRecDepth 100000 in
theorem a_X8_wordAt_0 (l : Launch) (D : va_G) (kc : Nat → ClassId) (b : Nat) (f : Nat → va_E) (a1 : Int32) (h4 : f 4 = .inr (8, [.ref (b + 5), .int 0])) : mMl l yX8_wordAt cX8_wordAt 2 .long 1 0 0 D kc b 220 f [.ref (b + 4), .int a1] (fun r u => r = 0 ∧ u.1 = 220 ∧ u.2 = f) := by
  refine m_start (by decide) (Nat.le_of_ble_eq_true rfl) ?_
  intro p e s m below meth c C hr hlk hnm hM ls hl
  obtain ⟨hx, hb, hml, hown, hts, hE, hbs⟩ := id C
  have hl : lv_has ls 2 [(0, .ref (b + 4)), (1, .int a1)] := hl
  refine lv_iload_n hx hb dX8_wordAt_0 rfl (lv_at hl 1 rfl) ?_
  refine lv_if_lt (tgt := 21) hx hb dX8_wordAt_1 (by decide) (fun c1 => ?_) (fun c1 => ?_)
  · refine lv_lconst (v := 0) hx hb dX8_wordAt_21 (by decide) ?_
    refine lv_goto (tgt := 31) hx hb dX8_wordAt_22 (by decide) ?_
    exact m_lret C hr hlk hM (⟨rfl, rfl, rfl⟩) dX8_wordAt_31
  · refine lv_iload_n hx hb dX8_wordAt_4 rfl (lv_at hl 1 rfl) ?_
    refine lv_aload_n hx hb dX8_wordAt_5 rfl (lv_at hl 0 rfl) ?_
    refine m_get fl_X8_13_X8 C hM (i := 4) (by decide) h4 (v := .int 0) rfl dX8_wordAt_6 ?_
    refine lv_icmp_ge (tgt := 21) hx hb dX8_wordAt_9 (by decide) (fun c2 => ?_) (fun c2 => ?_)
    · refine lv_lconst (v := 0) hx hb dX8_wordAt_21 (by decide) ?_
      refine lv_goto (tgt := 31) hx hb dX8_wordAt_22 (by decide) ?_
      exact m_lret C hr hlk hM (⟨rfl, rfl, rfl⟩) dX8_wordAt_31
    · exfalso; revert c1 c2; simp only [← Int32.toInt_inj, Int32.lt_iff_toInt_lt, Int32.le_iff_toInt_le, m_lits]; omega
set_option maxHeartbeats 4000000 in
set_option maxRecDepth 100000 in
theorem a_X11_sheetOf_3 (l : Launch) (D : va_G) (kc : Nat → ClassId) (b : Nat) (f : Nat → va_E) (h0 : f 0 = .inr (11, [.ref (b + 1), .ref (b + 3), .ref (b + 4), .ref (b + 6), .ref (b + 8), .ref (b + 10), .ref (b + 174), .ref (b + 177), .ref (b + 178), .ref (b + 181), .ref (b + 183), .ref (b + 190)])) : mMq l yX11_sheetOf cX11_sheetOf 2 (.object "MarkedProof$Sheet") 1 0 0 D kc b 220 f [.ref (b + 0), .int 1] (fun r u => r = some (b + 6) ∧ u.1 = 220 ∧ u.2 = f) := by
  refine m_start (by decide) (Nat.le_of_ble_eq_true rfl) ?_
  intro p e s m below meth c C hr hlk hnm hM ls hl
  obtain ⟨hx, hb, hml, hown, hts, hE, hbs⟩ := id C
  have hl : lv_has ls 2 [(0, .ref (b + 0)), (1, .int 1)] := hl
  refine lv_iload_n hx hb dX11_sheetOf_0 rfl (lv_at hl 1 rfl) ?_
  refine lv_tableIn (tgt := 33) hx hb dX11_sheetOf_1 (by decide) (by decide) rfl (by decide) ?_
  refine lv_aload_n hx hb dX11_sheetOf_33 rfl (lv_at hl 0 rfl) ?_
  refine m_get fl_X11_32_X11 C hM (i := 0) (by decide) h0 (v := .ref (b + 6)) rfl dX11_sheetOf_34 ?_
  exact m_qret (v := (some (b + 6))) C hr hlk hM (⟨rfl, rfl, rfl⟩) dX11_sheetOf_37
set_option maxHeartbeats 4000000 in
set_option maxRecDepth 100000 in
theorem a_X8_wordAt_1 (l : Launch) (D : va_G) (kc : Nat → ClassId) (b : Nat) (f : Nat → va_E) (a1 : Int32) (h6 : f 6 = .inr (8, [.ref (b + 7), .int 0])) : mMl l yX8_wordAt cX8_wordAt 2 .long 1 0 0 D kc b 220 f [.ref (b + 6), .int a1] (fun r u => r = 0 ∧ u.1 = 220 ∧ u.2 = f) := by
  refine m_start (by decide) (Nat.le_of_ble_eq_true rfl) ?_
  intro p e s m below meth c C hr hlk hnm hM ls hl
  obtain ⟨hx, hb, hml, hown, hts, hE, hbs⟩ := id C
  have hl : lv_has ls 2 [(0, .ref (b + 6)), (1, .int a1)] := hl
  refine lv_iload_n hx hb dX8_wordAt_0 rfl (lv_at hl 1 rfl) ?_
  refine lv_if_lt (tgt := 21) hx hb dX8_wordAt_1 (by decide) (fun c1 => ?_) (fun c1 => ?_)
  · refine lv_lconst (v := 0) hx hb dX8_wordAt_21 (by decide) ?_
    refine lv_goto (tgt := 31) hx hb dX8_wordAt_22 (by decide) ?_
    exact m_lret C hr hlk hM (⟨rfl, rfl, rfl⟩) dX8_wordAt_31
  · refine lv_iload_n hx hb dX8_wordAt_4 rfl (lv_at hl 1 rfl) ?_
    refine lv_aload_n hx hb dX8_wordAt_5 rfl (lv_at hl 0 rfl) ?_
    refine m_get fl_X8_13_X8 C hM (i := 6) (by decide) h6 (v := .int 0) rfl dX8_wordAt_6 ?_
    refine lv_icmp_ge (tgt := 21) hx hb dX8_wordAt_9 (by decide) (fun c2 => ?_) (fun c2 => ?_)
    · refine lv_lconst (v := 0) hx hb dX8_wordAt_21 (by decide) ?_
      refine lv_goto (tgt := 31) hx hb dX8_wordAt_22 (by decide) ?_
      exact m_lret C hr hlk hM (⟨rfl, rfl, rfl⟩) dX8_wordAt_31
    · exfalso; revert c1 c2; simp only [← Int32.toInt_inj, Int32.lt_iff_toInt_lt, Int32.le_iff_toInt_le, m_lits]; omega
set_option maxHeartbeats 4000000 in
set_option maxRecDepth 100000 in
theorem a_X11_sheetOf_4 (l : Launch) (D : va_G) (kc : Nat → ClassId) (b : Nat) (f : Nat → va_E) (h0 : f 0 = .inr (11, [.ref (b + 1), .ref (b + 3), .ref (b + 4), .ref (b + 6), .ref (b + 8), .ref (b + 10), .ref (b + 174), .ref (b + 177), .ref (b + 178), .ref (b + 181), .ref (b + 183), .ref (b + 190)])) : mMq l yX11_sheetOf cX11_sheetOf 2 (.object "MarkedProof$Sheet") 1 0 0 D kc b 220 f [.ref (b + 0), .int 2] (fun r u => r = some (b + 8) ∧ u.1 = 220 ∧ u.2 = f) := by
  refine m_start (by decide) (Nat.le_of_ble_eq_true rfl) ?_
  intro p e s m below meth c C hr hlk hnm hM ls hl
  obtain ⟨hx, hb, hml, hown, hts, hE, hbs⟩ := id C
  have hl : lv_has ls 2 [(0, .ref (b + 0)), (1, .int 2)] := hl
  refine lv_iload_n hx hb dX11_sheetOf_0 rfl (lv_at hl 1 rfl) ?_
  refine lv_tableIn (tgt := 38) hx hb dX11_sheetOf_1 (by decide) (by decide) rfl (by decide) ?_
  refine lv_aload_n hx hb dX11_sheetOf_38 rfl (lv_at hl 0 rfl) ?_
  refine m_get fl_X11_35_X11 C hM (i := 0) (by decide) h0 (v := .ref (b + 8)) rfl dX11_sheetOf_39 ?_
  exact m_qret (v := (some (b + 8))) C hr hlk hM (⟨rfl, rfl, rfl⟩) dX11_sheetOf_42
set_option maxHeartbeats 4000000 in
set_option maxRecDepth 100000 in
theorem a_X8_wordAt_2 (l : Launch) (D : va_G) (kc : Nat → ClassId) (b : Nat) (f : Nat → va_E) (a1 : Int32) (h8 : f 8 = .inr (8, [.ref (b + 9), .int 0])) : mMl l yX8_wordAt cX8_wordAt 2 .long 1 0 0 D kc b 220 f [.ref (b + 8), .int a1] (fun r u => r = 0 ∧ u.1 = 220 ∧ u.2 = f) := by
  refine m_start (by decide) (Nat.le_of_ble_eq_true rfl) ?_
  intro p e s m below meth c C hr hlk hnm hM ls hl
  obtain ⟨hx, hb, hml, hown, hts, hE, hbs⟩ := id C
  have hl : lv_has ls 2 [(0, .ref (b + 8)), (1, .int a1)] := hl
  refine lv_iload_n hx hb dX8_wordAt_0 rfl (lv_at hl 1 rfl) ?_
  refine lv_if_lt (tgt := 21) hx hb dX8_wordAt_1 (by decide) (fun c1 => ?_) (fun c1 => ?_)
  · refine lv_lconst (v := 0) hx hb dX8_wordAt_21 (by decide) ?_
    refine lv_goto (tgt := 31) hx hb dX8_wordAt_22 (by decide) ?_
    exact m_lret C hr hlk hM (⟨rfl, rfl, rfl⟩) dX8_wordAt_31
  · refine lv_iload_n hx hb dX8_wordAt_4 rfl (lv_at hl 1 rfl) ?_
    refine lv_aload_n hx hb dX8_wordAt_5 rfl (lv_at hl 0 rfl) ?_
    refine m_get fl_X8_13_X8 C hM (i := 8) (by decide) h8 (v := .int 0) rfl dX8_wordAt_6 ?_
    refine lv_icmp_ge (tgt := 21) hx hb dX8_wordAt_9 (by decide) (fun c2 => ?_) (fun c2 => ?_)
    · refine lv_lconst (v := 0) hx hb dX8_wordAt_21 (by decide) ?_
      refine lv_goto (tgt := 31) hx hb dX8_wordAt_22 (by decide) ?_
      exact m_lret C hr hlk hM (⟨rfl, rfl, rfl⟩) dX8_wordAt_31
    · exfalso; revert c1 c2; simp only [← Int32.toInt_inj, Int32.lt_iff_toInt_lt, Int32.le_iff_toInt_le, m_lits]; omega
set_option maxHeartbeats 4000000 in
set_option maxRecDepth 100000 in
theorem k_x_word (l : Launch) (D : va_G) (kc : Nat → ClassId) (b : Nat) (f : Nat → va_E) (a0 : Int32) (a1 : Int32) (h0 : f 0 = .inr (11, [.ref (b + 1), .ref (b + 3), .ref (b + 4), .ref (b + 6), .ref (b + 8), .ref (b + 10), .ref (b + 174), .ref (b + 177), .ref (b + 178), .ref (b + 181), .ref (b + 183), .ref (b + 190)])) (h4 : f 4 = .inr (8, [.ref (b + 5), .int 0])) (h6 : f 6 = .inr (8, [.ref (b + 7), .int 0])) (h8 : f 8 = .inr (8, [.ref (b + 9), .int 0])) : mMl l yX11_word cX11_word 4 .long 2 0 0 D kc b 220 f [.ref (b + 0), .int a0, .int a1] (fun r u => r = 0 ∧ u.1 = 220 ∧ ∀ j, 192 ≤ j → u.2 j = f j) := by
  refine m_start (by decide) (Nat.le_of_ble_eq_true rfl) ?_
  intro p e s m below meth c C hr hlk hnm hM ls hl
  obtain ⟨hx, hb, hml, hown, hts, hE, hbs⟩ := id C
  have hl : lv_has ls 4 [(0, .ref (b + 0)), (1, .int a0), (2, .int a1)] := hl
  by_cases q1 : a0 < 0
  · refine lv_aload_n hx hb dX11_word_0 rfl (lv_at hl 0 rfl) ?_
    refine lv_iload_n hx hb dX11_word_1 rfl (lv_at hl 1 rfl) ?_
    refine m_goq (m_runV calV_X11_sheetOf wd_845 (a_X11_sheetOf_0 l D kc b f a0 q1) C hM (by decide) h0 rfl hl.1 rfl rfl (Nat.le_of_ble_eq_true rfl) dX11_word_2 ⟨Nat.le_of_ble_eq_true rfl, Nat.le_of_ble_eq_true rfl⟩ ⟨Nat.le_of_ble_eq_true rfl, Nat.le_of_ble_eq_true rfl⟩) hM (fun r2 n3 f1 H locs hp hM => ?_)
    have hp : r2 = none ∧ n3 = 220 ∧ f1 = f := hp
    obtain ⟨rfl, rfl, ef1⟩ := hp
    refine m_vv (y := .null) rfl ?_
    refine lv_astore_nN (lv' := [(3, .null), (0, .ref (b + 0)), (1, .int a0), (2, .int a1)]) hx hb dX11_word_5 rfl hl (by decide) rfl (fun ls hl => ?_)
    refine lv_aload_nN hx hb dX11_word_6 rfl (lv_at hl 0 rfl) ?_
    refine lv_ifnonnullN hx hb dX11_word_7 ?_
    refine lv_lconst (v := 0) hx hb dX11_word_10 (by decide) ?_
    refine lv_goto (tgt := 19) hx hb dX11_word_11 (by decide) ?_
    have fr_1 : ∀ j, 192 ≤ j → f1 j = f j := fun j hj => m_sm ef1 (rfl)
    exact m_lret C hr hlk hM (⟨rfl, rfl, fr_1⟩) dX11_word_19
  by_cases q4 : 2 < a0
  · refine lv_aload_n hx hb dX11_word_0 rfl (lv_at hl 0 rfl) ?_
    refine lv_iload_n hx hb dX11_word_1 rfl (lv_at hl 1 rfl) ?_
    refine m_goq (m_runV calV_X11_sheetOf wd_845 (a_X11_sheetOf_1 l D kc b f a0 q1 q4) C hM (by decide) h0 rfl hl.1 rfl rfl (Nat.le_of_ble_eq_true rfl) dX11_word_2 ⟨Nat.le_of_ble_eq_true rfl, Nat.le_of_ble_eq_true rfl⟩ ⟨Nat.le_of_ble_eq_true rfl, Nat.le_of_ble_eq_true rfl⟩) hM (fun r5 n6 f1 H locs hp hM => ?_)
    have hp : r5 = none ∧ n6 = 220 ∧ f1 = f := hp
    obtain ⟨rfl, rfl, ef1⟩ := hp
    refine m_vv (y := .null) rfl ?_
    refine lv_astore_nN (lv' := [(3, .null), (0, .ref (b + 0)), (1, .int a0), (2, .int a1)]) hx hb dX11_word_5 rfl hl (by decide) rfl (fun ls hl => ?_)
    refine lv_aload_nN hx hb dX11_word_6 rfl (lv_at hl 0 rfl) ?_
    refine lv_ifnonnullN hx hb dX11_word_7 ?_
    refine lv_lconst (v := 0) hx hb dX11_word_10 (by decide) ?_
    refine lv_goto (tgt := 19) hx hb dX11_word_11 (by decide) ?_
    have fr_1 : ∀ j, 192 ≤ j → f1 j = f j := fun j hj => m_sm ef1 (rfl)
    exact m_lret C hr hlk hM (⟨rfl, rfl, fr_1⟩) dX11_word_19
  by_cases s7 : a0 = 0
  · subst s7
    refine lv_aload_n hx hb dX11_word_0 rfl (lv_at hl 0 rfl) ?_
    refine lv_iload_n hx hb dX11_word_1 rfl (lv_at hl 1 rfl) ?_
    refine m_goq (m_runV calV_X11_sheetOf wd_845 (a_X11_sheetOf_2 l D kc b f h0) C hM (by decide) h0 rfl hl.1 rfl rfl (Nat.le_of_ble_eq_true rfl) dX11_word_2 ⟨Nat.le_of_ble_eq_true rfl, Nat.le_of_ble_eq_true rfl⟩ ⟨Nat.le_of_ble_eq_true rfl, Nat.le_of_ble_eq_true rfl⟩) hM (fun r8 n9 f1 H locs hp hM => ?_)
    have hp : r8 = some (b + 4) ∧ n9 = 220 ∧ f1 = f := hp
    obtain ⟨rfl, rfl, ef1⟩ := hp
    refine m_vv (y := .ref (b + 4)) rfl ?_
    refine lv_astore_n (lv' := [(3, .ref (b + 4)), (0, .ref (b + 0)), (1, .int 0), (2, .int a1)]) hx hb dX11_word_5 rfl hl (by decide) rfl (fun ls hl => ?_)
    refine lv_aload_n hx hb dX11_word_6 rfl (lv_at hl 0 rfl) ?_
    refine lv_ifnonnull (tgt := 14) hx hb dX11_word_7 (by decide) ?_
    refine lv_aload_n hx hb dX11_word_14 rfl (lv_at hl 0 rfl) ?_
    refine lv_iload_n hx hb dX11_word_15 rfl (lv_at hl 3 rfl) ?_
    have h4_1 : f1 4 = .inr (8, [.ref (b + 5), .int 0]) := m_sm ef1 h4
    refine m_gol (m_runV calV_X8_wordAt wd_849 (a_X8_wordAt_0 l D kc b f1 a1 h4_1) C hM (by decide) h4_1 rfl hl.1 rfl rfl (Nat.le_of_ble_eq_true rfl) dX11_word_16 ⟨Nat.le_of_ble_eq_true rfl, Nat.le_of_ble_eq_true rfl⟩ ⟨Nat.le_of_ble_eq_true rfl, Nat.le_of_ble_eq_true rfl⟩) hM (fun r10 n11 f2 H locs hp hM => ?_)
    have hp : r10 = 0 ∧ n11 = 220 ∧ f2 = f1 := hp
    obtain ⟨rfl, rfl, ef2⟩ := hp
    have fr_1 : ∀ j, 192 ≤ j → f1 j = f j := fun j hj => m_sm ef1 (rfl)
    have fr_2 : ∀ j, 192 ≤ j → f2 j = f j := fun j hj => m_sm ef2 (fr_1 j hj)
    exact m_lret C hr hlk hM (⟨rfl, rfl, fr_2⟩) dX11_word_19
  by_cases s12 : a0 = 1
  · subst s12
    refine lv_aload_n hx hb dX11_word_0 rfl (lv_at hl 0 rfl) ?_
    refine lv_iload_n hx hb dX11_word_1 rfl (lv_at hl 1 rfl) ?_
    refine m_goq (m_runV calV_X11_sheetOf wd_845 (a_X11_sheetOf_3 l D kc b f h0) C hM (by decide) h0 rfl hl.1 rfl rfl (Nat.le_of_ble_eq_true rfl) dX11_word_2 ⟨Nat.le_of_ble_eq_true rfl, Nat.le_of_ble_eq_true rfl⟩ ⟨Nat.le_of_ble_eq_true rfl, Nat.le_of_ble_eq_true rfl⟩) hM (fun r13 n14 f1 H locs hp hM => ?_)
    have hp : r13 = some (b + 6) ∧ n14 = 220 ∧ f1 = f := hp
    obtain ⟨rfl, rfl, ef1⟩ := hp
    refine m_vv (y := .ref (b + 6)) rfl ?_
    refine lv_astore_n (lv' := [(3, .ref (b + 6)), (0, .ref (b + 0)), (1, .int 1), (2, .int a1)]) hx hb dX11_word_5 rfl hl (by decide) rfl (fun ls hl => ?_)
    refine lv_aload_n hx hb dX11_word_6 rfl (lv_at hl 0 rfl) ?_
    refine lv_ifnonnull (tgt := 14) hx hb dX11_word_7 (by decide) ?_
    refine lv_aload_n hx hb dX11_word_14 rfl (lv_at hl 0 rfl) ?_
    refine lv_iload_n hx hb dX11_word_15 rfl (lv_at hl 3 rfl) ?_
    have h6_1 : f1 6 = .inr (8, [.ref (b + 7), .int 0]) := m_sm ef1 h6
    refine m_gol (m_runV calV_X8_wordAt wd_849 (a_X8_wordAt_1 l D kc b f1 a1 h6_1) C hM (by decide) h6_1 rfl hl.1 rfl rfl (Nat.le_of_ble_eq_true rfl) dX11_word_16 ⟨Nat.le_of_ble_eq_true rfl, Nat.le_of_ble_eq_true rfl⟩ ⟨Nat.le_of_ble_eq_true rfl, Nat.le_of_ble_eq_true rfl⟩) hM (fun r15 n16 f2 H locs hp hM => ?_)
    have hp : r15 = 0 ∧ n16 = 220 ∧ f2 = f1 := hp
    obtain ⟨rfl, rfl, ef2⟩ := hp
    have fr_1 : ∀ j, 192 ≤ j → f1 j = f j := fun j hj => m_sm ef1 (rfl)
    have fr_2 : ∀ j, 192 ≤ j → f2 j = f j := fun j hj => m_sm ef2 (fr_1 j hj)
    exact m_lret C hr hlk hM (⟨rfl, rfl, fr_2⟩) dX11_word_19
  by_cases s17 : a0 = 2
  · subst s17
    refine lv_aload_n hx hb dX11_word_0 rfl (lv_at hl 0 rfl) ?_
    refine lv_iload_n hx hb dX11_word_1 rfl (lv_at hl 1 rfl) ?_
    refine m_goq (m_runV calV_X11_sheetOf wd_845 (a_X11_sheetOf_4 l D kc b f h0) C hM (by decide) h0 rfl hl.1 rfl rfl (Nat.le_of_ble_eq_true rfl) dX11_word_2 ⟨Nat.le_of_ble_eq_true rfl, Nat.le_of_ble_eq_true rfl⟩ ⟨Nat.le_of_ble_eq_true rfl, Nat.le_of_ble_eq_true rfl⟩) hM (fun r18 n19 f1 H locs hp hM => ?_)
    have hp : r18 = some (b + 8) ∧ n19 = 220 ∧ f1 = f := hp
    obtain ⟨rfl, rfl, ef1⟩ := hp
    refine m_vv (y := .ref (b + 8)) rfl ?_
    refine lv_astore_n (lv' := [(3, .ref (b + 8)), (0, .ref (b + 0)), (1, .int 2), (2, .int a1)]) hx hb dX11_word_5 rfl hl (by decide) rfl (fun ls hl => ?_)
    refine lv_aload_n hx hb dX11_word_6 rfl (lv_at hl 0 rfl) ?_
    refine lv_ifnonnull (tgt := 14) hx hb dX11_word_7 (by decide) ?_
    refine lv_aload_n hx hb dX11_word_14 rfl (lv_at hl 0 rfl) ?_
    refine lv_iload_n hx hb dX11_word_15 rfl (lv_at hl 3 rfl) ?_
    have h8_1 : f1 8 = .inr (8, [.ref (b + 9), .int 0]) := m_sm ef1 h8
    refine m_gol (m_runV calV_X8_wordAt wd_849 (a_X8_wordAt_2 l D kc b f1 a1 h8_1) C hM (by decide) h8_1 rfl hl.1 rfl rfl (Nat.le_of_ble_eq_true rfl) dX11_word_16 ⟨Nat.le_of_ble_eq_true rfl, Nat.le_of_ble_eq_true rfl⟩ ⟨Nat.le_of_ble_eq_true rfl, Nat.le_of_ble_eq_true rfl⟩) hM (fun r20 n21 f2 H locs hp hM => ?_)
    have hp : r20 = 0 ∧ n21 = 220 ∧ f2 = f1 := hp
    obtain ⟨rfl, rfl, ef2⟩ := hp
    have fr_1 : ∀ j, 192 ≤ j → f1 j = f j := fun j hj => m_sm ef1 (rfl)
    have fr_2 : ∀ j, 192 ≤ j → f2 j = f j := fun j hj => m_sm ef2 (fr_1 j hj)
    exact m_lret C hr hlk hM (⟨rfl, rfl, fr_2⟩) dX11_word_19
  exfalso; revert q1 q4 s7 s12 s17; simp only [← Int32.toInt_inj, Int32.lt_iff_toInt_lt, Int32.le_iff_toInt_le, m_lits]; omega
set_option maxHeartbeats 4000000 in
set_option maxRecDepth 100000 in
theorem a_X5_markAt_0 (l : Launch) (D : va_G) (kc : Nat → ClassId) (b : Nat) (f : Nat → va_E) (a0 : Int32) (z1 : a0 < 0) : mMq l yX5_markAt cX5_markAt 2 (.object "MarkedProof$Mark") 1 0 0 D kc b 220 f [.ref (b + 10), .int a0] (fun r u => r = none ∧ u.1 = 220 ∧ u.2 = f) := by
  refine m_start (by decide) (Nat.le_of_ble_eq_true rfl) ?_
  intro p e s m below meth c C hr hlk hnm hM ls hl
  obtain ⟨hx, hb, hml, hown, hts, hE, hbs⟩ := id C
  have hl : lv_has ls 2 [(0, .ref (b + 10)), (1, .int a0)] := hl
  refine lv_iload_n hx hb dX5_markAt_0 rfl (lv_at hl 1 rfl) ?_
  refine lv_if_lt (tgt := 13) hx hb dX5_markAt_1 (by decide) (fun c1 => ?_) (fun c1 => ?_)
  · refine lv_null hx hb dX5_markAt_13 ?_
    refine lv_goto (tgt := 23) hx hb dX5_markAt_14 (by decide) ?_
    exact m_qret (v := none) C hr hlk hM (⟨rfl, rfl, rfl⟩) dX5_markAt_23
  · exfalso; revert z1 c1; simp only [← Int32.toInt_inj, Int32.lt_iff_toInt_lt, Int32.le_iff_toInt_le, m_lits]; omega
set_option maxHeartbeats 4000000 in
set_option maxRecDepth 100000 in
theorem a_X5_find_0 (l : Launch) (D : va_G) (kc : Nat → ClassId) (b : Nat) (f : Nat → va_E) (a0 : Int32) (h10 : f 10 = .inr (5, [.ref (b + 11), .ref (b + 12), .ref (b + 13), .int 0, .int 0, .int 0])) : mMq l yX5_find cX5_find 2 (.object "MarkedProof$Mark") 2 0 0 D kc b 220 f [.ref (b + 10), .int a0] (fun r u => r = none ∧ u.1 = 220 ∧ u.2 = f) := by
  refine m_start (by decide) (Nat.le_of_ble_eq_true rfl) ?_
  intro p e s m below meth c C hr hlk hnm hM ls hl
  obtain ⟨hx, hb, hml, hown, hts, hE, hbs⟩ := id C
  have hl : lv_has ls 2 [(0, .ref (b + 10)), (1, .int a0)] := hl
  refine lv_iload_n hx hb dX5_find_0 rfl (lv_at hl 1 rfl) ?_
  refine lv_aload_n hx hb dX5_find_1 rfl (lv_at hl 0 rfl) ?_
  refine m_get fl_X5_25_X5 C hM (i := 10) (by decide) h10 (v := .int 0) rfl dX5_find_2 ?_
  refine lv_icmp_lt (tgt := 12) hx hb dX5_find_5 (by decide) (fun c1 => ?_) (fun c1 => ?_)
  · refine lv_aload_n hx hb dX5_find_12 rfl (lv_at hl 0 rfl) ?_
    refine lv_iload_n hx hb dX5_find_13 rfl (lv_at hl 1 rfl) ?_
    refine m_goq (m_runV calV_X5_markAt wd_610 (a_X5_markAt_0 l D kc b f a0 c1) C hM (by decide) h10 rfl hl.1 rfl rfl (Nat.le_of_ble_eq_true rfl) dX5_find_14 ⟨Nat.le_of_ble_eq_true rfl, Nat.le_of_ble_eq_true rfl⟩ ⟨Nat.le_of_ble_eq_true rfl, Nat.le_of_ble_eq_true rfl⟩) hM (fun r2 n3 f1 H locs hp hM => ?_)
    have hp : r2 = none ∧ n3 = 220 ∧ f1 = f := hp
    obtain ⟨rfl, rfl, ef1⟩ := hp
    refine m_vv (y := .null) rfl ?_
    exact m_qret (v := none) C hr hlk hM (⟨rfl, rfl, by rw [ef1]⟩) dX5_find_17
  · refine lv_null hx hb dX5_find_8 ?_
    refine lv_goto (tgt := 17) hx hb dX5_find_9 (by decide) ?_
    exact m_qret (v := none) C hr hlk hM (⟨rfl, rfl, rfl⟩) dX5_find_17
set_option maxHeartbeats 4000000 in
set_option maxRecDepth 100000 in
theorem k_x_mark (l : Launch) (D : va_G) (kc : Nat → ClassId) (b : Nat) (f : Nat → va_E) (a0 : Int32) (a1 : Int32) (h0 : f 0 = .inr (11, [.ref (b + 1), .ref (b + 3), .ref (b + 4), .ref (b + 6), .ref (b + 8), .ref (b + 10), .ref (b + 174), .ref (b + 177), .ref (b + 178), .ref (b + 181), .ref (b + 183), .ref (b + 190)])) (h10 : f 10 = .inr (5, [.ref (b + 11), .ref (b + 12), .ref (b + 13), .int 0, .int 0, .int 0])) : mMi l yX11_mark cX11_mark 4 .int 3 0 0 D kc b 220 f [.ref (b + 0), .int a0, .int a1] (fun r u => r = (-9) ∧ u.1 = 220 ∧ ∀ j, 192 ≤ j → u.2 j = f j) := by
  refine m_start (by decide) (Nat.le_of_ble_eq_true rfl) ?_
  intro p e s m below meth c C hr hlk hnm hM ls hl
  obtain ⟨hx, hb, hml, hown, hts, hE, hbs⟩ := id C
  have hl : lv_has ls 4 [(0, .ref (b + 0)), (1, .int a0), (2, .int a1)] := hl
  refine lv_aload_n hx hb dX11_mark_0 rfl (lv_at hl 0 rfl) ?_
  refine m_get fl_X11_41_X11 C hM (i := 0) (by decide) h0 (v := .ref (b + 10)) rfl dX11_mark_1 ?_
  refine lv_iload_n hx hb dX11_mark_4 rfl (lv_at hl 1 rfl) ?_
  refine m_goq (m_runV calV_X5_find wd_854 (a_X5_find_0 l D kc b f a0 h10) C hM (by decide) h10 rfl hl.1 rfl rfl (Nat.le_of_ble_eq_true rfl) dX11_mark_5 ⟨Nat.le_of_ble_eq_true rfl, Nat.le_of_ble_eq_true rfl⟩ ⟨Nat.le_of_ble_eq_true rfl, Nat.le_of_ble_eq_true rfl⟩) hM (fun r1 n2 f1 H locs hp hM => ?_)
  have hp : r1 = none ∧ n2 = 220 ∧ f1 = f := hp
  obtain ⟨rfl, rfl, ef1⟩ := hp
  refine m_vv (y := .null) rfl ?_
  refine lv_astore_nN (lv' := [(3, .null), (0, .ref (b + 0)), (1, .int a0), (2, .int a1)]) hx hb dX11_mark_8 rfl hl (by decide) rfl (fun ls hl => ?_)
  refine lv_aload_nN hx hb dX11_mark_9 rfl (lv_at hl 0 rfl) ?_
  refine lv_ifnonnullN hx hb dX11_mark_10 ?_
  refine lv_bipush (v := (-9)) hx hb dX11_mark_13 (by decide) ?_
  have fr_1 : ∀ j, 192 ≤ j → f1 j = f j := fun j hj => m_sm ef1 (rfl)
  exact m_iret C hr hlk hM (⟨rfl, rfl, fr_1⟩) dX11_mark_15
set_option maxHeartbeats 4000000 in
set_option maxRecDepth 100000 in
theorem k_x_answer (l : Launch) (D : va_G) (kc : Nat → ClassId) (b : Nat) (f : Nat → va_E) (a0 : Int32) (a1 : Int32) (h0 : f 0 = .inr (11, [.ref (b + 1), .ref (b + 3), .ref (b + 4), .ref (b + 6), .ref (b + 8), .ref (b + 10), .ref (b + 174), .ref (b + 177), .ref (b + 178), .ref (b + 181), .ref (b + 183), .ref (b + 190)])) (h10 : f 10 = .inr (5, [.ref (b + 11), .ref (b + 12), .ref (b + 13), .int 0, .int 0, .int 0])) : mMi l yX11_answer cX11_answer 4 .int 3 0 0 D kc b 220 f [.ref (b + 0), .int a0, .int a1] (fun r u => r = (-2) ∧ u.1 = 220 ∧ ∀ j, 192 ≤ j → u.2 j = f j) := by
  refine m_start (by decide) (Nat.le_of_ble_eq_true rfl) ?_
  intro p e s m below meth c C hr hlk hnm hM ls hl
  obtain ⟨hx, hb, hml, hown, hts, hE, hbs⟩ := id C
  have hl : lv_has ls 4 [(0, .ref (b + 0)), (1, .int a0), (2, .int a1)] := hl
  refine lv_aload_n hx hb dX11_answer_0 rfl (lv_at hl 0 rfl) ?_
  refine m_get fl_X11_41_X11 C hM (i := 0) (by decide) h0 (v := .ref (b + 10)) rfl dX11_answer_1 ?_
  refine lv_iload_n hx hb dX11_answer_4 rfl (lv_at hl 1 rfl) ?_
  refine m_goq (m_runV calV_X5_find wd_854 (a_X5_find_0 l D kc b f a0 h10) C hM (by decide) h10 rfl hl.1 rfl rfl (Nat.le_of_ble_eq_true rfl) dX11_answer_5 ⟨Nat.le_of_ble_eq_true rfl, Nat.le_of_ble_eq_true rfl⟩ ⟨Nat.le_of_ble_eq_true rfl, Nat.le_of_ble_eq_true rfl⟩) hM (fun r1 n2 f1 H locs hp hM => ?_)
  have hp : r1 = none ∧ n2 = 220 ∧ f1 = f := hp
  obtain ⟨rfl, rfl, ef1⟩ := hp
  refine m_vv (y := .null) rfl ?_
  refine lv_astore_nN (lv' := [(3, .null), (0, .ref (b + 0)), (1, .int a0), (2, .int a1)]) hx hb dX11_answer_8 rfl hl (by decide) rfl (fun ls hl => ?_)
  refine lv_aload_nN hx hb dX11_answer_9 rfl (lv_at hl 0 rfl) ?_
  refine lv_ifnonnullN hx hb dX11_answer_10 ?_
  refine lv_bipush (v := (-2)) hx hb dX11_answer_13 (by decide) ?_
  have fr_1 : ∀ j, 192 ≤ j → f1 j = f j := fun j hj => m_sm ef1 (rfl)
  exact m_iret C hr hlk hM (⟨rfl, rfl, fr_1⟩) dX11_answer_15
set_option maxHeartbeats 4000000 in
set_option maxRecDepth 100000 in
theorem a_X5_rankOf_0 (l : Launch) (D : va_G) (kc : Nat → ClassId) (b : Nat) (f : Nat → va_E) (a0 : Int32) (h10 : f 10 = .inr (5, [.ref (b + 11), .ref (b + 12), .ref (b + 13), .int 0, .int 0, .int 0])) (h12 : f 12 = .inl (kc 1, 3, .inl (mRk))) (z1 : ¬ a0 < 0) (z2 : ¬ 3 ≤ a0) : mMi l yX5_rankOf cX5_rankOf 2 .int 1 0 0 D kc b 220 f [.ref (b + 10), .int a0] (fun r u => r = ((mRk) a0.toNatClampNeg) ∧ u.1 = 220 ∧ u.2 = f) := by
  refine m_start (by decide) (Nat.le_of_ble_eq_true rfl) ?_
  intro p e s m below meth c C hr hlk hnm hM ls hl
  obtain ⟨hx, hb, hml, hown, hts, hE, hbs⟩ := id C
  have hl : lv_has ls 2 [(0, .ref (b + 10)), (1, .int a0)] := hl
  refine lv_iload_n hx hb dX5_rankOf_0 rfl (lv_at hl 1 rfl) ?_
  refine lv_if_lt (tgt := 13) hx hb dX5_rankOf_1 (by decide) (fun c1 => ?_) (fun c1 => ?_)
  · exfalso; revert z1 z2 c1; simp only [← Int32.toInt_inj, Int32.lt_iff_toInt_lt, Int32.le_iff_toInt_le, m_lits]; omega
  · refine lv_iload_n hx hb dX5_rankOf_4 rfl (lv_at hl 1 rfl) ?_
    refine lv_aload_n hx hb dX5_rankOf_5 rfl (lv_at hl 0 rfl) ?_
    refine m_get fl_X5_17_X5 C hM (i := 10) (by decide) h10 (v := .ref (b + 12)) rfl dX5_rankOf_6 ?_
    refine m_alen C hM (j := 12) (by decide) 1 h12 rfl (v := 3) rfl dX5_rankOf_9 ?_
    refine lv_icmp_lt (tgt := 17) hx hb dX5_rankOf_10 (by decide) (fun c2 => ?_) (fun c2 => ?_)
    · refine lv_aload_n hx hb dX5_rankOf_17 rfl (lv_at hl 0 rfl) ?_
      refine m_get fl_X5_17_X5 C hM (i := 10) (by decide) h10 (v := .ref (b + 12)) rfl dX5_rankOf_18 ?_
      refine lv_iload_n hx hb dX5_rankOf_21 rfl (lv_at hl 1 rfl) ?_
      refine m_iald C hM (j := 12) (by decide) h12 (by revert z1 z2 c1 c2; rw [vp_in_iff]; simp only [Int32.lt_iff_toInt_lt, Int32.le_iff_toInt_le, m_lits]; omega) dX5_rankOf_22 ?_
      exact m_iret C hr hlk hM (⟨rfl, rfl, rfl⟩) dX5_rankOf_23
    · exfalso; revert z1 z2 c1 c2; simp only [← Int32.toInt_inj, Int32.lt_iff_toInt_lt, Int32.le_iff_toInt_le, m_lits]; omega
set_option maxHeartbeats 4000000 in
set_option maxRecDepth 100000 in
theorem k_x_rank (l : Launch) (D : va_G) (kc : Nat → ClassId) (b : Nat) (f : Nat → va_E) (a0 : Int32) (a1 : Int32) (h0 : f 0 = .inr (11, [.ref (b + 1), .ref (b + 3), .ref (b + 4), .ref (b + 6), .ref (b + 8), .ref (b + 10), .ref (b + 174), .ref (b + 177), .ref (b + 178), .ref (b + 181), .ref (b + 183), .ref (b + 190)])) (h10 : f 10 = .inr (5, [.ref (b + 11), .ref (b + 12), .ref (b + 13), .int 0, .int 0, .int 0])) (h12 : f 12 = .inl (kc 1, 3, .inl (mRk))) (h178 : f 178 = .inr (7, [.ref (b + 179), .ref (b + 180), .int 0, .null, .null])) (h8 : f 8 = .inr (8, [.ref (b + 9), .int 0])) (h4 : f 4 = .inr (8, [.ref (b + 5), .int 0])) : mMi l yX11_rank cX11_rank 4 .int 4 0 0 D kc b 220 f [.ref (b + 0), .int a0, .int a1] (fun r u => r = p_rank a0 a1 ∧ u.1 = 220 ∧ ∀ j, 192 ≤ j → u.2 j = f j) := by
  refine m_start (by decide) (Nat.le_of_ble_eq_true rfl) ?_
  intro p e s m below meth c C hr hlk hnm hM ls hl
  obtain ⟨hx, hb, hml, hown, hts, hE, hbs⟩ := id C
  have hl : lv_has ls 4 [(0, .ref (b + 0)), (1, .int a0), (2, .int a1)] := hl
  refine lv_iload_n hx hb dX11_rank_0 rfl (lv_at hl 1 rfl) ?_
  refine lv_if_lt (tgt := 19) hx hb dX11_rank_1 (by decide) (fun c1 => ?_) (fun c1 => ?_)
  · refine lv_bipush (v := (-2)) hx hb dX11_rank_19 (by decide) ?_
    exact m_iret C hr hlk hM (⟨by unfold p_rank; rw [if_neg (by revert c1; simp only [Int32.lt_iff_toInt_lt, Int32.le_iff_toInt_le, m_lits]; omega)], rfl, fun _ _ => rfl⟩) dX11_rank_21
  · refine lv_iload_n hx hb dX11_rank_4 rfl (lv_at hl 1 rfl) ?_
    refine lv_iconst (v := 3) hx hb dX11_rank_5 (by decide) ?_
    refine lv_icmp_ge (tgt := 19) hx hb dX11_rank_6 (by decide) (fun c2 => ?_) (fun c2 => ?_)
    · refine lv_bipush (v := (-2)) hx hb dX11_rank_19 (by decide) ?_
      exact m_iret C hr hlk hM (⟨by unfold p_rank; rw [if_neg (by revert c1 c2; simp only [Int32.lt_iff_toInt_lt, Int32.le_iff_toInt_le, m_lits]; omega)], rfl, fun _ _ => rfl⟩) dX11_rank_21
    · refine lv_iload_n hx hb dX11_rank_9 rfl (lv_at hl 2 rfl) ?_
      refine lv_if_lt (tgt := 19) hx hb dX11_rank_10 (by decide) (fun c3 => ?_) (fun c3 => ?_)
      · refine lv_bipush (v := (-2)) hx hb dX11_rank_19 (by decide) ?_
        exact m_iret C hr hlk hM (⟨by unfold p_rank; rw [if_neg (by revert c1 c2 c3; simp only [Int32.lt_iff_toInt_lt, Int32.le_iff_toInt_le, m_lits]; omega)], rfl, fun _ _ => rfl⟩) dX11_rank_21
      · refine lv_iload_n hx hb dX11_rank_13 rfl (lv_at hl 2 rfl) ?_
        refine lv_bipush (v := 9) hx hb dX11_rank_14 (by decide) ?_
        refine lv_icmp_le (tgt := 22) hx hb dX11_rank_16 (by decide) (fun c4 => ?_) (fun c4 => ?_)
        · refine lv_aload_n hx hb dX11_rank_22 rfl (lv_at hl 0 rfl) ?_
          refine m_get fl_X11_41_X11 C hM (i := 0) (by decide) h0 (v := .ref (b + 10)) rfl dX11_rank_23 ?_
          refine lv_iload_n hx hb dX11_rank_26 rfl (lv_at hl 1 rfl) ?_
          refine m_goi (m_runV calV_X5_rankOf wd_876 (a_X5_rankOf_0 l D kc b f a0 h10 h12 c1 c2) C hM (by decide) h10 rfl hl.1 rfl rfl (Nat.le_of_ble_eq_true rfl) dX11_rank_27 ⟨Nat.le_of_ble_eq_true rfl, Nat.le_of_ble_eq_true rfl⟩ ⟨Nat.le_of_ble_eq_true rfl, Nat.le_of_ble_eq_true rfl⟩) hM (fun r5 n6 f1 H locs hp hM => ?_)
          have hp : r5 = ((mRk) a0.toNatClampNeg) ∧ n6 = 220 ∧ f1 = f := hp
          obtain ⟨rfl, rfl, ef1⟩ := hp
          refine lv_topi (fun x7 ex7 => ?_)
          refine lv_istore_n (lv' := [(3, .int x7), (0, .ref (b + 0)), (1, .int a0), (2, .int a1)]) hx hb dX11_rank_30 rfl hl (by decide) rfl (fun ls hl => ?_)
          refine lv_aload_n hx hb dX11_rank_31 rfl (lv_at hl 1 rfl) ?_
          have h0_1 : f1 0 = .inr (11, [.ref (b + 1), .ref (b + 3), .ref (b + 4), .ref (b + 6), .ref (b + 8), .ref (b + 10), .ref (b + 174), .ref (b + 177), .ref (b + 178), .ref (b + 181), .ref (b + 183), .ref (b + 190)]) := m_sm ef1 h0
          refine m_get fl_X11_41_X11 C hM (i := 0) (by decide) h0_1 (v := .ref (b + 10)) rfl dX11_rank_32 ?_
          have h10_1 : f1 10 = .inr (5, [.ref (b + 11), .ref (b + 12), .ref (b + 13), .int 0, .int 0, .int 0]) := m_sm ef1 h10
          refine m_getN fl_X11_160_X5 C hM (i := 10) (by decide) h10_1 (v := .ref (b + 12)) rfl dX11_rank_35 ?_
          refine lv_iload_n hx hb dX11_rank_38 rfl (lv_at hl 2 rfl) ?_
          refine lv_iload_n hx hb dX11_rank_39 rfl (lv_at hl 3 rfl) ?_
          have h12_1 : f1 12 = .inl (kc 1, 3, .inl (mRk)) := m_sm ef1 h12
          refine m_iast C hM (j := 12) (by decide) h12_1 (by revert c1 c2; rw [vp_in_iff]; simp only [Int32.lt_iff_toInt_lt, Int32.le_iff_toInt_le, m_lits]; omega) dX11_rank_40 (fun H locs f2 ef2 hM => ?_)
          have ef2 : f2 = va_up f1 12 (.inl (kc 1, 3, .inl (upd mRk a0.toNatClampNeg a1))) := ef2
          refine lv_aload_n hx hb dX11_rank_41 rfl (lv_at hl 1 rfl) ?_
          have h0_2 : f2 0 = .inr (11, [.ref (b + 1), .ref (b + 3), .ref (b + 4), .ref (b + 6), .ref (b + 8), .ref (b + 10), .ref (b + 174), .ref (b + 177), .ref (b + 178), .ref (b + 181), .ref (b + 183), .ref (b + 190)]) := m_ne ef2 h0_1 (by decide)
          have h10_2 : f2 10 = .inr (5, [.ref (b + 11), .ref (b + 12), .ref (b + 13), .int 0, .int 0, .int 0]) := m_ne ef2 h10_1 (by decide)
          have h178_1 : f1 178 = .inr (7, [.ref (b + 179), .ref (b + 180), .int 0, .null, .null]) := m_sm ef1 h178
          have h178_2 : f2 178 = .inr (7, [.ref (b + 179), .ref (b + 180), .int 0, .null, .null]) := m_ne ef2 h178_1 (by decide)
          have h8_1 : f1 8 = .inr (8, [.ref (b + 9), .int 0]) := m_sm ef1 h8
          have h8_2 : f2 8 = .inr (8, [.ref (b + 9), .int 0]) := m_ne ef2 h8_1 (by decide)
          have h4_1 : f1 4 = .inr (8, [.ref (b + 5), .int 0]) := m_sm ef1 h4
          have h4_2 : f2 4 = .inr (8, [.ref (b + 5), .int 0]) := m_ne ef2 h4_1 (by decide)
          refine m_gov (m_runV calV_X11_settle wd_598 (a_X11_settle_0 l D kc b f2 h0_2 h10_2 h178_2 h8_2 h4_2) C hM (by decide) h0_2 rfl hl.1 rfl rfl (Nat.le_of_ble_eq_true rfl) dX11_rank_42 ⟨Nat.le_of_ble_eq_true rfl, Nat.le_of_ble_eq_true rfl⟩ ⟨Nat.le_of_ble_eq_true rfl, Nat.le_of_ble_eq_true rfl⟩) hM (fun n9 f3 H locs hp hM => ?_)
          have hp : n9 = 220 ∧ f3 = va_up (va_up (va_up (va_up (va_up f2 10 (.inr (5, [.ref (b + 11), .ref (b + 12), .ref (b + 13), .int 0, .int 0, .int 0]))) 178 (.inr (7, [.ref (b + 179), .ref (b + 180), .int 0, .null, .null]))) 178 (.inr (7, [.ref (b + 179), .ref (b + 180), .int 0, .ref (b + 4), .null]))) 178 (.inr (7, [.ref (b + 179), .ref (b + 180), .int 0, .ref (b + 4), .ref (b + 8)]))) 8 (.inr (8, [.ref (b + 9), .int 0])) := hp
          obtain ⟨rfl, ef3⟩ := hp
          refine lv_iload_n hx hb dX11_rank_45 rfl (lv_at hl 0 rfl) ?_
          have fr_1 : ∀ j, 192 ≤ j → f1 j = f j := fun j hj => m_sm ef1 (rfl)
          have fr_2 : ∀ j, 192 ≤ j → f2 j = f j := fun j hj => m_ne ef2 (fr_1 j hj) (by omega)
          have fr_3 : ∀ j, 192 ≤ j → f3 j = f j := fun j hj => m_ne ef3 (m_ne rfl (m_ne rfl (m_ne rfl (m_ne rfl (fr_2 j hj) (by omega)) (by omega)) (by omega)) (by omega)) (by omega)
          exact m_iret C hr hlk hM (⟨by rw [ex7]; unfold p_rank; rw [if_pos (by revert c1 c2 c3 c4; simp only [Int32.lt_iff_toInt_lt, Int32.le_iff_toInt_le, m_lits]; omega)], rfl, fr_3⟩) dX11_rank_46
        · refine lv_bipush (v := (-2)) hx hb dX11_rank_19 (by decide) ?_
          exact m_iret C hr hlk hM (⟨by unfold p_rank; rw [if_neg (by revert c1 c2 c3 c4; simp only [Int32.lt_iff_toInt_lt, Int32.le_iff_toInt_le, m_lits]; omega)], rfl, fun _ _ => rfl⟩) dX11_rank_21
set_option maxHeartbeats 4000000 in
set_option maxRecDepth 100000 in
theorem a_X5_findNoStet_0 (l : Launch) (D : va_G) (kc : Nat → ClassId) (b : Nat) (f : Nat → va_E) (a0 : Int32) (h10 : f 10 = .inr (5, [.ref (b + 11), .ref (b + 12), .ref (b + 13), .int 0, .int 0, .int 0])) : mMq l yX5_findNoStet cX5_findNoStet 3 (.object "MarkedProof$Mark") 3 0 0 D kc b 220 f [.ref (b + 10), .int a0] (fun r u => r = none ∧ u.1 = 220 ∧ u.2 = f) := by
  refine m_start (by decide) (Nat.le_of_ble_eq_true rfl) ?_
  intro p e s m below meth c C hr hlk hnm hM ls hl
  obtain ⟨hx, hb, hml, hown, hts, hE, hbs⟩ := id C
  have hl : lv_has ls 3 [(0, .ref (b + 10)), (1, .int a0)] := hl
  refine lv_aload_n hx hb dX5_findNoStet_0 rfl (lv_at hl 0 rfl) ?_
  refine lv_iload_n hx hb dX5_findNoStet_1 rfl (lv_at hl 1 rfl) ?_
  refine m_goq (m_runV calV_X5_find wd_606 (a_X5_find_0 l D kc b f a0 h10) C hM (by decide) h10 rfl hl.1 rfl rfl (Nat.le_of_ble_eq_true rfl) dX5_findNoStet_2 ⟨Nat.le_of_ble_eq_true rfl, Nat.le_of_ble_eq_true rfl⟩ ⟨Nat.le_of_ble_eq_true rfl, Nat.le_of_ble_eq_true rfl⟩) hM (fun r1 n2 f1 H locs hp hM => ?_)
  have hp : r1 = none ∧ n2 = 220 ∧ f1 = f := hp
  obtain ⟨rfl, rfl, ef1⟩ := hp
  refine m_vv (y := .null) rfl ?_
  refine lv_astore_nN (lv' := [(2, .null), (0, .ref (b + 10)), (1, .int a0)]) hx hb dX5_findNoStet_5 rfl hl (by decide) rfl (fun ls hl => ?_)
  refine lv_aload_nN hx hb dX5_findNoStet_6 rfl (lv_at hl 0 rfl) ?_
  refine lv_ifnullN (tgt := 18) hx hb dX5_findNoStet_7 (by decide) ?_
  refine lv_null hx hb dX5_findNoStet_18 ?_
  refine lv_goto (tgt := 23) hx hb dX5_findNoStet_19 (by decide) ?_
  exact m_qret (v := none) C hr hlk hM (⟨rfl, rfl, by rw [ef1]⟩) dX5_findNoStet_23
set_option maxHeartbeats 4000000 in
set_option maxRecDepth 100000 in
theorem a_X5_markAt_1 (l : Launch) (D : va_G) (kc : Nat → ClassId) (b : Nat) (f : Nat → va_E) (a1 : Int32) (z1 : a1 < 0) : mMq l yX5_markAt cX5_markAt 2 (.object "MarkedProof$Mark") 1 0 0 D kc b 220 f [.ref (b + 10), .int a1] (fun r u => r = none ∧ u.1 = 220 ∧ u.2 = f) := by
  refine m_start (by decide) (Nat.le_of_ble_eq_true rfl) ?_
  intro p e s m below meth c C hr hlk hnm hM ls hl
  obtain ⟨hx, hb, hml, hown, hts, hE, hbs⟩ := id C
  have hl : lv_has ls 2 [(0, .ref (b + 10)), (1, .int a1)] := hl
  refine lv_iload_n hx hb dX5_markAt_0 rfl (lv_at hl 1 rfl) ?_
  refine lv_if_lt (tgt := 13) hx hb dX5_markAt_1 (by decide) (fun c1 => ?_) (fun c1 => ?_)
  · refine lv_null hx hb dX5_markAt_13 ?_
    refine lv_goto (tgt := 23) hx hb dX5_markAt_14 (by decide) ?_
    exact m_qret (v := none) C hr hlk hM (⟨rfl, rfl, rfl⟩) dX5_markAt_23
  · exfalso; revert z1 c1; simp only [← Int32.toInt_inj, Int32.lt_iff_toInt_lt, Int32.le_iff_toInt_le, m_lits]; omega
set_option maxHeartbeats 4000000 in
set_option maxRecDepth 100000 in
theorem a_X5_find_1 (l : Launch) (D : va_G) (kc : Nat → ClassId) (b : Nat) (f : Nat → va_E) (a1 : Int32) (h10 : f 10 = .inr (5, [.ref (b + 11), .ref (b + 12), .ref (b + 13), .int 0, .int 0, .int 0])) : mMq l yX5_find cX5_find 2 (.object "MarkedProof$Mark") 2 0 0 D kc b 220 f [.ref (b + 10), .int a1] (fun r u => r = none ∧ u.1 = 220 ∧ u.2 = f) := by
  refine m_start (by decide) (Nat.le_of_ble_eq_true rfl) ?_
  intro p e s m below meth c C hr hlk hnm hM ls hl
  obtain ⟨hx, hb, hml, hown, hts, hE, hbs⟩ := id C
  have hl : lv_has ls 2 [(0, .ref (b + 10)), (1, .int a1)] := hl
  refine lv_iload_n hx hb dX5_find_0 rfl (lv_at hl 1 rfl) ?_
  refine lv_aload_n hx hb dX5_find_1 rfl (lv_at hl 0 rfl) ?_
  refine m_get fl_X5_25_X5 C hM (i := 10) (by decide) h10 (v := .int 0) rfl dX5_find_2 ?_
  refine lv_icmp_lt (tgt := 12) hx hb dX5_find_5 (by decide) (fun c1 => ?_) (fun c1 => ?_)
  · refine lv_aload_n hx hb dX5_find_12 rfl (lv_at hl 0 rfl) ?_
    refine lv_iload_n hx hb dX5_find_13 rfl (lv_at hl 1 rfl) ?_
    refine m_goq (m_runV calV_X5_markAt wd_610 (a_X5_markAt_1 l D kc b f a1 c1) C hM (by decide) h10 rfl hl.1 rfl rfl (Nat.le_of_ble_eq_true rfl) dX5_find_14 ⟨Nat.le_of_ble_eq_true rfl, Nat.le_of_ble_eq_true rfl⟩ ⟨Nat.le_of_ble_eq_true rfl, Nat.le_of_ble_eq_true rfl⟩) hM (fun r2 n3 f1 H locs hp hM => ?_)
    have hp : r2 = none ∧ n3 = 220 ∧ f1 = f := hp
    obtain ⟨rfl, rfl, ef1⟩ := hp
    refine m_vv (y := .null) rfl ?_
    exact m_qret (v := none) C hr hlk hM (⟨rfl, rfl, by rw [ef1]⟩) dX5_find_17
  · refine lv_null hx hb dX5_find_8 ?_
    refine lv_goto (tgt := 17) hx hb dX5_find_9 (by decide) ?_
    exact m_qret (v := none) C hr hlk hM (⟨rfl, rfl, rfl⟩) dX5_find_17
set_option maxHeartbeats 4000000 in
set_option maxRecDepth 100000 in
theorem a_X5_findNoStet_1 (l : Launch) (D : va_G) (kc : Nat → ClassId) (b : Nat) (f : Nat → va_E) (a1 : Int32) (h10 : f 10 = .inr (5, [.ref (b + 11), .ref (b + 12), .ref (b + 13), .int 0, .int 0, .int 0])) : mMq l yX5_findNoStet cX5_findNoStet 3 (.object "MarkedProof$Mark") 3 0 0 D kc b 220 f [.ref (b + 10), .int a1] (fun r u => r = none ∧ u.1 = 220 ∧ u.2 = f) := by
  refine m_start (by decide) (Nat.le_of_ble_eq_true rfl) ?_
  intro p e s m below meth c C hr hlk hnm hM ls hl
  obtain ⟨hx, hb, hml, hown, hts, hE, hbs⟩ := id C
  have hl : lv_has ls 3 [(0, .ref (b + 10)), (1, .int a1)] := hl
  refine lv_aload_n hx hb dX5_findNoStet_0 rfl (lv_at hl 0 rfl) ?_
  refine lv_iload_n hx hb dX5_findNoStet_1 rfl (lv_at hl 1 rfl) ?_
  refine m_goq (m_runV calV_X5_find wd_606 (a_X5_find_1 l D kc b f a1 h10) C hM (by decide) h10 rfl hl.1 rfl rfl (Nat.le_of_ble_eq_true rfl) dX5_findNoStet_2 ⟨Nat.le_of_ble_eq_true rfl, Nat.le_of_ble_eq_true rfl⟩ ⟨Nat.le_of_ble_eq_true rfl, Nat.le_of_ble_eq_true rfl⟩) hM (fun r1 n2 f1 H locs hp hM => ?_)
  have hp : r1 = none ∧ n2 = 220 ∧ f1 = f := hp
  obtain ⟨rfl, rfl, ef1⟩ := hp
  refine m_vv (y := .null) rfl ?_
  refine lv_astore_nN (lv' := [(2, .null), (0, .ref (b + 10)), (1, .int a1)]) hx hb dX5_findNoStet_5 rfl hl (by decide) rfl (fun ls hl => ?_)
  refine lv_aload_nN hx hb dX5_findNoStet_6 rfl (lv_at hl 0 rfl) ?_
  refine lv_ifnullN (tgt := 18) hx hb dX5_findNoStet_7 (by decide) ?_
  refine lv_null hx hb dX5_findNoStet_18 ?_
  refine lv_goto (tgt := 23) hx hb dX5_findNoStet_19 (by decide) ?_
  exact m_qret (v := none) C hr hlk hM (⟨rfl, rfl, by rw [ef1]⟩) dX5_findNoStet_23
set_option maxHeartbeats 4000000 in
set_option maxRecDepth 100000 in
theorem k_x_meet (l : Launch) (D : va_G) (kc : Nat → ClassId) (b : Nat) (f : Nat → va_E) (a0 : Int32) (a1 : Int32) (h0 : f 0 = .inr (11, [.ref (b + 1), .ref (b + 3), .ref (b + 4), .ref (b + 6), .ref (b + 8), .ref (b + 10), .ref (b + 174), .ref (b + 177), .ref (b + 178), .ref (b + 181), .ref (b + 183), .ref (b + 190)])) (h10 : f 10 = .inr (5, [.ref (b + 11), .ref (b + 12), .ref (b + 13), .int 0, .int 0, .int 0])) : mMi l yX11_meet cX11_meet 5 .int 4 0 0 D kc b 220 f [.ref (b + 0), .int a0, .int a1] (fun r u => r = (-2) ∧ u.1 = 220 ∧ ∀ j, 192 ≤ j → u.2 j = f j) := by
  refine m_start (by decide) (Nat.le_of_ble_eq_true rfl) ?_
  intro p e s m below meth c C hr hlk hnm hM ls hl
  obtain ⟨hx, hb, hml, hown, hts, hE, hbs⟩ := id C
  have hl : lv_has ls 5 [(0, .ref (b + 0)), (1, .int a0), (2, .int a1)] := hl
  refine lv_aload_n hx hb dX11_meet_0 rfl (lv_at hl 0 rfl) ?_
  refine m_get fl_X11_41_X11 C hM (i := 0) (by decide) h0 (v := .ref (b + 10)) rfl dX11_meet_1 ?_
  refine lv_iload_n hx hb dX11_meet_4 rfl (lv_at hl 1 rfl) ?_
  refine m_goq (m_runV calV_X5_findNoStet wd_881 (a_X5_findNoStet_0 l D kc b f a0 h10) C hM (by decide) h10 rfl hl.1 rfl rfl (Nat.le_of_ble_eq_true rfl) dX11_meet_5 ⟨Nat.le_of_ble_eq_true rfl, Nat.le_of_ble_eq_true rfl⟩ ⟨Nat.le_of_ble_eq_true rfl, Nat.le_of_ble_eq_true rfl⟩) hM (fun r1 n2 f1 H locs hp hM => ?_)
  have hp : r1 = none ∧ n2 = 220 ∧ f1 = f := hp
  obtain ⟨rfl, rfl, ef1⟩ := hp
  refine m_vv (y := .null) rfl ?_
  refine lv_astore_nN (lv' := [(3, .null), (0, .ref (b + 0)), (1, .int a0), (2, .int a1)]) hx hb dX11_meet_8 rfl hl (by decide) rfl (fun ls hl => ?_)
  refine lv_aload_n hx hb dX11_meet_9 rfl (lv_at hl 1 rfl) ?_
  have h0_1 : f1 0 = .inr (11, [.ref (b + 1), .ref (b + 3), .ref (b + 4), .ref (b + 6), .ref (b + 8), .ref (b + 10), .ref (b + 174), .ref (b + 177), .ref (b + 178), .ref (b + 181), .ref (b + 183), .ref (b + 190)]) := m_sm ef1 h0
  refine m_get fl_X11_41_X11 C hM (i := 0) (by decide) h0_1 (v := .ref (b + 10)) rfl dX11_meet_10 ?_
  refine lv_iload_n hx hb dX11_meet_13 rfl (lv_at hl 3 rfl) ?_
  have h10_1 : f1 10 = .inr (5, [.ref (b + 11), .ref (b + 12), .ref (b + 13), .int 0, .int 0, .int 0]) := m_sm ef1 h10
  refine m_goq (m_runV calV_X5_findNoStet wd_881 (a_X5_findNoStet_1 l D kc b f1 a1 h10_1) C hM (by decide) h10_1 rfl hl.1 rfl rfl (Nat.le_of_ble_eq_true rfl) dX11_meet_14 ⟨Nat.le_of_ble_eq_true rfl, Nat.le_of_ble_eq_true rfl⟩ ⟨Nat.le_of_ble_eq_true rfl, Nat.le_of_ble_eq_true rfl⟩) hM (fun r3 n4 f2 H locs hp hM => ?_)
  have hp : r3 = none ∧ n4 = 220 ∧ f2 = f1 := hp
  obtain ⟨rfl, rfl, ef2⟩ := hp
  refine m_vv (y := .null) rfl ?_
  refine lv_astoreN (lv' := [(4, .null), (3, .null), (0, .ref (b + 0)), (1, .int a0), (2, .int a1)]) hx hb dX11_meet_17 hl (by decide) rfl (fun ls hl => ?_)
  refine lv_aload_nN hx hb dX11_meet_19 rfl (lv_at hl 1 rfl) ?_
  refine lv_ifnullN (tgt := 33) hx hb dX11_meet_20 (by decide) ?_
  refine lv_bipush (v := (-2)) hx hb dX11_meet_33 (by decide) ?_
  have fr_1 : ∀ j, 192 ≤ j → f1 j = f j := fun j hj => m_sm ef1 (rfl)
  have fr_2 : ∀ j, 192 ≤ j → f2 j = f j := fun j hj => m_sm ef2 (fr_1 j hj)
  exact m_iret C hr hlk hM (⟨rfl, rfl, fr_2⟩) dX11_meet_35
set_option maxHeartbeats 4000000 in
set_option maxRecDepth 100000 in
theorem k_x_within (l : Launch) (D : va_G) (kc : Nat → ClassId) (b : Nat) (f : Nat → va_E) (a0 : Int32) (a1 : Int32) (h0 : f 0 = .inr (11, [.ref (b + 1), .ref (b + 3), .ref (b + 4), .ref (b + 6), .ref (b + 8), .ref (b + 10), .ref (b + 174), .ref (b + 177), .ref (b + 178), .ref (b + 181), .ref (b + 183), .ref (b + 190)])) (h10 : f 10 = .inr (5, [.ref (b + 11), .ref (b + 12), .ref (b + 13), .int 0, .int 0, .int 0])) : mMi l yX11_within cX11_within 5 .int 4 0 0 D kc b 220 f [.ref (b + 0), .int a0, .int a1] (fun r u => r = (-2) ∧ u.1 = 220 ∧ ∀ j, 192 ≤ j → u.2 j = f j) := by
  refine m_start (by decide) (Nat.le_of_ble_eq_true rfl) ?_
  intro p e s m below meth c C hr hlk hnm hM ls hl
  obtain ⟨hx, hb, hml, hown, hts, hE, hbs⟩ := id C
  have hl : lv_has ls 5 [(0, .ref (b + 0)), (1, .int a0), (2, .int a1)] := hl
  refine lv_aload_n hx hb dX11_within_0 rfl (lv_at hl 0 rfl) ?_
  refine m_get fl_X11_41_X11 C hM (i := 0) (by decide) h0 (v := .ref (b + 10)) rfl dX11_within_1 ?_
  refine lv_iload_n hx hb dX11_within_4 rfl (lv_at hl 1 rfl) ?_
  refine m_goq (m_runV calV_X5_findNoStet wd_881 (a_X5_findNoStet_0 l D kc b f a0 h10) C hM (by decide) h10 rfl hl.1 rfl rfl (Nat.le_of_ble_eq_true rfl) dX11_within_5 ⟨Nat.le_of_ble_eq_true rfl, Nat.le_of_ble_eq_true rfl⟩ ⟨Nat.le_of_ble_eq_true rfl, Nat.le_of_ble_eq_true rfl⟩) hM (fun r1 n2 f1 H locs hp hM => ?_)
  have hp : r1 = none ∧ n2 = 220 ∧ f1 = f := hp
  obtain ⟨rfl, rfl, ef1⟩ := hp
  refine m_vv (y := .null) rfl ?_
  refine lv_astore_nN (lv' := [(3, .null), (0, .ref (b + 0)), (1, .int a0), (2, .int a1)]) hx hb dX11_within_8 rfl hl (by decide) rfl (fun ls hl => ?_)
  refine lv_aload_n hx hb dX11_within_9 rfl (lv_at hl 1 rfl) ?_
  have h0_1 : f1 0 = .inr (11, [.ref (b + 1), .ref (b + 3), .ref (b + 4), .ref (b + 6), .ref (b + 8), .ref (b + 10), .ref (b + 174), .ref (b + 177), .ref (b + 178), .ref (b + 181), .ref (b + 183), .ref (b + 190)]) := m_sm ef1 h0
  refine m_get fl_X11_41_X11 C hM (i := 0) (by decide) h0_1 (v := .ref (b + 10)) rfl dX11_within_10 ?_
  refine lv_iload_n hx hb dX11_within_13 rfl (lv_at hl 3 rfl) ?_
  have h10_1 : f1 10 = .inr (5, [.ref (b + 11), .ref (b + 12), .ref (b + 13), .int 0, .int 0, .int 0]) := m_sm ef1 h10
  refine m_goq (m_runV calV_X5_findNoStet wd_881 (a_X5_findNoStet_1 l D kc b f1 a1 h10_1) C hM (by decide) h10_1 rfl hl.1 rfl rfl (Nat.le_of_ble_eq_true rfl) dX11_within_14 ⟨Nat.le_of_ble_eq_true rfl, Nat.le_of_ble_eq_true rfl⟩ ⟨Nat.le_of_ble_eq_true rfl, Nat.le_of_ble_eq_true rfl⟩) hM (fun r3 n4 f2 H locs hp hM => ?_)
  have hp : r3 = none ∧ n4 = 220 ∧ f2 = f1 := hp
  obtain ⟨rfl, rfl, ef2⟩ := hp
  refine m_vv (y := .null) rfl ?_
  refine lv_astoreN (lv' := [(4, .null), (3, .null), (0, .ref (b + 0)), (1, .int a0), (2, .int a1)]) hx hb dX11_within_17 hl (by decide) rfl (fun ls hl => ?_)
  refine lv_aload_nN hx hb dX11_within_19 rfl (lv_at hl 1 rfl) ?_
  refine lv_ifnullN (tgt := 33) hx hb dX11_within_20 (by decide) ?_
  refine lv_bipush (v := (-2)) hx hb dX11_within_33 (by decide) ?_
  have fr_1 : ∀ j, 192 ≤ j → f1 j = f j := fun j hj => m_sm ef1 (rfl)
  have fr_2 : ∀ j, 192 ≤ j → f2 j = f j := fun j hj => m_sm ef2 (fr_1 j hj)
  exact m_iret C hr hlk hM (⟨rfl, rfl, fr_2⟩) dX11_within_35
set_option maxHeartbeats 4000000 in
set_option maxRecDepth 100000 in
theorem k_x_costs (l : Launch) (D : va_G) (kc : Nat → ClassId) (b : Nat) (f : Nat → va_E) (a0 : Int32) (a1 : Int32) (h0 : f 0 = .inr (11, [.ref (b + 1), .ref (b + 3), .ref (b + 4), .ref (b + 6), .ref (b + 8), .ref (b + 10), .ref (b + 174), .ref (b + 177), .ref (b + 178), .ref (b + 181), .ref (b + 183), .ref (b + 190)])) (h183 : f 183 = .inr (2, [.ref (b + 184), .ref (b + 186), .ref (b + 187), .ref (b + 188), .ref (b + 189), .int 2, .int 3, .int 0, .int 0, .int 0, .int 0, .int 0])) : mMi l yX11_costs cX11_costs 3 .int 1 0 0 D kc b 220 f [.ref (b + 0), .int a0, .int a1] (fun r u => r = p_costs a0 a1 ∧ u.1 = 220 ∧ ∀ j, 192 ≤ j → u.2 j = f j) := by
  refine m_start (by decide) (Nat.le_of_ble_eq_true rfl) ?_
  intro p e s m below meth c C hr hlk hnm hM ls hl
  obtain ⟨hx, hb, hml, hown, hts, hE, hbs⟩ := id C
  have hl : lv_has ls 3 [(0, .ref (b + 0)), (1, .int a0), (2, .int a1)] := hl
  refine lv_iload_n hx hb dX11_costs_0 rfl (lv_at hl 1 rfl) ?_
  refine lv_iconst (v := 1) hx hb dX11_costs_1 (by decide) ?_
  refine lv_icmp_lt (tgt := 22) hx hb dX11_costs_2 (by decide) (fun c1 => ?_) (fun c1 => ?_)
  · refine lv_bipush (v := (-2)) hx hb dX11_costs_22 (by decide) ?_
    exact m_iret C hr hlk hM (⟨by unfold p_costs; rw [if_neg (by revert c1; simp only [Int32.lt_iff_toInt_lt, Int32.le_iff_toInt_le, m_lits]; omega)], rfl, fun _ _ => rfl⟩) dX11_costs_24
  · refine lv_iload_n hx hb dX11_costs_5 rfl (lv_at hl 1 rfl) ?_
    refine lv_bipush (v := 9) hx hb dX11_costs_6 (by decide) ?_
    refine lv_icmp_gt (tgt := 22) hx hb dX11_costs_8 (by decide) (fun c2 => ?_) (fun c2 => ?_)
    · refine lv_bipush (v := (-2)) hx hb dX11_costs_22 (by decide) ?_
      exact m_iret C hr hlk hM (⟨by unfold p_costs; rw [if_neg (by revert c1 c2; simp only [Int32.lt_iff_toInt_lt, Int32.le_iff_toInt_le, m_lits]; omega)], rfl, fun _ _ => rfl⟩) dX11_costs_24
    · refine lv_iload_n hx hb dX11_costs_11 rfl (lv_at hl 2 rfl) ?_
      refine lv_iconst (v := 1) hx hb dX11_costs_12 (by decide) ?_
      refine lv_icmp_lt (tgt := 22) hx hb dX11_costs_13 (by decide) (fun c3 => ?_) (fun c3 => ?_)
      · refine lv_bipush (v := (-2)) hx hb dX11_costs_22 (by decide) ?_
        exact m_iret C hr hlk hM (⟨by unfold p_costs; rw [if_neg (by revert c1 c2 c3; simp only [Int32.lt_iff_toInt_lt, Int32.le_iff_toInt_le, m_lits]; omega)], rfl, fun _ _ => rfl⟩) dX11_costs_24
      · refine lv_iload_n hx hb dX11_costs_16 rfl (lv_at hl 2 rfl) ?_
        refine lv_bipush (v := 9) hx hb dX11_costs_17 (by decide) ?_
        refine lv_icmp_le (tgt := 25) hx hb dX11_costs_19 (by decide) (fun c4 => ?_) (fun c4 => ?_)
        · refine lv_aload_n hx hb dX11_costs_25 rfl (lv_at hl 0 rfl) ?_
          refine m_get fl_X11_76_X11 C hM (i := 0) (by decide) h0 (v := .ref (b + 183)) rfl dX11_costs_26 ?_
          refine lv_iload_n hx hb dX11_costs_29 rfl (lv_at hl 1 rfl) ?_
          refine m_putN fl_X11_174_X2 C hM (i := 183) (by decide) h183 rfl rfl (Nat.le_of_ble_eq_true rfl) (fs1 := [.ref (b + 184), .ref (b + 186), .ref (b + 187), .ref (b + 188), .ref (b + 189), .int a0, .int 3, .int 0, .int 0, .int 0, .int 0, .int 0]) rfl dX11_costs_30 (fun H locs f1 ef1 hM => ?_)
          refine lv_aload_n hx hb dX11_costs_33 rfl (lv_at hl 0 rfl) ?_
          have h0_1 : f1 0 = .inr (11, [.ref (b + 1), .ref (b + 3), .ref (b + 4), .ref (b + 6), .ref (b + 8), .ref (b + 10), .ref (b + 174), .ref (b + 177), .ref (b + 178), .ref (b + 181), .ref (b + 183), .ref (b + 190)]) := m_ne ef1 h0 (by decide)
          refine m_get fl_X11_76_X11 C hM (i := 0) (by decide) h0_1 (v := .ref (b + 183)) rfl dX11_costs_34 ?_
          refine lv_iload_n hx hb dX11_costs_37 rfl (lv_at hl 2 rfl) ?_
          have h183_1 : f1 183 = .inr (2, [.ref (b + 184), .ref (b + 186), .ref (b + 187), .ref (b + 188), .ref (b + 189), .int a0, .int 3, .int 0, .int 0, .int 0, .int 0, .int 0]) := m_eq ef1
          refine m_putN fl_X11_177_X2 C hM (i := 183) (by decide) h183_1 rfl rfl (Nat.le_of_ble_eq_true rfl) (fs1 := [.ref (b + 184), .ref (b + 186), .ref (b + 187), .ref (b + 188), .ref (b + 189), .int a0, .int a1, .int 0, .int 0, .int 0, .int 0, .int 0]) rfl dX11_costs_38 (fun H locs f2 ef2 hM => ?_)
          refine lv_iconst (v := 1) hx hb dX11_costs_41 (by decide) ?_
          have fr_1 : ∀ j, 192 ≤ j → f1 j = f j := fun j hj => m_ne ef1 (rfl) (by omega)
          have fr_2 : ∀ j, 192 ≤ j → f2 j = f j := fun j hj => m_ne ef2 (fr_1 j hj) (by omega)
          exact m_iret C hr hlk hM (⟨by unfold p_costs; rw [if_pos (by revert c1 c2 c3 c4; simp only [Int32.lt_iff_toInt_lt, Int32.le_iff_toInt_le, m_lits]; omega)], rfl, fr_2⟩) dX11_costs_42
        · refine lv_bipush (v := (-2)) hx hb dX11_costs_22 (by decide) ?_
          exact m_iret C hr hlk hM (⟨by unfold p_costs; rw [if_neg (by revert c1 c2 c3 c4; simp only [Int32.lt_iff_toInt_lt, Int32.le_iff_toInt_le, m_lits]; omega)], rfl, fun _ _ => rfl⟩) dX11_costs_24
set_option maxHeartbeats 4000000 in
set_option maxRecDepth 100000 in
theorem a_J6_bitCount_0f7a4_0 (l : Launch) (D : va_G) (kc : Nat → ClassId) (b : Nat) (f : Nat → va_E) : mMi l yJ6_bitCount_0f7a4 cJ6_bitCount_0f7a4 1 .int 1 0 0 D kc b 220 f [.int 0] (fun r u => r = 0 ∧ u.1 = 220 ∧ u.2 = f) := by
  refine m_start (by decide) (Nat.le_of_ble_eq_true rfl) ?_
  intro p e s m below meth c C hr hlk hnm hM ls hl
  obtain ⟨hx, hb, hml, hown, hts, hE, hbs⟩ := id C
  have hl : lv_has ls 1 [(0, .int 0)] := hl
  refine lv_iload_n hx hb dJ6_bitCount_0f7a4_0 rfl (lv_at hl 0 rfl) ?_
  refine lv_iload_n hx hb dJ6_bitCount_0f7a4_1 rfl (lv_at hl 0 rfl) ?_
  refine lv_iconst (v := 1) hx hb dJ6_bitCount_0f7a4_2 (by decide) ?_
  refine lv_iushr (v := 0) hx hb dJ6_bitCount_0f7a4_3 (by decide) ?_
  refine lv_ldcw (v := 1431655765) hx hb hown (hts _ wd_908) dJ6_bitCount_0f7a4_4 ?_
  refine lv_iand hx hb dJ6_bitCount_0f7a4_7 ?_
  refine m_vi (y := 0) (by decide) ?_
  refine lv_isub hx hb dJ6_bitCount_0f7a4_8 ?_
  refine m_vi (y := 0) (by decide) ?_
  refine lv_istore_n (lv' := [(0, .int 0)]) hx hb dJ6_bitCount_0f7a4_9 rfl hl (by decide) rfl (fun ls hl => ?_)
  refine lv_iload_n hx hb dJ6_bitCount_0f7a4_10 rfl (lv_at hl 0 rfl) ?_
  refine lv_ldcw (v := 858993459) hx hb hown (hts _ wd_909) dJ6_bitCount_0f7a4_11 ?_
  refine lv_iand hx hb dJ6_bitCount_0f7a4_14 ?_
  refine m_vi (y := 0) (by decide) ?_
  refine lv_iload_n hx hb dJ6_bitCount_0f7a4_15 rfl (lv_at hl 0 rfl) ?_
  refine lv_iconst (v := 2) hx hb dJ6_bitCount_0f7a4_16 (by decide) ?_
  refine lv_iushr (v := 0) hx hb dJ6_bitCount_0f7a4_17 (by decide) ?_
  refine lv_ldcw (v := 858993459) hx hb hown (hts _ wd_909) dJ6_bitCount_0f7a4_18 ?_
  refine lv_iand hx hb dJ6_bitCount_0f7a4_21 ?_
  refine m_vi (y := 0) (by decide) ?_
  refine lv_iadd hx hb dJ6_bitCount_0f7a4_22 ?_
  refine m_vi (y := 0) (by decide) ?_
  refine lv_istore_n (lv' := [(0, .int 0)]) hx hb dJ6_bitCount_0f7a4_23 rfl hl (by decide) rfl (fun ls hl => ?_)
  refine lv_iload_n hx hb dJ6_bitCount_0f7a4_24 rfl (lv_at hl 0 rfl) ?_
  refine lv_iload_n hx hb dJ6_bitCount_0f7a4_25 rfl (lv_at hl 0 rfl) ?_
  refine lv_iconst (v := 4) hx hb dJ6_bitCount_0f7a4_26 (by decide) ?_
  refine lv_iushr (v := 0) hx hb dJ6_bitCount_0f7a4_27 (by decide) ?_
  refine lv_iadd hx hb dJ6_bitCount_0f7a4_28 ?_
  refine m_vi (y := 0) (by decide) ?_
  refine lv_ldcw (v := 252645135) hx hb hown (hts _ wd_910) dJ6_bitCount_0f7a4_29 ?_
  refine lv_iand hx hb dJ6_bitCount_0f7a4_32 ?_
  refine m_vi (y := 0) (by decide) ?_
  refine lv_istore_n (lv' := [(0, .int 0)]) hx hb dJ6_bitCount_0f7a4_33 rfl hl (by decide) rfl (fun ls hl => ?_)
  refine lv_iload_n hx hb dJ6_bitCount_0f7a4_34 rfl (lv_at hl 0 rfl) ?_
  refine lv_iload_n hx hb dJ6_bitCount_0f7a4_35 rfl (lv_at hl 0 rfl) ?_
  refine lv_bipush (v := 8) hx hb dJ6_bitCount_0f7a4_36 (by decide) ?_
  refine lv_iushr (v := 0) hx hb dJ6_bitCount_0f7a4_38 (by decide) ?_
  refine lv_iadd hx hb dJ6_bitCount_0f7a4_39 ?_
  refine m_vi (y := 0) (by decide) ?_
  refine lv_istore_n (lv' := [(0, .int 0)]) hx hb dJ6_bitCount_0f7a4_40 rfl hl (by decide) rfl (fun ls hl => ?_)
  refine lv_iload_n hx hb dJ6_bitCount_0f7a4_41 rfl (lv_at hl 0 rfl) ?_
  refine lv_iload_n hx hb dJ6_bitCount_0f7a4_42 rfl (lv_at hl 0 rfl) ?_
  refine lv_bipush (v := 16) hx hb dJ6_bitCount_0f7a4_43 (by decide) ?_
  refine lv_iushr (v := 0) hx hb dJ6_bitCount_0f7a4_45 (by decide) ?_
  refine lv_iadd hx hb dJ6_bitCount_0f7a4_46 ?_
  refine m_vi (y := 0) (by decide) ?_
  refine lv_istore_n (lv' := [(0, .int 0)]) hx hb dJ6_bitCount_0f7a4_47 rfl hl (by decide) rfl (fun ls hl => ?_)
  refine lv_iload_n hx hb dJ6_bitCount_0f7a4_48 rfl (lv_at hl 0 rfl) ?_
  refine lv_bipush (v := 63) hx hb dJ6_bitCount_0f7a4_49 (by decide) ?_
  refine lv_iand hx hb dJ6_bitCount_0f7a4_51 ?_
  refine m_vi (y := 0) (by decide) ?_
  exact m_iret C hr hlk hM (⟨rfl, rfl, rfl⟩) dJ6_bitCount_0f7a4_52
set_option maxHeartbeats 4000000 in
set_option maxRecDepth 100000 in
theorem a_X2_distanceFor_0 (l : Launch) (D : va_G) (kc : Nat → ClassId) (b : Nat) (f : Nat → va_E) (h183 : f 183 = .inr (2, [.ref (b + 184), .ref (b + 186), .ref (b + 187), .ref (b + 188), .ref (b + 189), .int 2, .int 3, .int 0, .int 0, .int 0, .int 0, .int 0])) : mMi l yX2_distanceFor cX2_distanceFor 2 .int 1 0 0 D kc b 220 f [.ref (b + 183), .int 100000] (fun r u => r = 300 ∧ u.1 = 220 ∧ u.2 = f) := by
  refine m_start (by decide) (Nat.le_of_ble_eq_true rfl) ?_
  intro p e s m below meth c C hr hlk hnm hM ls hl
  obtain ⟨hx, hb, hml, hown, hts, hE, hbs⟩ := id C
  have hl : lv_has ls 2 [(0, .ref (b + 183)), (1, .int 100000)] := hl
  refine lv_iload_n hx hb dX2_distanceFor_0 rfl (lv_at hl 1 rfl) ?_
  refine lv_if_lt (tgt := 12) hx hb dX2_distanceFor_1 (by decide) (fun h => absurd h (by decide)) (fun _ => ?_)
  refine lv_aload_n hx hb dX2_distanceFor_4 rfl (lv_at hl 0 rfl) ?_
  refine m_get fl_X2_33_X2 C hM (i := 183) (by decide) h183 (v := .int 2) rfl dX2_distanceFor_5 ?_
  refine lv_iconst (v := 1) hx hb dX2_distanceFor_8 (by decide) ?_
  refine lv_icmp_ge (tgt := 14) hx hb dX2_distanceFor_9 (by decide) (fun _ => ?_) (fun h => absurd (by decide) h)
  refine lv_sipush (v := 300) hx hb dX2_distanceFor_14 (by decide) ?_
  refine lv_iload_n hx hb dX2_distanceFor_17 rfl (lv_at hl 1 rfl) ?_
  refine lv_aload_n hx hb dX2_distanceFor_18 rfl (lv_at hl 0 rfl) ?_
  refine m_get fl_X2_33_X2 C hM (i := 183) (by decide) h183 (v := .int 2) rfl dX2_distanceFor_19 ?_
  refine lv_idiv hx hb dX2_distanceFor_22 (by decide) ?_
  refine m_vi (y := 50000) (by decide) ?_
  refine va_mmin hx hb (hml.trans hl.1.symm) hown (hts _ wd_904) (hts _ wd_522) (hts _ wd_91) (hts _ wd_523) (Nat.le_of_ble_eq_true rfl) (Nat.le_of_ble_eq_true rfl) (Nat.le_of_ble_eq_true rfl) (Nat.le_of_ble_eq_true rfl) dX2_distanceFor_23 ?_
  refine m_vi (y := 300) (by decide) ?_
  exact m_iret C hr hlk hM (⟨rfl, rfl, rfl⟩) dX2_distanceFor_26
set_option maxHeartbeats 4000000 in
set_option maxRecDepth 100000 in
theorem a_X8_clear_4 (l : Launch) (D : va_G) (kc : Nat → ClassId) (b : Nat) (f : Nat → va_E) (h184 : f 184 = .inr (8, [.ref (b + 185), .int 0])) : mMv l yX8_clear cX8_clear 1 1 0 0 D kc b 220 f [.ref (b + 184)] (fun u => u.1 = 220 ∧ u.2 = va_up f 184 (.inr (8, [.ref (b + 185), .int 0]))) := by
  refine m_start (by decide) (Nat.le_of_ble_eq_true rfl) ?_
  intro p e s m below meth c C hr hlk hnm hM ls hl
  obtain ⟨hx, hb, hml, hown, hts, hE, hbs⟩ := id C
  have hl : lv_has ls 1 [(0, .ref (b + 184))] := hl
  refine lv_aload_n hx hb dX8_clear_0 rfl (lv_at hl 0 rfl) ?_
  refine lv_iconst (v := 0) hx hb dX8_clear_1 (by decide) ?_
  refine m_put fl_X8_13_X8 C hM (i := 184) (by decide) h184 rfl rfl (Nat.le_of_ble_eq_true rfl) (fs1 := [.ref (b + 185), .int 0]) rfl dX8_clear_2 (fun H locs f1 ef1 hM => ?_)
  exact m_vret C hr hlk hM (⟨rfl, by rw [ef1]⟩) dX8_clear_5
set_option maxHeartbeats 4000000 in
set_option maxRecDepth 100000 in
theorem a_X7_setGap_1 (l : Launch) (D : va_G) (kc : Nat → ClassId) (b : Nat) (f : Nat → va_E) (h178 : f 178 = .inr (7, [.ref (b + 179), .ref (b + 180), .int 0, .ref (b + 4), .ref (b + 184)])) : mMv l yX7_setGap cX7_setGap 5 1 0 0 D kc b 220 f [.ref (b + 178), .int 0, .int 0] (fun u => u.1 = 220 ∧ u.2 = f) := by
  refine m_start (by decide) (Nat.le_of_ble_eq_true rfl) ?_
  intro p e s m below meth c C hr hlk hnm hM ls hl
  obtain ⟨hx, hb, hml, hown, hts, hE, hbs⟩ := id C
  have hl : lv_has ls 5 [(0, .ref (b + 178)), (1, .int 0), (2, .int 0)] := hl
  refine lv_iconst (v := 0) hx hb dX7_setGap_0 (by decide) ?_
  refine lv_istore_n (lv' := [(3, .int 0), (0, .ref (b + 178)), (1, .int 0), (2, .int 0)]) hx hb dX7_setGap_1 rfl hl (by decide) rfl (fun ls hl => ?_)
  refine lv_iload_n hx hb dX7_setGap_2 rfl (lv_at hl 0 rfl) ?_
  refine lv_aload_n hx hb dX7_setGap_3 rfl (lv_at hl 1 rfl) ?_
  refine m_get fl_X7_21_X7 C hM (i := 178) (by decide) h178 (v := .int 0) rfl dX7_setGap_4 ?_
  refine lv_icmp_ge (tgt := 101) hx hb dX7_setGap_7 (by decide) (fun _ => ?_) (fun h => absurd (by decide) h)
  exact m_vret C hr hlk hM (⟨rfl, rfl⟩) dX7_setGap_101
set_option maxHeartbeats 4000000 in
set_option maxRecDepth 100000 in
theorem a_X7_make_1 (l : Launch) (D : va_G) (kc : Nat → ClassId) (b : Nat) (f : Nat → va_E) (h178 : f 178 = .inr (7, [.ref (b + 179), .ref (b + 180), .int 0, .null, .null])) (h184 : f 184 = .inr (8, [.ref (b + 185), .int 0])) (h4 : f 4 = .inr (8, [.ref (b + 5), .int 0])) : mMv l yX7_make cX7_make 4 2 0 0 D kc b 220 f [.ref (b + 178), .ref (b + 4), .ref (b + 184)] (fun u => u.1 = 220 ∧ u.2 = va_up (va_up (va_up f 178 (.inr (7, [.ref (b + 179), .ref (b + 180), .int 0, .ref (b + 4), .null]))) 178 (.inr (7, [.ref (b + 179), .ref (b + 180), .int 0, .ref (b + 4), .ref (b + 184)]))) 184 (.inr (8, [.ref (b + 185), .int 0]))) := by
  refine m_start (by decide) (Nat.le_of_ble_eq_true rfl) ?_
  intro p e s m below meth c C hr hlk hnm hM ls hl
  obtain ⟨hx, hb, hml, hown, hts, hE, hbs⟩ := id C
  have hl : lv_has ls 4 [(0, .ref (b + 178)), (1, .ref (b + 4)), (2, .ref (b + 184))] := hl
  refine lv_aload_n hx hb dX7_make_0 rfl (lv_at hl 0 rfl) ?_
  refine lv_aload_n hx hb dX7_make_1 rfl (lv_at hl 1 rfl) ?_
  refine m_put fl_X7_38_X7 C hM (i := 178) (by decide) h178 rfl rfl (Nat.le_of_ble_eq_true rfl) (fs1 := [.ref (b + 179), .ref (b + 180), .int 0, .ref (b + 4), .null]) rfl dX7_make_2 (fun H locs f1 ef1 hM => ?_)
  refine lv_aload_n hx hb dX7_make_5 rfl (lv_at hl 0 rfl) ?_
  refine lv_aload_n hx hb dX7_make_6 rfl (lv_at hl 2 rfl) ?_
  have h178_1 : f1 178 = .inr (7, [.ref (b + 179), .ref (b + 180), .int 0, .ref (b + 4), .null]) := m_eq ef1
  refine m_put fl_X7_42_X7 C hM (i := 178) (by decide) h178_1 rfl rfl (Nat.le_of_ble_eq_true rfl) (fs1 := [.ref (b + 179), .ref (b + 180), .int 0, .ref (b + 4), .ref (b + 184)]) rfl dX7_make_7 (fun H locs f2 ef2 hM => ?_)
  refine lv_aload_n hx hb dX7_make_10 rfl (lv_at hl 0 rfl) ?_
  have h178_2 : f2 178 = .inr (7, [.ref (b + 179), .ref (b + 180), .int 0, .ref (b + 4), .ref (b + 184)]) := m_eq ef2
  refine m_get fl_X7_42_X7 C hM (i := 178) (by decide) h178_2 (v := .ref (b + 184)) rfl dX7_make_11 ?_
  have h184_1 : f1 184 = .inr (8, [.ref (b + 185), .int 0]) := m_ne ef1 h184 (by decide)
  have h184_2 : f2 184 = .inr (8, [.ref (b + 185), .int 0]) := m_ne ef2 h184_1 (by decide)
  refine m_gov (m_runV calV_X8_clear wd_663 (a_X8_clear_4 l D kc b f2 h184_2) C hM (by decide) h184_2 rfl hl.1 rfl rfl (Nat.le_of_ble_eq_true rfl) dX7_make_14 ⟨Nat.le_of_ble_eq_true rfl, Nat.le_of_ble_eq_true rfl⟩ ⟨Nat.le_of_ble_eq_true rfl, Nat.le_of_ble_eq_true rfl⟩) hM (fun n2 f3 H locs hp hM => ?_)
  have hp : n2 = 220 ∧ f3 = va_up f2 184 (.inr (8, [.ref (b + 185), .int 0])) := hp
  obtain ⟨rfl, ef3⟩ := hp
  refine lv_aload_n hx hb dX7_make_17 rfl (lv_at hl 0 rfl) ?_
  have h178_3 : f3 178 = .inr (7, [.ref (b + 179), .ref (b + 180), .int 0, .ref (b + 4), .ref (b + 184)]) := m_ne ef3 h178_2 (by decide)
  refine m_get fl_X7_38_X7 C hM (i := 178) (by decide) h178_3 (v := .ref (b + 4)) rfl dX7_make_18 ?_
  have h4_1 : f1 4 = .inr (8, [.ref (b + 5), .int 0]) := m_ne ef1 h4 (by decide)
  have h4_2 : f2 4 = .inr (8, [.ref (b + 5), .int 0]) := m_ne ef2 h4_1 (by decide)
  have h4_3 : f3 4 = .inr (8, [.ref (b + 5), .int 0]) := m_ne ef3 h4_2 (by decide)
  refine m_getN fl_X7_50_X8 C hM (i := 4) (by decide) h4_3 (v := .int 0) rfl dX7_make_21 ?_
  refine lv_istore_n (lv' := [(3, .int 0), (0, .ref (b + 178)), (1, .ref (b + 4)), (2, .ref (b + 184))]) hx hb dX7_make_24 rfl hl (by decide) rfl (fun ls hl => ?_)
  refine lv_iload_n hx hb dX7_make_25 rfl (lv_at hl 0 rfl) ?_
  refine lv_if_le (tgt := 44) hx hb dX7_make_26 (by decide) (fun _ => ?_) (fun h => absurd (by decide) h)
  refine lv_aload_n hx hb dX7_make_44 rfl (lv_at hl 1 rfl) ?_
  refine lv_iload_n hx hb dX7_make_45 rfl (lv_at hl 0 rfl) ?_
  refine lv_iconst (v := 0) hx hb dX7_make_46 (by decide) ?_
  refine m_gov (m_runV calV_X7_setGap wd_664 (a_X7_setGap_1 l D kc b f3 h178_3) C hM (by decide) h178_3 rfl hl.1 rfl rfl (Nat.le_of_ble_eq_true rfl) dX7_make_47 ⟨Nat.le_of_ble_eq_true rfl, Nat.le_of_ble_eq_true rfl⟩ ⟨Nat.le_of_ble_eq_true rfl, Nat.le_of_ble_eq_true rfl⟩) hM (fun n4 f4 H locs hp hM => ?_)
  have hp : n4 = 220 ∧ f4 = f3 := hp
  obtain ⟨rfl, ef4⟩ := hp
  exact m_vret C hr hlk hM (⟨rfl, by rw [ef4, ef3, ef2, ef1]⟩) dX7_make_50
set_option maxHeartbeats 4000000 in
set_option maxRecDepth 100000 in
theorem a_X6_measure_0 (l : Launch) (D : va_G) (kc : Nat → ClassId) (b : Nat) (f : Nat → va_E) (h184 : f 184 = .inr (8, [.ref (b + 185), .int 0])) (h6 : f 6 = .inr (8, [.ref (b + 7), .int 0])) (h181 : f 181 = .inr (6, [.ref (b + 182)])) (h182 : f 182 = .inl (kc 1, 301, .inl (fun _ => 0))) : mMi l yX6_measure cX6_measure 10 .int 1 0 0 D kc b 220 f [.ref (b + 181), .ref (b + 184), .int 0, .ref (b + 6), .int 0, .int 300] (fun r u => r = 0 ∧ u.1 = 220 ∧ u.2 = va_up f 182 (.inl (kc 1, 301, .inl (upd (fun _ => 0) 0 0)))) := by
  refine m_start (by decide) (Nat.le_of_ble_eq_true rfl) ?_
  intro p e s m below meth c C hr hlk hnm hM ls hl
  obtain ⟨hx, hb, hml, hown, hts, hE, hbs⟩ := id C
  have hl : lv_has ls 10 [(0, .ref (b + 181)), (1, .ref (b + 184)), (2, .int 0), (3, .ref (b + 6)), (4, .int 0), (5, .int 300)] := hl
  refine lv_iconst (v := 0) hx hb dX6_measure_0 (by decide) ?_
  refine lv_aload_n hx hb dX6_measure_1 rfl (lv_at hl 1 rfl) ?_
  refine m_getN fl_X6_15_X8 C hM (i := 184) (by decide) h184 (v := .int 0) rfl dX6_measure_2 ?_
  refine lv_iload_n hx hb dX6_measure_5 rfl (lv_at hl 2 rfl) ?_
  refine lv_isub hx hb dX6_measure_6 ?_
  refine m_vi (y := 0) (by decide) ?_
  refine va_mmax hx hb (hml.trans hl.1.symm) hown (hts _ wd_921) (hts _ wd_519) (hts _ wd_91) (hts _ wd_520) (Nat.le_of_ble_eq_true rfl) (Nat.le_of_ble_eq_true rfl) (Nat.le_of_ble_eq_true rfl) (Nat.le_of_ble_eq_true rfl) dX6_measure_7 ?_
  refine m_vi (y := 0) (by decide) ?_
  refine lv_istore (lv' := [(6, .int 0), (0, .ref (b + 181)), (1, .ref (b + 184)), (2, .int 0), (3, .ref (b + 6)), (4, .int 0), (5, .int 300)]) hx hb dX6_measure_10 hl (by decide) rfl (fun ls hl => ?_)
  refine lv_iconst (v := 0) hx hb dX6_measure_12 (by decide) ?_
  refine lv_aload_n hx hb dX6_measure_13 rfl (lv_at hl 4 rfl) ?_
  refine m_getN fl_X6_15_X8 C hM (i := 6) (by decide) h6 (v := .int 0) rfl dX6_measure_14 ?_
  refine lv_iload hx hb dX6_measure_17 (lv_at hl 5 rfl) ?_
  refine lv_isub hx hb dX6_measure_19 ?_
  refine m_vi (y := 0) (by decide) ?_
  refine va_mmax hx hb (hml.trans hl.1.symm) hown (hts _ wd_921) (hts _ wd_519) (hts _ wd_91) (hts _ wd_520) (Nat.le_of_ble_eq_true rfl) (Nat.le_of_ble_eq_true rfl) (Nat.le_of_ble_eq_true rfl) (Nat.le_of_ble_eq_true rfl) dX6_measure_20 ?_
  refine m_vi (y := 0) (by decide) ?_
  refine lv_istore (lv' := [(7, .int 0), (6, .int 0), (0, .ref (b + 181)), (1, .ref (b + 184)), (2, .int 0), (3, .ref (b + 6)), (4, .int 0), (5, .int 300)]) hx hb dX6_measure_23 hl (by decide) rfl (fun ls hl => ?_)
  refine lv_iload hx hb dX6_measure_25 (lv_at hl 7 rfl) ?_
  refine lv_iconst (v := 1) hx hb dX6_measure_27 (by decide) ?_
  refine lv_iadd hx hb dX6_measure_28 ?_
  refine m_vi (y := 301) (by decide) ?_
  refine lv_istore (lv' := [(8, .int 301), (7, .int 0), (6, .int 0), (0, .ref (b + 181)), (1, .ref (b + 184)), (2, .int 0), (3, .ref (b + 6)), (4, .int 0), (5, .int 300)]) hx hb dX6_measure_29 hl (by decide) rfl (fun ls hl => ?_)
  refine lv_iload hx hb dX6_measure_31 (lv_at hl 2 rfl) ?_
  refine lv_iload hx hb dX6_measure_33 (lv_at hl 1 rfl) ?_
  refine lv_isub hx hb dX6_measure_35 ?_
  refine m_vi (y := 0) (by decide) ?_
  refine va_mabs hx hb (hml.trans hl.1.symm) hown (hts _ wd_922) (hts _ wd_923) (hts _ wd_91) (hts _ wd_924) (Nat.le_of_ble_eq_true rfl) (Nat.le_of_ble_eq_true rfl) (Nat.le_of_ble_eq_true rfl) (Nat.le_of_ble_eq_true rfl) dX6_measure_36 ?_
  refine m_vi (y := 0) (by decide) ?_
  refine lv_iload hx hb dX6_measure_39 (lv_at hl 8 rfl) ?_
  refine lv_icmp_gt (tgt := 54) hx hb dX6_measure_41 (by decide) (fun h => absurd h (by decide)) (fun _ => ?_)
  refine lv_iload hx hb dX6_measure_44 (lv_at hl 1 rfl) ?_
  refine lv_aload_n hx hb dX6_measure_46 rfl (lv_at hl 3 rfl) ?_
  refine m_get fl_X6_9_X6 C hM (i := 181) (by decide) h181 (v := .ref (b + 182)) rfl dX6_measure_47 ?_
  refine m_alen C hM (j := 182) (by decide) 1 h182 rfl (v := 301) rfl dX6_measure_50 ?_
  refine lv_icmp_lt (tgt := 57) hx hb dX6_measure_51 (by decide) (fun _ => ?_) (fun h => absurd (by decide) h)
  refine lv_iconst (v := 0) hx hb dX6_measure_57 (by decide) ?_
  refine lv_istore (lv' := [(9, .int 0), (8, .int 301), (7, .int 0), (6, .int 0), (0, .ref (b + 181)), (1, .ref (b + 184)), (2, .int 0), (3, .ref (b + 6)), (4, .int 0), (5, .int 300)]) hx hb dX6_measure_58 hl (by decide) rfl (fun ls hl => ?_)
  refine lv_iload hx hb dX6_measure_60 (lv_at hl 0 rfl) ?_
  refine lv_iload hx hb dX6_measure_62 (lv_at hl 2 rfl) ?_
  refine lv_icmp_gt (tgt := 82) hx hb dX6_measure_64 (by decide) (fun h => absurd h (by decide)) (fun _ => ?_)
  refine lv_aload_n hx hb dX6_measure_67 rfl (lv_at hl 4 rfl) ?_
  refine m_get fl_X6_9_X6 C hM (i := 181) (by decide) h181 (v := .ref (b + 182)) rfl dX6_measure_68 ?_
  refine lv_iload hx hb dX6_measure_71 (lv_at hl 0 rfl) ?_
  refine lv_iload hx hb dX6_measure_73 (lv_at hl 0 rfl) ?_
  refine m_iast C hM (j := 182) (by decide) h182 (m_in (by decide)) dX6_measure_75 (fun H locs f1 ef1 hM => ?_)
  have ef1 : f1 = va_up f 182 (.inl (kc 1, 301, .inl (upd (fun _ => 0) 0 0))) := ef1
  refine lv_iinc (v := 1) (lv' := [(9, .int 1), (8, .int 301), (7, .int 0), (6, .int 0), (0, .ref (b + 181)), (1, .ref (b + 184)), (2, .int 0), (3, .ref (b + 6)), (4, .int 0), (5, .int 300)]) hx hb dX6_measure_76 hl (k := 0) rfl (by decide) (by decide) rfl (fun ls hl => ?_)
  refine lv_goto (tgt := 60) hx hb dX6_measure_79 (by decide) ?_
  refine lv_iload hx hb dX6_measure_60 (lv_at hl 0 rfl) ?_
  refine lv_iload hx hb dX6_measure_62 (lv_at hl 2 rfl) ?_
  refine lv_icmp_gt (tgt := 82) hx hb dX6_measure_64 (by decide) (fun _ => ?_) (fun h => absurd (by decide) h)
  refine lv_iconst (v := 1) hx hb dX6_measure_82 (by decide) ?_
  refine lv_istore (lv' := [(9, .int 1), (8, .int 301), (7, .int 0), (6, .int 0), (0, .ref (b + 181)), (1, .ref (b + 184)), (2, .int 0), (3, .ref (b + 6)), (4, .int 0), (5, .int 300)]) hx hb dX6_measure_83 hl (by decide) rfl (fun ls hl => ?_)
  refine lv_iload hx hb dX6_measure_85 (lv_at hl 0 rfl) ?_
  refine lv_iload hx hb dX6_measure_87 (lv_at hl 3 rfl) ?_
  refine lv_icmp_gt (tgt := 127) hx hb dX6_measure_89 (by decide) (fun _ => ?_) (fun h => absurd (by decide) h)
  refine lv_aload_n hx hb dX6_measure_127 rfl (lv_at hl 4 rfl) ?_
  have h181_1 : f1 181 = .inr (6, [.ref (b + 182)]) := m_ne ef1 h181 (by decide)
  refine m_get fl_X6_9_X6 C hM (i := 181) (by decide) h181_1 (v := .ref (b + 182)) rfl dX6_measure_128 ?_
  refine lv_iload hx hb dX6_measure_131 (lv_at hl 2 rfl) ?_
  have h182_1 : f1 182 = .inl (kc 1, 301, .inl (upd (fun _ => 0) 0 0)) := m_eq ef1
  refine m_iald C hM (j := 182) (by decide) h182_1 (m_in (by decide)) dX6_measure_133 ?_
  refine m_vi (y := 0) (by decide) ?_
  refine lv_iload hx hb dX6_measure_134 (lv_at hl 1 rfl) ?_
  refine va_mmin hx hb (hml.trans hl.1.symm) hown (hts _ wd_930) (hts _ wd_522) (hts _ wd_91) (hts _ wd_523) (Nat.le_of_ble_eq_true rfl) (Nat.le_of_ble_eq_true rfl) (Nat.le_of_ble_eq_true rfl) (Nat.le_of_ble_eq_true rfl) dX6_measure_136 ?_
  refine m_vi (y := 0) (by decide) ?_
  exact m_iret C hr hlk hM (⟨rfl, rfl, by rw [ef1]⟩) dX6_measure_139
set_option maxHeartbeats 4000000 in
set_option maxRecDepth 100000 in
theorem a_X2_listMissed_0 (l : Launch) (D : va_G) (kc : Nat → ClassId) (b : Nat) (f : Nat → va_E) (h183 : f 183 = .inr (2, [.ref (b + 184), .ref (b + 186), .ref (b + 187), .ref (b + 188), .ref (b + 189), .int 2, .int 3, .int 1, .int 0, .int 0, .int 0, .int 0])) : mMv l yX2_listMissed cX2_listMissed 3 1 0 0 D kc b 220 f [.ref (b + 183), .ref (b + 10)] (fun u => u.1 = 220 ∧ u.2 = va_up f 183 (.inr (2, [.ref (b + 184), .ref (b + 186), .ref (b + 187), .ref (b + 188), .ref (b + 189), .int 2, .int 3, .int 1, .int 0, .int 0, .int 0, .int 0]))) := by
  refine m_start (by decide) (Nat.le_of_ble_eq_true rfl) ?_
  intro p e s m below meth c C hr hlk hnm hM ls hl
  obtain ⟨hx, hb, hml, hown, hts, hE, hbs⟩ := id C
  have hl : lv_has ls 3 [(0, .ref (b + 183)), (1, .ref (b + 10))] := hl
  refine lv_aload_n hx hb dX2_listMissed_0 rfl (lv_at hl 0 rfl) ?_
  refine lv_iconst (v := 0) hx hb dX2_listMissed_1 (by decide) ?_
  refine m_put fl_X2_95_X2 C hM (i := 183) (by decide) h183 rfl rfl (Nat.le_of_ble_eq_true rfl) (fs1 := [.ref (b + 184), .ref (b + 186), .ref (b + 187), .ref (b + 188), .ref (b + 189), .int 2, .int 3, .int 1, .int 0, .int 0, .int 0, .int 0]) rfl dX2_listMissed_2 (fun H locs f1 ef1 hM => ?_)
  refine lv_iconst (v := 0) hx hb dX2_listMissed_5 (by decide) ?_
  refine lv_istore_n (lv' := [(2, .int 0), (0, .ref (b + 183)), (1, .ref (b + 10))]) hx hb dX2_listMissed_6 rfl hl (by decide) rfl (fun ls hl => ?_)
  refine lv_iload_n hx hb dX2_listMissed_7 rfl (lv_at hl 0 rfl) ?_
  refine lv_bipush (v := 8) hx hb dX2_listMissed_8 (by decide) ?_
  refine lv_icmp_ge (tgt := 67) hx hb dX2_listMissed_10 (by decide) (fun h => absurd h (by decide)) (fun _ => ?_)
  refine lv_aload_n hx hb dX2_listMissed_13 rfl (lv_at hl 1 rfl) ?_
  have h183_1 : f1 183 = .inr (2, [.ref (b + 184), .ref (b + 186), .ref (b + 187), .ref (b + 188), .ref (b + 189), .int 2, .int 3, .int 1, .int 0, .int 0, .int 0, .int 0]) := m_eq ef1
  refine m_get fl_X2_77_X2 C hM (i := 183) (by decide) h183_1 (v := .int 0) rfl dX2_listMissed_14 ?_
  refine lv_iload_n hx hb dX2_listMissed_17 rfl (lv_at hl 0 rfl) ?_
  refine lv_ishr hx hb dX2_listMissed_18 ?_
  refine m_vi (y := 0) (by decide) ?_
  refine lv_iconst (v := 1) hx hb dX2_listMissed_19 (by decide) ?_
  refine lv_iand hx hb dX2_listMissed_20 ?_
  refine m_vi (y := 0) (by decide) ?_
  refine lv_iconst (v := 1) hx hb dX2_listMissed_21 (by decide) ?_
  refine lv_icmp_ne (tgt := 61) hx hb dX2_listMissed_22 (by decide) (fun _ => ?_) (fun h => absurd h (by decide))
  refine lv_iinc (v := 1) (lv' := [(2, .int 1), (0, .ref (b + 183)), (1, .ref (b + 10))]) hx hb dX2_listMissed_61 hl (k := 0) rfl (by decide) (by decide) rfl (fun ls hl => ?_)
  refine lv_goto (tgt := 7) hx hb dX2_listMissed_64 (by decide) ?_
  refine lv_iload_n hx hb dX2_listMissed_7 rfl (lv_at hl 0 rfl) ?_
  refine lv_bipush (v := 8) hx hb dX2_listMissed_8 (by decide) ?_
  refine lv_icmp_ge (tgt := 67) hx hb dX2_listMissed_10 (by decide) (fun h => absurd h (by decide)) (fun _ => ?_)
  refine lv_aload_n hx hb dX2_listMissed_13 rfl (lv_at hl 1 rfl) ?_
  refine m_get fl_X2_77_X2 C hM (i := 183) (by decide) h183_1 (v := .int 0) rfl dX2_listMissed_14 ?_
  refine lv_iload_n hx hb dX2_listMissed_17 rfl (lv_at hl 0 rfl) ?_
  refine lv_ishr hx hb dX2_listMissed_18 ?_
  refine m_vi (y := 0) (by decide) ?_
  refine lv_iconst (v := 1) hx hb dX2_listMissed_19 (by decide) ?_
  refine lv_iand hx hb dX2_listMissed_20 ?_
  refine m_vi (y := 0) (by decide) ?_
  refine lv_iconst (v := 1) hx hb dX2_listMissed_21 (by decide) ?_
  refine lv_icmp_ne (tgt := 61) hx hb dX2_listMissed_22 (by decide) (fun _ => ?_) (fun h => absurd h (by decide))
  refine lv_iinc (v := 2) (lv' := [(2, .int 2), (0, .ref (b + 183)), (1, .ref (b + 10))]) hx hb dX2_listMissed_61 hl (k := 0) rfl (by decide) (by decide) rfl (fun ls hl => ?_)
  refine lv_goto (tgt := 7) hx hb dX2_listMissed_64 (by decide) ?_
  refine lv_iload_n hx hb dX2_listMissed_7 rfl (lv_at hl 0 rfl) ?_
  refine lv_bipush (v := 8) hx hb dX2_listMissed_8 (by decide) ?_
  refine lv_icmp_ge (tgt := 67) hx hb dX2_listMissed_10 (by decide) (fun h => absurd h (by decide)) (fun _ => ?_)
  refine lv_aload_n hx hb dX2_listMissed_13 rfl (lv_at hl 1 rfl) ?_
  refine m_get fl_X2_77_X2 C hM (i := 183) (by decide) h183_1 (v := .int 0) rfl dX2_listMissed_14 ?_
  refine lv_iload_n hx hb dX2_listMissed_17 rfl (lv_at hl 0 rfl) ?_
  refine lv_ishr hx hb dX2_listMissed_18 ?_
  refine m_vi (y := 0) (by decide) ?_
  refine lv_iconst (v := 1) hx hb dX2_listMissed_19 (by decide) ?_
  refine lv_iand hx hb dX2_listMissed_20 ?_
  refine m_vi (y := 0) (by decide) ?_
  refine lv_iconst (v := 1) hx hb dX2_listMissed_21 (by decide) ?_
  refine lv_icmp_ne (tgt := 61) hx hb dX2_listMissed_22 (by decide) (fun _ => ?_) (fun h => absurd h (by decide))
  refine lv_iinc (v := 3) (lv' := [(2, .int 3), (0, .ref (b + 183)), (1, .ref (b + 10))]) hx hb dX2_listMissed_61 hl (k := 0) rfl (by decide) (by decide) rfl (fun ls hl => ?_)
  refine lv_goto (tgt := 7) hx hb dX2_listMissed_64 (by decide) ?_
  refine lv_iload_n hx hb dX2_listMissed_7 rfl (lv_at hl 0 rfl) ?_
  refine lv_bipush (v := 8) hx hb dX2_listMissed_8 (by decide) ?_
  refine lv_icmp_ge (tgt := 67) hx hb dX2_listMissed_10 (by decide) (fun h => absurd h (by decide)) (fun _ => ?_)
  refine lv_aload_n hx hb dX2_listMissed_13 rfl (lv_at hl 1 rfl) ?_
  refine m_get fl_X2_77_X2 C hM (i := 183) (by decide) h183_1 (v := .int 0) rfl dX2_listMissed_14 ?_
  refine lv_iload_n hx hb dX2_listMissed_17 rfl (lv_at hl 0 rfl) ?_
  refine lv_ishr hx hb dX2_listMissed_18 ?_
  refine m_vi (y := 0) (by decide) ?_
  refine lv_iconst (v := 1) hx hb dX2_listMissed_19 (by decide) ?_
  refine lv_iand hx hb dX2_listMissed_20 ?_
  refine m_vi (y := 0) (by decide) ?_
  refine lv_iconst (v := 1) hx hb dX2_listMissed_21 (by decide) ?_
  refine lv_icmp_ne (tgt := 61) hx hb dX2_listMissed_22 (by decide) (fun _ => ?_) (fun h => absurd h (by decide))
  refine lv_iinc (v := 4) (lv' := [(2, .int 4), (0, .ref (b + 183)), (1, .ref (b + 10))]) hx hb dX2_listMissed_61 hl (k := 0) rfl (by decide) (by decide) rfl (fun ls hl => ?_)
  refine lv_goto (tgt := 7) hx hb dX2_listMissed_64 (by decide) ?_
  refine lv_iload_n hx hb dX2_listMissed_7 rfl (lv_at hl 0 rfl) ?_
  refine lv_bipush (v := 8) hx hb dX2_listMissed_8 (by decide) ?_
  refine lv_icmp_ge (tgt := 67) hx hb dX2_listMissed_10 (by decide) (fun h => absurd h (by decide)) (fun _ => ?_)
  refine lv_aload_n hx hb dX2_listMissed_13 rfl (lv_at hl 1 rfl) ?_
  refine m_get fl_X2_77_X2 C hM (i := 183) (by decide) h183_1 (v := .int 0) rfl dX2_listMissed_14 ?_
  refine lv_iload_n hx hb dX2_listMissed_17 rfl (lv_at hl 0 rfl) ?_
  refine lv_ishr hx hb dX2_listMissed_18 ?_
  refine m_vi (y := 0) (by decide) ?_
  refine lv_iconst (v := 1) hx hb dX2_listMissed_19 (by decide) ?_
  refine lv_iand hx hb dX2_listMissed_20 ?_
  refine m_vi (y := 0) (by decide) ?_
  refine lv_iconst (v := 1) hx hb dX2_listMissed_21 (by decide) ?_
  refine lv_icmp_ne (tgt := 61) hx hb dX2_listMissed_22 (by decide) (fun _ => ?_) (fun h => absurd h (by decide))
  refine lv_iinc (v := 5) (lv' := [(2, .int 5), (0, .ref (b + 183)), (1, .ref (b + 10))]) hx hb dX2_listMissed_61 hl (k := 0) rfl (by decide) (by decide) rfl (fun ls hl => ?_)
  refine lv_goto (tgt := 7) hx hb dX2_listMissed_64 (by decide) ?_
  refine lv_iload_n hx hb dX2_listMissed_7 rfl (lv_at hl 0 rfl) ?_
  refine lv_bipush (v := 8) hx hb dX2_listMissed_8 (by decide) ?_
  refine lv_icmp_ge (tgt := 67) hx hb dX2_listMissed_10 (by decide) (fun h => absurd h (by decide)) (fun _ => ?_)
  refine lv_aload_n hx hb dX2_listMissed_13 rfl (lv_at hl 1 rfl) ?_
  refine m_get fl_X2_77_X2 C hM (i := 183) (by decide) h183_1 (v := .int 0) rfl dX2_listMissed_14 ?_
  refine lv_iload_n hx hb dX2_listMissed_17 rfl (lv_at hl 0 rfl) ?_
  refine lv_ishr hx hb dX2_listMissed_18 ?_
  refine m_vi (y := 0) (by decide) ?_
  refine lv_iconst (v := 1) hx hb dX2_listMissed_19 (by decide) ?_
  refine lv_iand hx hb dX2_listMissed_20 ?_
  refine m_vi (y := 0) (by decide) ?_
  refine lv_iconst (v := 1) hx hb dX2_listMissed_21 (by decide) ?_
  refine lv_icmp_ne (tgt := 61) hx hb dX2_listMissed_22 (by decide) (fun _ => ?_) (fun h => absurd h (by decide))
  refine lv_iinc (v := 6) (lv' := [(2, .int 6), (0, .ref (b + 183)), (1, .ref (b + 10))]) hx hb dX2_listMissed_61 hl (k := 0) rfl (by decide) (by decide) rfl (fun ls hl => ?_)
  refine lv_goto (tgt := 7) hx hb dX2_listMissed_64 (by decide) ?_
  refine lv_iload_n hx hb dX2_listMissed_7 rfl (lv_at hl 0 rfl) ?_
  refine lv_bipush (v := 8) hx hb dX2_listMissed_8 (by decide) ?_
  refine lv_icmp_ge (tgt := 67) hx hb dX2_listMissed_10 (by decide) (fun h => absurd h (by decide)) (fun _ => ?_)
  refine lv_aload_n hx hb dX2_listMissed_13 rfl (lv_at hl 1 rfl) ?_
  refine m_get fl_X2_77_X2 C hM (i := 183) (by decide) h183_1 (v := .int 0) rfl dX2_listMissed_14 ?_
  refine lv_iload_n hx hb dX2_listMissed_17 rfl (lv_at hl 0 rfl) ?_
  refine lv_ishr hx hb dX2_listMissed_18 ?_
  refine m_vi (y := 0) (by decide) ?_
  refine lv_iconst (v := 1) hx hb dX2_listMissed_19 (by decide) ?_
  refine lv_iand hx hb dX2_listMissed_20 ?_
  refine m_vi (y := 0) (by decide) ?_
  refine lv_iconst (v := 1) hx hb dX2_listMissed_21 (by decide) ?_
  refine lv_icmp_ne (tgt := 61) hx hb dX2_listMissed_22 (by decide) (fun _ => ?_) (fun h => absurd h (by decide))
  refine lv_iinc (v := 7) (lv' := [(2, .int 7), (0, .ref (b + 183)), (1, .ref (b + 10))]) hx hb dX2_listMissed_61 hl (k := 0) rfl (by decide) (by decide) rfl (fun ls hl => ?_)
  refine lv_goto (tgt := 7) hx hb dX2_listMissed_64 (by decide) ?_
  refine lv_iload_n hx hb dX2_listMissed_7 rfl (lv_at hl 0 rfl) ?_
  refine lv_bipush (v := 8) hx hb dX2_listMissed_8 (by decide) ?_
  refine lv_icmp_ge (tgt := 67) hx hb dX2_listMissed_10 (by decide) (fun h => absurd h (by decide)) (fun _ => ?_)
  refine lv_aload_n hx hb dX2_listMissed_13 rfl (lv_at hl 1 rfl) ?_
  refine m_get fl_X2_77_X2 C hM (i := 183) (by decide) h183_1 (v := .int 0) rfl dX2_listMissed_14 ?_
  refine lv_iload_n hx hb dX2_listMissed_17 rfl (lv_at hl 0 rfl) ?_
  refine lv_ishr hx hb dX2_listMissed_18 ?_
  refine m_vi (y := 0) (by decide) ?_
  refine lv_iconst (v := 1) hx hb dX2_listMissed_19 (by decide) ?_
  refine lv_iand hx hb dX2_listMissed_20 ?_
  refine m_vi (y := 0) (by decide) ?_
  refine lv_iconst (v := 1) hx hb dX2_listMissed_21 (by decide) ?_
  refine lv_icmp_ne (tgt := 61) hx hb dX2_listMissed_22 (by decide) (fun _ => ?_) (fun h => absurd h (by decide))
  refine lv_iinc (v := 8) (lv' := [(2, .int 8), (0, .ref (b + 183)), (1, .ref (b + 10))]) hx hb dX2_listMissed_61 hl (k := 0) rfl (by decide) (by decide) rfl (fun ls hl => ?_)
  refine lv_goto (tgt := 7) hx hb dX2_listMissed_64 (by decide) ?_
  refine lv_iload_n hx hb dX2_listMissed_7 rfl (lv_at hl 0 rfl) ?_
  refine lv_bipush (v := 8) hx hb dX2_listMissed_8 (by decide) ?_
  refine lv_icmp_ge (tgt := 67) hx hb dX2_listMissed_10 (by decide) (fun _ => ?_) (fun h => absurd (by decide) h)
  exact m_vret C hr hlk hM (⟨rfl, by rw [ef1]⟩) dX2_listMissed_67
set_option maxHeartbeats 4000000 in
set_option maxRecDepth 100000 in
theorem a_X7_takeDone_1 (l : Launch) (D : va_G) (kc : Nat → ClassId) (b : Nat) (f : Nat → va_E) (h178 : f 178 = .inr (7, [.ref (b + 179), .ref (b + 180), .int 0, .ref (b + 4), .ref (b + 184)])) (h10 : f 10 = .inr (5, [.ref (b + 11), .ref (b + 12), .ref (b + 13), .int 0, .int 0, .int 0])) : mMv l yX7_takeDone cX7_takeDone 6 1 0 0 D kc b 220 f [.ref (b + 178), .ref (b + 10), .int 0] (fun u => u.1 = 220 ∧ u.2 = va_up f 178 (.inr (7, [.ref (b + 179), .ref (b + 180), .int 0, .ref (b + 4), .ref (b + 184)]))) := by
  refine m_start (by decide) (Nat.le_of_ble_eq_true rfl) ?_
  intro p e s m below meth c C hr hlk hnm hM ls hl
  obtain ⟨hx, hb, hml, hown, hts, hE, hbs⟩ := id C
  have hl : lv_has ls 6 [(0, .ref (b + 178)), (1, .ref (b + 10)), (2, .int 0)] := hl
  refine lv_aload_n hx hb dX7_takeDone_0 rfl (lv_at hl 0 rfl) ?_
  refine lv_iconst (v := 0) hx hb dX7_takeDone_1 (by decide) ?_
  refine m_put fl_X7_21_X7 C hM (i := 178) (by decide) h178 rfl rfl (Nat.le_of_ble_eq_true rfl) (fs1 := [.ref (b + 179), .ref (b + 180), .int 0, .ref (b + 4), .ref (b + 184)]) rfl dX7_takeDone_2 (fun H locs f1 ef1 hM => ?_)
  refine lv_iconst (v := 0) hx hb dX7_takeDone_5 (by decide) ?_
  refine lv_istore_n (lv' := [(3, .int 0), (0, .ref (b + 178)), (1, .ref (b + 10)), (2, .int 0)]) hx hb dX7_takeDone_6 rfl hl (by decide) rfl (fun ls hl => ?_)
  refine lv_iload_n hx hb dX7_takeDone_7 rfl (lv_at hl 0 rfl) ?_
  refine lv_aload_n hx hb dX7_takeDone_8 rfl (lv_at hl 2 rfl) ?_
  have h10_1 : f1 10 = .inr (5, [.ref (b + 11), .ref (b + 12), .ref (b + 13), .int 0, .int 0, .int 0]) := m_ne ef1 h10 (by decide)
  refine m_getN fl_X7_25_X5 C hM (i := 10) (by decide) h10_1 (v := .int 0) rfl dX7_takeDone_9 ?_
  refine lv_icmp_ge (tgt := 107) hx hb dX7_takeDone_12 (by decide) (fun _ => ?_) (fun h => absurd (by decide) h)
  exact m_vret C hr hlk hM (⟨rfl, by rw [ef1]⟩) dX7_takeDone_107
set_option maxHeartbeats 4000000 in
set_option maxRecDepth 100000 in
theorem a_X7_make_2 (l : Launch) (D : va_G) (kc : Nat → ClassId) (b : Nat) (f : Nat → va_E) (h178 : f 178 = .inr (7, [.ref (b + 179), .ref (b + 180), .int 0, .ref (b + 4), .ref (b + 184)])) (h184 : f 184 = .inr (8, [.ref (b + 185), .int 0])) (h4 : f 4 = .inr (8, [.ref (b + 5), .int 0])) : mMv l yX7_make cX7_make 4 2 0 0 D kc b 220 f [.ref (b + 178), .ref (b + 4), .ref (b + 184)] (fun u => u.1 = 220 ∧ u.2 = va_up (va_up (va_up f 178 (.inr (7, [.ref (b + 179), .ref (b + 180), .int 0, .ref (b + 4), .ref (b + 184)]))) 178 (.inr (7, [.ref (b + 179), .ref (b + 180), .int 0, .ref (b + 4), .ref (b + 184)]))) 184 (.inr (8, [.ref (b + 185), .int 0]))) := by
  refine m_start (by decide) (Nat.le_of_ble_eq_true rfl) ?_
  intro p e s m below meth c C hr hlk hnm hM ls hl
  obtain ⟨hx, hb, hml, hown, hts, hE, hbs⟩ := id C
  have hl : lv_has ls 4 [(0, .ref (b + 178)), (1, .ref (b + 4)), (2, .ref (b + 184))] := hl
  refine lv_aload_n hx hb dX7_make_0 rfl (lv_at hl 0 rfl) ?_
  refine lv_aload_n hx hb dX7_make_1 rfl (lv_at hl 1 rfl) ?_
  refine m_put fl_X7_38_X7 C hM (i := 178) (by decide) h178 rfl rfl (Nat.le_of_ble_eq_true rfl) (fs1 := [.ref (b + 179), .ref (b + 180), .int 0, .ref (b + 4), .ref (b + 184)]) rfl dX7_make_2 (fun H locs f1 ef1 hM => ?_)
  refine lv_aload_n hx hb dX7_make_5 rfl (lv_at hl 0 rfl) ?_
  refine lv_aload_n hx hb dX7_make_6 rfl (lv_at hl 2 rfl) ?_
  have h178_1 : f1 178 = .inr (7, [.ref (b + 179), .ref (b + 180), .int 0, .ref (b + 4), .ref (b + 184)]) := m_eq ef1
  refine m_put fl_X7_42_X7 C hM (i := 178) (by decide) h178_1 rfl rfl (Nat.le_of_ble_eq_true rfl) (fs1 := [.ref (b + 179), .ref (b + 180), .int 0, .ref (b + 4), .ref (b + 184)]) rfl dX7_make_7 (fun H locs f2 ef2 hM => ?_)
  refine lv_aload_n hx hb dX7_make_10 rfl (lv_at hl 0 rfl) ?_
  have h178_2 : f2 178 = .inr (7, [.ref (b + 179), .ref (b + 180), .int 0, .ref (b + 4), .ref (b + 184)]) := m_eq ef2
  refine m_get fl_X7_42_X7 C hM (i := 178) (by decide) h178_2 (v := .ref (b + 184)) rfl dX7_make_11 ?_
  have h184_1 : f1 184 = .inr (8, [.ref (b + 185), .int 0]) := m_ne ef1 h184 (by decide)
  have h184_2 : f2 184 = .inr (8, [.ref (b + 185), .int 0]) := m_ne ef2 h184_1 (by decide)
  refine m_gov (m_runV calV_X8_clear wd_663 (a_X8_clear_4 l D kc b f2 h184_2) C hM (by decide) h184_2 rfl hl.1 rfl rfl (Nat.le_of_ble_eq_true rfl) dX7_make_14 ⟨Nat.le_of_ble_eq_true rfl, Nat.le_of_ble_eq_true rfl⟩ ⟨Nat.le_of_ble_eq_true rfl, Nat.le_of_ble_eq_true rfl⟩) hM (fun n2 f3 H locs hp hM => ?_)
  have hp : n2 = 220 ∧ f3 = va_up f2 184 (.inr (8, [.ref (b + 185), .int 0])) := hp
  obtain ⟨rfl, ef3⟩ := hp
  refine lv_aload_n hx hb dX7_make_17 rfl (lv_at hl 0 rfl) ?_
  have h178_3 : f3 178 = .inr (7, [.ref (b + 179), .ref (b + 180), .int 0, .ref (b + 4), .ref (b + 184)]) := m_ne ef3 h178_2 (by decide)
  refine m_get fl_X7_38_X7 C hM (i := 178) (by decide) h178_3 (v := .ref (b + 4)) rfl dX7_make_18 ?_
  have h4_1 : f1 4 = .inr (8, [.ref (b + 5), .int 0]) := m_ne ef1 h4 (by decide)
  have h4_2 : f2 4 = .inr (8, [.ref (b + 5), .int 0]) := m_ne ef2 h4_1 (by decide)
  have h4_3 : f3 4 = .inr (8, [.ref (b + 5), .int 0]) := m_ne ef3 h4_2 (by decide)
  refine m_getN fl_X7_50_X8 C hM (i := 4) (by decide) h4_3 (v := .int 0) rfl dX7_make_21 ?_
  refine lv_istore_n (lv' := [(3, .int 0), (0, .ref (b + 178)), (1, .ref (b + 4)), (2, .ref (b + 184))]) hx hb dX7_make_24 rfl hl (by decide) rfl (fun ls hl => ?_)
  refine lv_iload_n hx hb dX7_make_25 rfl (lv_at hl 0 rfl) ?_
  refine lv_if_le (tgt := 44) hx hb dX7_make_26 (by decide) (fun _ => ?_) (fun h => absurd (by decide) h)
  refine lv_aload_n hx hb dX7_make_44 rfl (lv_at hl 1 rfl) ?_
  refine lv_iload_n hx hb dX7_make_45 rfl (lv_at hl 0 rfl) ?_
  refine lv_iconst (v := 0) hx hb dX7_make_46 (by decide) ?_
  refine m_gov (m_runV calV_X7_setGap wd_664 (a_X7_setGap_1 l D kc b f3 h178_3) C hM (by decide) h178_3 rfl hl.1 rfl rfl (Nat.le_of_ble_eq_true rfl) dX7_make_47 ⟨Nat.le_of_ble_eq_true rfl, Nat.le_of_ble_eq_true rfl⟩ ⟨Nat.le_of_ble_eq_true rfl, Nat.le_of_ble_eq_true rfl⟩) hM (fun n4 f4 H locs hp hM => ?_)
  have hp : n4 = 220 ∧ f4 = f3 := hp
  obtain ⟨rfl, ef4⟩ := hp
  exact m_vret C hr hlk hM (⟨rfl, by rw [ef4, ef3, ef2, ef1]⟩) dX7_make_50
