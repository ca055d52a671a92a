set_option maxHeartbeats 4000000 in
set_option maxRecDepth 100000 in
theorem k_m_price (l : Launch) (D : va_G) (kc : Nat → ClassId) (b : Nat) (f : Nat → va_E) (a0 : Int32) (a1 : Int32) (h192 : f 192 = .inr (13, [.ref (b + 193), .ref (b + 194), .ref (b + 195), .int 0, .int 0, .int 0, .ref (b + 196), .ref (b + 197), .int 0, .int 0, .int 0, .int 0, .int 0, .int 0, .int 0, .int (-1), .ref (b + 198), .ref (b + 199), .ref (b + 200), .ref (b + 201), .ref (b + 202), .ref (b + 203), .ref (b + 204), .ref (b + 205), .ref (b + 206), .ref (b + 207), .ref (b + 208), .int 0, .ref (b + 209), .ref (b + 210), .ref (b + 211), .ref (b + 212), .ref (b + 213), .ref (b + 214), .ref (b + 215), .int 0, .int 0, .int 0, .int 0, .ref (b + 216), .ref (b + 217), .ref (b + 218), .ref (b + 219)])) (h210 : f 210 = .inl (kc 1, 5, .inl (mPr))) : mMi l yX13_price cX13_price 4 .int 2 0 0 D kc b 220 f [.ref (b + 192), .int a0, .int a1] (fun r u => r = p_price a0 a1) := by
  refine m_start (by decide) (Nat.le_of_ble_eq_true rfl) ?_
  intro p e s m below meth c C hr hlk hnm hM ls hl
  obtain ⟨hx, hb, hml, hown, hts, hE, hbs⟩ := id C
  have hl : lv_has ls 4 [(0, .ref (b + 192)), (1, .int a0), (2, .int a1)] := hl
  refine lv_iload_n hx hb dX13_price_0 rfl (lv_at hl 1 rfl) ?_
  refine lv_i2l hx hb dX13_price_1 rfl ?_
  refine lv_lconst (v := 0) hx hb dX13_price_2 (by decide) ?_
  refine lv_ldc2 (v := 4) hx hb hown (hts _ wd_1472) dX13_price_3 ?_
  by_cases q1 : a0 < 0
  · refine m_goi (m_runS calS_X13_in wd_1221 (k_in0 l D kc b 220 f a0.toInt64 0 4 (by revert q1; rw [m_inI (a := 0) (b := 4) (by decide) (by decide)]; simp only [Int32.lt_iff_toInt_lt, Int32.le_iff_toInt_le, m_lits]; omega)) C hM hl.1 rfl rfl (Nat.le_of_ble_eq_true rfl) dX13_price_6 ⟨Nat.le_of_ble_eq_true rfl, Nat.le_of_ble_eq_true rfl⟩ ⟨Nat.le_of_ble_eq_true rfl, Nat.le_of_ble_eq_true rfl⟩) hM (fun r2 n3 f1 H locs hp hM => ?_)
    obtain ⟨rfl, rfl, ef1⟩ : r2 = 0 ∧ n3 = 220 ∧ f1 = f := hp
    refine lv_if_eq (tgt := 24) hx hb dX13_price_9 (by decide) (fun _ => ?_) (fun h => absurd (by decide) h)
    refine lv_bipush (v := (-2)) hx hb dX13_price_24 (by decide) ?_
    exact m_iret C hr hlk hM (by unfold p_price; rw [if_neg (by revert q1; simp only [Int32.lt_iff_toInt_lt, Int32.le_iff_toInt_le, m_lits]; omega)]) dX13_price_26
  by_cases q4 : 4 < a0
  · refine m_goi (m_runS calS_X13_in wd_1221 (k_in0 l D kc b 220 f a0.toInt64 0 4 (by revert q4; rw [m_inI (a := 0) (b := 4) (by decide) (by decide)]; simp only [Int32.lt_iff_toInt_lt, Int32.le_iff_toInt_le, m_lits]; omega)) C hM hl.1 rfl rfl (Nat.le_of_ble_eq_true rfl) dX13_price_6 ⟨Nat.le_of_ble_eq_true rfl, Nat.le_of_ble_eq_true rfl⟩ ⟨Nat.le_of_ble_eq_true rfl, Nat.le_of_ble_eq_true rfl⟩) hM (fun r5 n6 f1 H locs hp hM => ?_)
    obtain ⟨rfl, rfl, ef1⟩ : r5 = 0 ∧ n6 = 220 ∧ f1 = f := hp
    refine lv_if_eq (tgt := 24) hx hb dX13_price_9 (by decide) (fun _ => ?_) (fun h => absurd (by decide) h)
    refine lv_bipush (v := (-2)) hx hb dX13_price_24 (by decide) ?_
    exact m_iret C hr hlk hM (by unfold p_price; rw [if_neg (by revert q1 q4; simp only [Int32.lt_iff_toInt_lt, Int32.le_iff_toInt_le, m_lits]; omega)]) dX13_price_26
  refine m_goi (m_runS calS_X13_in wd_1221 (k_in1 l D kc b 220 f a0.toInt64 0 4 (by revert q1 q4; rw [m_inI (a := 0) (b := 4) (by decide) (by decide)]; simp only [Int32.lt_iff_toInt_lt, Int32.le_iff_toInt_le, m_lits]; omega)) C hM hl.1 rfl rfl (Nat.le_of_ble_eq_true rfl) dX13_price_6 ⟨Nat.le_of_ble_eq_true rfl, Nat.le_of_ble_eq_true rfl⟩ ⟨Nat.le_of_ble_eq_true rfl, Nat.le_of_ble_eq_true rfl⟩) hM (fun r7 n8 f1 H locs hp hM => ?_)
  obtain ⟨rfl, rfl, ef1⟩ : r7 = 1 ∧ n8 = 220 ∧ f1 = f := hp
  refine lv_if_eq (tgt := 24) hx hb dX13_price_9 (by decide) (fun h => absurd h (by decide)) (fun _ => ?_)
  refine lv_iload_n hx hb dX13_price_12 rfl (lv_at hl 2 rfl) ?_
  refine lv_i2l hx hb dX13_price_13 rfl ?_
  refine lv_lconst (v := 0) hx hb dX13_price_14 (by decide) ?_
  refine lv_ldc2 (v := 999) hx hb hown (hts _ wd_1473) dX13_price_15 ?_
  by_cases q9 : a1 < 0
  · refine m_goi (m_runS calS_X13_in wd_1221 (k_in0 l D kc b 220 f1 a1.toInt64 0 999 (by revert q9; rw [m_inI (a := 0) (b := 999) (by decide) (by decide)]; simp only [Int32.lt_iff_toInt_lt, Int32.le_iff_toInt_le, m_lits]; omega)) C hM hl.1 rfl rfl (Nat.le_of_ble_eq_true rfl) dX13_price_18 ⟨Nat.le_of_ble_eq_true rfl, Nat.le_of_ble_eq_true rfl⟩ ⟨Nat.le_of_ble_eq_true rfl, Nat.le_of_ble_eq_true rfl⟩) hM (fun r10 n11 f2 H locs hp hM => ?_)
    obtain ⟨rfl, rfl, ef2⟩ : r10 = 0 ∧ n11 = 220 ∧ f2 = f1 := hp
    refine lv_if_ne (tgt := 27) hx hb dX13_price_21 (by decide) (fun h => absurd (by decide) h) (fun _ => ?_)
    refine lv_bipush (v := (-2)) hx hb dX13_price_24 (by decide) ?_
    exact m_iret C hr hlk hM (by unfold p_price; rw [if_neg (by revert q1 q4 q9; simp only [Int32.lt_iff_toInt_lt, Int32.le_iff_toInt_le, m_lits]; omega)]) dX13_price_26
  by_cases q12 : 999 < a1
  · refine m_goi (m_runS calS_X13_in wd_1221 (k_in0 l D kc b 220 f1 a1.toInt64 0 999 (by revert q12; rw [m_inI (a := 0) (b := 999) (by decide) (by decide)]; simp only [Int32.lt_iff_toInt_lt, Int32.le_iff_toInt_le, m_lits]; omega)) C hM hl.1 rfl rfl (Nat.le_of_ble_eq_true rfl) dX13_price_18 ⟨Nat.le_of_ble_eq_true rfl, Nat.le_of_ble_eq_true rfl⟩ ⟨Nat.le_of_ble_eq_true rfl, Nat.le_of_ble_eq_true rfl⟩) hM (fun r13 n14 f2 H locs hp hM => ?_)
    obtain ⟨rfl, rfl, ef2⟩ : r13 = 0 ∧ n14 = 220 ∧ f2 = f1 := hp
    refine lv_if_ne (tgt := 27) hx hb dX13_price_21 (by decide) (fun h => absurd (by decide) h) (fun _ => ?_)
    refine lv_bipush (v := (-2)) hx hb dX13_price_24 (by decide) ?_
    exact m_iret C hr hlk hM (by unfold p_price; rw [if_neg (by revert q1 q4 q9 q12; simp only [Int32.lt_iff_toInt_lt, Int32.le_iff_toInt_le, m_lits]; omega)]) dX13_price_26
  refine m_goi (m_runS calS_X13_in wd_1221 (k_in1 l D kc b 220 f1 a1.toInt64 0 999 (by revert q9 q12; rw [m_inI (a := 0) (b := 999) (by decide) (by decide)]; simp only [Int32.lt_iff_toInt_lt, Int32.le_iff_toInt_le, m_lits]; omega)) C hM hl.1 rfl rfl (Nat.le_of_ble_eq_true rfl) dX13_price_18 ⟨Nat.le_of_ble_eq_true rfl, Nat.le_of_ble_eq_true rfl⟩ ⟨Nat.le_of_ble_eq_true rfl, Nat.le_of_ble_eq_true rfl⟩) hM (fun r15 n16 f2 H locs hp hM => ?_)
  obtain ⟨rfl, rfl, ef2⟩ : r15 = 1 ∧ n16 = 220 ∧ f2 = f1 := hp
  refine lv_if_ne (tgt := 27) hx hb dX13_price_21 (by decide) (fun _ => ?_) (fun h => absurd h (by decide))
  refine lv_aload_n hx hb dX13_price_27 rfl (lv_at hl 0 rfl) ?_
  have h192_1 : f1 192 = .inr (13, [.ref (b + 193), .ref (b + 194), .ref (b + 195), .int 0, .int 0, .int 0, .ref (b + 196), .ref (b + 197), .int 0, .int 0, .int 0, .int 0, .int 0, .int 0, .int 0, .int (-1), .ref (b + 198), .ref (b + 199), .ref (b + 200), .ref (b + 201), .ref (b + 202), .ref (b + 203), .ref (b + 204), .ref (b + 205), .ref (b + 206), .ref (b + 207), .ref (b + 208), .int 0, .ref (b + 209), .ref (b + 210), .ref (b + 211), .ref (b + 212), .ref (b + 213), .ref (b + 214), .ref (b + 215), .int 0, .int 0, .int 0, .int 0, .ref (b + 216), .ref (b + 217), .ref (b + 218), .ref (b + 219)]) := m_sm ef1 h192
  have h192_2 : f2 192 = .inr (13, [.ref (b + 193), .ref (b + 194), .ref (b + 195), .int 0, .int 0, .int 0, .ref (b + 196), .ref (b + 197), .int 0, .int 0, .int 0, .int 0, .int 0, .int 0, .int 0, .int (-1), .ref (b + 198), .ref (b + 199), .ref (b + 200), .ref (b + 201), .ref (b + 202), .ref (b + 203), .ref (b + 204), .ref (b + 205), .ref (b + 206), .ref (b + 207), .ref (b + 208), .int 0, .ref (b + 209), .ref (b + 210), .ref (b + 211), .ref (b + 212), .ref (b + 213), .ref (b + 214), .ref (b + 215), .int 0, .int 0, .int 0, .int 0, .ref (b + 216), .ref (b + 217), .ref (b + 218), .ref (b + 219)]) := m_sm ef2 h192_1
  refine m_get fl_X13_105_X13 C hM (i := 192) (by decide) h192_2 (v := .ref (b + 210)) rfl dX13_price_28 ?_
  refine lv_iload_n hx hb dX13_price_31 rfl (lv_at hl 1 rfl) ?_
  have h210_1 : f1 210 = .inl (kc 1, 5, .inl (mPr)) := m_sm ef1 h210
  have h210_2 : f2 210 = .inl (kc 1, 5, .inl (mPr)) := m_sm ef2 h210_1
  refine m_iald C hM (j := 210) (by decide) h210_2 (by revert q1 q4; rw [vp_in_iff]; simp only [Int32.lt_iff_toInt_lt, Int32.le_iff_toInt_le, m_lits]; omega) dX13_price_32 ?_
  refine lv_topi (fun x17 ex17 => ?_)
  refine lv_istore_n (lv' := [(3, .int x17), (0, .ref (b + 192)), (1, .int a0), (2, .int a1)]) hx hb dX13_price_33 rfl hl (by decide) rfl (fun ls hl => ?_)
  refine lv_aload_n hx hb dX13_price_34 rfl (lv_at hl 1 rfl) ?_
  refine m_get fl_X13_105_X13 C hM (i := 192) (by decide) h192_2 (v := .ref (b + 210)) rfl dX13_price_35 ?_
  refine lv_iload_n hx hb dX13_price_38 rfl (lv_at hl 2 rfl) ?_
  refine lv_iload_n hx hb dX13_price_39 rfl (lv_at hl 3 rfl) ?_
  refine m_iast C hM (j := 210) (by decide) h210_2 (by revert q1 q4; rw [vp_in_iff]; simp only [Int32.lt_iff_toInt_lt, Int32.le_iff_toInt_le, m_lits]; omega) dX13_price_40 (fun H locs f3 ef3 hM => ?_)
  have ef3 : f3 = va_up f2 210 (.inl (kc 1, 5, .inl (upd mPr a0.toNatClampNeg a1))) := ef3
  refine lv_iload_n hx hb dX13_price_41 rfl (lv_at hl 0 rfl) ?_
  exact m_iret C hr hlk hM (by rw [ex17]; unfold p_price; rw [if_pos (by revert q1 q4 q9 q12; simp only [Int32.lt_iff_toInt_lt, Int32.le_iff_toInt_le, m_lits]; omega)]) dX13_price_42
set_option maxHeartbeats 4000000 in
set_option maxRecDepth 100000 in
theorem a_X13_in_4 (l : Launch) (D : va_G) (kc : Nat → ClassId) (b : Nat) (f : Nat → va_E) : mMi l yX13_in cX13_in 6 .boolean 1 0 0 D kc b 220 f [.long 0, .long 0, .long 1] (fun r u => r = 1 ∧ u.1 = 220 ∧ u.2 = f) := by
  refine m_start (by decide) (Nat.le_of_ble_eq_true rfl) ?_
  intro p e s m below meth c C hr hlk hnm hM ls hl
  obtain ⟨hx, hb, hml, hown, hts, hE, hbs⟩ := id C
  have hl : lv_has ls 6 [(0, .long 0), (2, .long 0), (4, .long 1)] := hl
  refine lv_lload_n hx hb dX13_in_0 rfl (lv_at hl 0 rfl) ?_
  refine lv_lload_n hx hb dX13_in_1 rfl (lv_at hl 1 rfl) ?_
  refine W.lcmp hx hb dX13_in_2 ?_
  refine m_vi (y := 0) (by decide) ?_
  refine lv_if_lt (tgt := 17) hx hb dX13_in_3 (by decide) (fun h => absurd h (by decide)) (fun _ => ?_)
  refine lv_lload_n hx hb dX13_in_6 rfl (lv_at hl 0 rfl) ?_
  refine lv_lload hx hb dX13_in_7 (lv_at hl 2 rfl) ?_
  refine W.lcmp hx hb dX13_in_9 ?_
  refine m_vi (y := (-1)) (by decide) ?_
  refine lv_if_gt (tgt := 17) hx hb dX13_in_10 (by decide) (fun h => absurd h (by decide)) (fun _ => ?_)
  refine lv_iconst (v := 1) hx hb dX13_in_13 (by decide) ?_
  refine lv_goto (tgt := 18) hx hb dX13_in_14 (by decide) ?_
  exact m_zret C hr hlk hM rfl (⟨rfl, rfl, rfl⟩) dX13_in_18
set_option maxHeartbeats 4000000 in
set_option maxRecDepth 100000 in
theorem a_X13_in_5 (l : Launch) (D : va_G) (kc : Nat → ClassId) (b : Nat) (f : Nat → va_E) : mMi l yX13_in cX13_in 6 .boolean 1 0 0 D kc b 220 f [.long 1, .long 0, .long 1] (fun r u => r = 1 ∧ u.1 = 220 ∧ u.2 = f) := by
  refine m_start (by decide) (Nat.le_of_ble_eq_true rfl) ?_
  intro p e s m below meth c C hr hlk hnm hM ls hl
  obtain ⟨hx, hb, hml, hown, hts, hE, hbs⟩ := id C
  have hl : lv_has ls 6 [(0, .long 1), (2, .long 0), (4, .long 1)] := hl
  refine lv_lload_n hx hb dX13_in_0 rfl (lv_at hl 0 rfl) ?_
  refine lv_lload_n hx hb dX13_in_1 rfl (lv_at hl 1 rfl) ?_
  refine W.lcmp hx hb dX13_in_2 ?_
  refine m_vi (y := 1) (by decide) ?_
  refine lv_if_lt (tgt := 17) hx hb dX13_in_3 (by decide) (fun h => absurd h (by decide)) (fun _ => ?_)
  refine lv_lload_n hx hb dX13_in_6 rfl (lv_at hl 0 rfl) ?_
  refine lv_lload hx hb dX13_in_7 (lv_at hl 2 rfl) ?_
  refine W.lcmp hx hb dX13_in_9 ?_
  refine m_vi (y := 0) (by decide) ?_
  refine lv_if_gt (tgt := 17) hx hb dX13_in_10 (by decide) (fun h => absurd h (by decide)) (fun _ => ?_)
  refine lv_iconst (v := 1) hx hb dX13_in_13 (by decide) ?_
  refine lv_goto (tgt := 18) hx hb dX13_in_14 (by decide) ?_
  exact m_zret C hr hlk hM rfl (⟨rfl, rfl, rfl⟩) dX13_in_18
set_option maxHeartbeats 4000000 in
set_option maxRecDepth 100000 in
theorem k_m_pays (l : Launch) (D : va_G) (kc : Nat → ClassId) (b : Nat) (f : Nat → va_E) (a0 : Int32) (h192 : f 192 = .inr (13, [.ref (b + 193), .ref (b + 194), .ref (b + 195), .int 0, .int 0, .int 0, .ref (b + 196), .ref (b + 197), .int 0, .int 0, .int 0, .int 0, .int 0, .int 0, .int 0, .int (-1), .ref (b + 198), .ref (b + 199), .ref (b + 200), .ref (b + 201), .ref (b + 202), .ref (b + 203), .ref (b + 204), .ref (b + 205), .ref (b + 206), .ref (b + 207), .ref (b + 208), .int 0, .ref (b + 209), .ref (b + 210), .ref (b + 211), .ref (b + 212), .ref (b + 213), .ref (b + 214), .ref (b + 215), .int 0, .int 0, .int 0, .int 0, .ref (b + 216), .ref (b + 217), .ref (b + 218), .ref (b + 219)])) : mMi l yX13_pays cX13_pays 4 .int 2 0 0 D kc b 220 f [.ref (b + 192), .int a0] (fun r u => r = p_pays a0) := by
  refine m_start (by decide) (Nat.le_of_ble_eq_true rfl) ?_
  intro p e s m below meth c C hr hlk hnm hM ls hl
  obtain ⟨hx, hb, hml, hown, hts, hE, hbs⟩ := id C
  have hl : lv_has ls 4 [(0, .ref (b + 192)), (1, .int a0)] := hl
  by_cases q1 : a0 < 0
  · refine lv_iload_n hx hb dX13_pays_0 rfl (lv_at hl 1 rfl) ?_
    refine lv_i2l hx hb dX13_pays_1 rfl ?_
    refine lv_lconst (v := 0) hx hb dX13_pays_2 (by decide) ?_
    refine lv_lconst (v := 1) hx hb dX13_pays_3 (by decide) ?_
    refine m_goi (m_runS calS_X13_in wd_1221 (k_in0 l D kc b 220 f a0.toInt64 0 1 (by revert q1; rw [m_inI (a := 0) (b := 1) (by decide) (by decide)]; simp only [Int32.lt_iff_toInt_lt, Int32.le_iff_toInt_le, m_lits]; omega)) C hM hl.1 rfl rfl (Nat.le_of_ble_eq_true rfl) dX13_pays_4 ⟨Nat.le_of_ble_eq_true rfl, Nat.le_of_ble_eq_true rfl⟩ ⟨Nat.le_of_ble_eq_true rfl, Nat.le_of_ble_eq_true rfl⟩) hM (fun r2 n3 f1 H locs hp hM => ?_)
    obtain ⟨rfl, rfl, ef1⟩ : r2 = 0 ∧ n3 = 220 ∧ f1 = f := hp
    refine lv_if_ne (tgt := 13) hx hb dX13_pays_7 (by decide) (fun h => absurd (by decide) h) (fun _ => ?_)
    refine lv_bipush (v := (-2)) hx hb dX13_pays_10 (by decide) ?_
    exact m_iret C hr hlk hM (by unfold p_pays; rw [if_neg (by revert q1; simp only [Int32.lt_iff_toInt_lt, Int32.le_iff_toInt_le, m_lits]; omega)]) dX13_pays_12
  by_cases q4 : 1 < a0
  · refine lv_iload_n hx hb dX13_pays_0 rfl (lv_at hl 1 rfl) ?_
    refine lv_i2l hx hb dX13_pays_1 rfl ?_
    refine lv_lconst (v := 0) hx hb dX13_pays_2 (by decide) ?_
    refine lv_lconst (v := 1) hx hb dX13_pays_3 (by decide) ?_
    refine m_goi (m_runS calS_X13_in wd_1221 (k_in0 l D kc b 220 f a0.toInt64 0 1 (by revert q1 q4; rw [m_inI (a := 0) (b := 1) (by decide) (by decide)]; simp only [Int32.lt_iff_toInt_lt, Int32.le_iff_toInt_le, m_lits]; omega)) C hM hl.1 rfl rfl (Nat.le_of_ble_eq_true rfl) dX13_pays_4 ⟨Nat.le_of_ble_eq_true rfl, Nat.le_of_ble_eq_true rfl⟩ ⟨Nat.le_of_ble_eq_true rfl, Nat.le_of_ble_eq_true rfl⟩) hM (fun r5 n6 f1 H locs hp hM => ?_)
    obtain ⟨rfl, rfl, ef1⟩ : r5 = 0 ∧ n6 = 220 ∧ f1 = f := hp
    refine lv_if_ne (tgt := 13) hx hb dX13_pays_7 (by decide) (fun h => absurd (by decide) h) (fun _ => ?_)
    refine lv_bipush (v := (-2)) hx hb dX13_pays_10 (by decide) ?_
    exact m_iret C hr hlk hM (by unfold p_pays; rw [if_neg (by revert q1 q4; simp only [Int32.lt_iff_toInt_lt, Int32.le_iff_toInt_le, m_lits]; omega)]) dX13_pays_12
  by_cases s7 : a0 = 0
  · subst s7
    refine lv_iload_n hx hb dX13_pays_0 rfl (lv_at hl 1 rfl) ?_
    refine lv_i2l (v := 0) hx hb dX13_pays_1 (by decide) ?_
    refine lv_lconst (v := 0) hx hb dX13_pays_2 (by decide) ?_
    refine lv_lconst (v := 1) hx hb dX13_pays_3 (by decide) ?_
    refine m_goi (m_runS calS_X13_in wd_1221 (a_X13_in_4 l D kc b f) C hM hl.1 rfl rfl (Nat.le_of_ble_eq_true rfl) dX13_pays_4 ⟨Nat.le_of_ble_eq_true rfl, Nat.le_of_ble_eq_true rfl⟩ ⟨Nat.le_of_ble_eq_true rfl, Nat.le_of_ble_eq_true rfl⟩) hM (fun r8 n9 f1 H locs hp hM => ?_)
    have hp : r8 = 1 ∧ n9 = 220 ∧ f1 = f := hp
    obtain ⟨rfl, rfl, ef1⟩ := hp
    refine lv_if_ne (tgt := 13) hx hb dX13_pays_7 (by decide) (fun _ => ?_) (fun h => absurd h (by decide))
    refine lv_aload_n hx hb dX13_pays_13 rfl (lv_at hl 0 rfl) ?_
    have h192_1 : f1 192 = .inr (13, [.ref (b + 193), .ref (b + 194), .ref (b + 195), .int 0, .int 0, .int 0, .ref (b + 196), .ref (b + 197), .int 0, .int 0, .int 0, .int 0, .int 0, .int 0, .int 0, .int (-1), .ref (b + 198), .ref (b + 199), .ref (b + 200), .ref (b + 201), .ref (b + 202), .ref (b + 203), .ref (b + 204), .ref (b + 205), .ref (b + 206), .ref (b + 207), .ref (b + 208), .int 0, .ref (b + 209), .ref (b + 210), .ref (b + 211), .ref (b + 212), .ref (b + 213), .ref (b + 214), .ref (b + 215), .int 0, .int 0, .int 0, .int 0, .ref (b + 216), .ref (b + 217), .ref (b + 218), .ref (b + 219)]) := m_sm ef1 h192
    refine m_gov (m_runV calV_X13_judge wd_1352 (a_X13_judge_0 l D kc b f1 h192_1) C hM (by decide) h192_1 rfl hl.1 rfl rfl (Nat.le_of_ble_eq_true rfl) dX13_pays_14 ⟨Nat.le_of_ble_eq_true rfl, Nat.le_of_ble_eq_true rfl⟩ ⟨Nat.le_of_ble_eq_true rfl, Nat.le_of_ble_eq_true rfl⟩) hM (fun n11 f2 H locs hp hM => ?_)
    have hp : n11 = 220 ∧ f2 = f1 := hp
    obtain ⟨rfl, ef2⟩ := hp
    refine lv_iconst (v := 0) hx hb dX13_pays_17 (by decide) ?_
    refine lv_istore_n (lv' := [(2, .int 0), (0, .ref (b + 192)), (1, .int 0)]) hx hb dX13_pays_18 rfl hl (by decide) rfl (fun ls hl => ?_)
    refine lv_iconst (v := 0) hx hb dX13_pays_19 (by decide) ?_
    refine lv_istore_n (lv' := [(3, .int 0), (2, .int 0), (0, .ref (b + 192)), (1, .int 0)]) hx hb dX13_pays_20 rfl hl (by decide) rfl (fun ls hl => ?_)
    refine lv_iload_n hx hb dX13_pays_21 rfl (lv_at hl 0 rfl) ?_
    refine lv_aload_n hx hb dX13_pays_22 rfl (lv_at hl 2 rfl) ?_
    have h192_2 : f2 192 = .inr (13, [.ref (b + 193), .ref (b + 194), .ref (b + 195), .int 0, .int 0, .int 0, .ref (b + 196), .ref (b + 197), .int 0, .int 0, .int 0, .int 0, .int 0, .int 0, .int 0, .int (-1), .ref (b + 198), .ref (b + 199), .ref (b + 200), .ref (b + 201), .ref (b + 202), .ref (b + 203), .ref (b + 204), .ref (b + 205), .ref (b + 206), .ref (b + 207), .ref (b + 208), .int 0, .ref (b + 209), .ref (b + 210), .ref (b + 211), .ref (b + 212), .ref (b + 213), .ref (b + 214), .ref (b + 215), .int 0, .int 0, .int 0, .int 0, .ref (b + 216), .ref (b + 217), .ref (b + 218), .ref (b + 219)]) := m_sm ef2 h192_1
    refine m_get fl_X13_153_X13 C hM (i := 192) (by decide) h192_2 (v := .int 0) rfl dX13_pays_23 ?_
    refine lv_icmp_ge (tgt := 99) hx hb dX13_pays_26 (by decide) (fun _ => ?_) (fun h => absurd (by decide) h)
    refine lv_iload_n hx hb dX13_pays_99 rfl (lv_at hl 1 rfl) ?_
    exact m_iret C hr hlk hM (by decide) dX13_pays_100
  by_cases s12 : a0 = 1
  · subst s12
    refine lv_iload_n hx hb dX13_pays_0 rfl (lv_at hl 1 rfl) ?_
    refine lv_i2l (v := 1) hx hb dX13_pays_1 (by decide) ?_
    refine lv_lconst (v := 0) hx hb dX13_pays_2 (by decide) ?_
    refine lv_lconst (v := 1) hx hb dX13_pays_3 (by decide) ?_
    refine m_goi (m_runS calS_X13_in wd_1221 (a_X13_in_5 l D kc b f) C hM hl.1 rfl rfl (Nat.le_of_ble_eq_true rfl) dX13_pays_4 ⟨Nat.le_of_ble_eq_true rfl, Nat.le_of_ble_eq_true rfl⟩ ⟨Nat.le_of_ble_eq_true rfl, Nat.le_of_ble_eq_true rfl⟩) hM (fun r13 n14 f1 H locs hp hM => ?_)
    have hp : r13 = 1 ∧ n14 = 220 ∧ f1 = f := hp
    obtain ⟨rfl, rfl, ef1⟩ := hp
    refine lv_if_ne (tgt := 13) hx hb dX13_pays_7 (by decide) (fun _ => ?_) (fun h => absurd h (by decide))
    refine lv_aload_n hx hb dX13_pays_13 rfl (lv_at hl 0 rfl) ?_
    have h192_1 : f1 192 = .inr (13, [.ref (b + 193), .ref (b + 194), .ref (b + 195), .int 0, .int 0, .int 0, .ref (b + 196), .ref (b + 197), .int 0, .int 0, .int 0, .int 0, .int 0, .int 0, .int 0, .int (-1), .ref (b + 198), .ref (b + 199), .ref (b + 200), .ref (b + 201), .ref (b + 202), .ref (b + 203), .ref (b + 204), .ref (b + 205), .ref (b + 206), .ref (b + 207), .ref (b + 208), .int 0, .ref (b + 209), .ref (b + 210), .ref (b + 211), .ref (b + 212), .ref (b + 213), .ref (b + 214), .ref (b + 215), .int 0, .int 0, .int 0, .int 0, .ref (b + 216), .ref (b + 217), .ref (b + 218), .ref (b + 219)]) := m_sm ef1 h192
    refine m_gov (m_runV calV_X13_judge wd_1352 (a_X13_judge_0 l D kc b f1 h192_1) C hM (by decide) h192_1 rfl hl.1 rfl rfl (Nat.le_of_ble_eq_true rfl) dX13_pays_14 ⟨Nat.le_of_ble_eq_true rfl, Nat.le_of_ble_eq_true rfl⟩ ⟨Nat.le_of_ble_eq_true rfl, Nat.le_of_ble_eq_true rfl⟩) hM (fun n16 f2 H locs hp hM => ?_)
    have hp : n16 = 220 ∧ f2 = f1 := hp
    obtain ⟨rfl, ef2⟩ := hp
    refine lv_iconst (v := 0) hx hb dX13_pays_17 (by decide) ?_
    refine lv_istore_n (lv' := [(2, .int 0), (0, .ref (b + 192)), (1, .int 1)]) hx hb dX13_pays_18 rfl hl (by decide) rfl (fun ls hl => ?_)
    refine lv_iconst (v := 0) hx hb dX13_pays_19 (by decide) ?_
    refine lv_istore_n (lv' := [(3, .int 0), (2, .int 0), (0, .ref (b + 192)), (1, .int 1)]) hx hb dX13_pays_20 rfl hl (by decide) rfl (fun ls hl => ?_)
    refine lv_iload_n hx hb dX13_pays_21 rfl (lv_at hl 0 rfl) ?_
    refine lv_aload_n hx hb dX13_pays_22 rfl (lv_at hl 2 rfl) ?_
    have h192_2 : f2 192 = .inr (13, [.ref (b + 193), .ref (b + 194), .ref (b + 195), .int 0, .int 0, .int 0, .ref (b + 196), .ref (b + 197), .int 0, .int 0, .int 0, .int 0, .int 0, .int 0, .int 0, .int (-1), .ref (b + 198), .ref (b + 199), .ref (b + 200), .ref (b + 201), .ref (b + 202), .ref (b + 203), .ref (b + 204), .ref (b + 205), .ref (b + 206), .ref (b + 207), .ref (b + 208), .int 0, .ref (b + 209), .ref (b + 210), .ref (b + 211), .ref (b + 212), .ref (b + 213), .ref (b + 214), .ref (b + 215), .int 0, .int 0, .int 0, .int 0, .ref (b + 216), .ref (b + 217), .ref (b + 218), .ref (b + 219)]) := m_sm ef2 h192_1
    refine m_get fl_X13_153_X13 C hM (i := 192) (by decide) h192_2 (v := .int 0) rfl dX13_pays_23 ?_
    refine lv_icmp_ge (tgt := 99) hx hb dX13_pays_26 (by decide) (fun _ => ?_) (fun h => absurd (by decide) h)
    refine lv_iload_n hx hb dX13_pays_99 rfl (lv_at hl 1 rfl) ?_
    exact m_iret C hr hlk hM (by decide) dX13_pays_100
  exfalso; revert q1 q4 s7 s12; simp only [← Int32.toInt_inj, Int32.lt_iff_toInt_lt, Int32.le_iff_toInt_le, m_lits]; omega
set_option maxHeartbeats 4000000 in
set_option maxRecDepth 100000 in
theorem a_X13_in_6 (l : Launch) (D : va_G) (kc : Nat → ClassId) (b : Nat) (f : Nat → va_E) : mMi l yX13_in cX13_in 6 .boolean 1 0 0 D kc b 220 f [.long 3, .long 0, .long 2] (fun r u => r = 0 ∧ u.1 = 220 ∧ u.2 = f) := by
  refine m_start (by decide) (Nat.le_of_ble_eq_true rfl) ?_
  intro p e s m below meth c C hr hlk hnm hM ls hl
  obtain ⟨hx, hb, hml, hown, hts, hE, hbs⟩ := id C
  have hl : lv_has ls 6 [(0, .long 3), (2, .long 0), (4, .long 2)] := hl
  refine lv_lload_n hx hb dX13_in_0 rfl (lv_at hl 0 rfl) ?_
  refine lv_lload_n hx hb dX13_in_1 rfl (lv_at hl 1 rfl) ?_
  refine W.lcmp hx hb dX13_in_2 ?_
  refine m_vi (y := 1) (by decide) ?_
  refine lv_if_lt (tgt := 17) hx hb dX13_in_3 (by decide) (fun h => absurd h (by decide)) (fun _ => ?_)
  refine lv_lload_n hx hb dX13_in_6 rfl (lv_at hl 0 rfl) ?_
  refine lv_lload hx hb dX13_in_7 (lv_at hl 2 rfl) ?_
  refine W.lcmp hx hb dX13_in_9 ?_
  refine m_vi (y := 1) (by decide) ?_
  refine lv_if_gt (tgt := 17) hx hb dX13_in_10 (by decide) (fun _ => ?_) (fun h => absurd (by decide) h)
  refine lv_iconst (v := 0) hx hb dX13_in_17 (by decide) ?_
  exact m_zret C hr hlk hM rfl (⟨rfl, rfl, rfl⟩) dX13_in_18
set_option maxHeartbeats 4000000 in
set_option maxRecDepth 100000 in
theorem a_X13_in_7 (l : Launch) (D : va_G) (kc : Nat → ClassId) (b : Nat) (f : Nat → va_E) : mMi l yX13_in cX13_in 6 .boolean 1 0 0 D kc b 220 f [.long 3, .long 10, .long 12] (fun r u => r = 0 ∧ u.1 = 220 ∧ u.2 = f) := by
  refine m_start (by decide) (Nat.le_of_ble_eq_true rfl) ?_
  intro p e s m below meth c C hr hlk hnm hM ls hl
  obtain ⟨hx, hb, hml, hown, hts, hE, hbs⟩ := id C
  have hl : lv_has ls 6 [(0, .long 3), (2, .long 10), (4, .long 12)] := hl
  refine lv_lload_n hx hb dX13_in_0 rfl (lv_at hl 0 rfl) ?_
  refine lv_lload_n hx hb dX13_in_1 rfl (lv_at hl 1 rfl) ?_
  refine W.lcmp hx hb dX13_in_2 ?_
  refine m_vi (y := (-1)) (by decide) ?_
  refine lv_if_lt (tgt := 17) hx hb dX13_in_3 (by decide) (fun _ => ?_) (fun h => absurd (by decide) h)
  refine lv_iconst (v := 0) hx hb dX13_in_17 (by decide) ?_
  exact m_zret C hr hlk hM rfl (⟨rfl, rfl, rfl⟩) dX13_in_18
set_option maxHeartbeats 4000000 in
set_option maxRecDepth 100000 in
theorem a_X13_in_8 (l : Launch) (D : va_G) (kc : Nat → ClassId) (b : Nat) (f : Nat → va_E) : mMi l yX13_in cX13_in 6 .boolean 1 0 0 D kc b 220 f [.long 4, .long 0, .long 2] (fun r u => r = 0 ∧ u.1 = 220 ∧ u.2 = f) := by
  refine m_start (by decide) (Nat.le_of_ble_eq_true rfl) ?_
  intro p e s m below meth c C hr hlk hnm hM ls hl
  obtain ⟨hx, hb, hml, hown, hts, hE, hbs⟩ := id C
  have hl : lv_has ls 6 [(0, .long 4), (2, .long 0), (4, .long 2)] := hl
  refine lv_lload_n hx hb dX13_in_0 rfl (lv_at hl 0 rfl) ?_
  refine lv_lload_n hx hb dX13_in_1 rfl (lv_at hl 1 rfl) ?_
  refine W.lcmp hx hb dX13_in_2 ?_
  refine m_vi (y := 1) (by decide) ?_
  refine lv_if_lt (tgt := 17) hx hb dX13_in_3 (by decide) (fun h => absurd h (by decide)) (fun _ => ?_)
  refine lv_lload_n hx hb dX13_in_6 rfl (lv_at hl 0 rfl) ?_
  refine lv_lload hx hb dX13_in_7 (lv_at hl 2 rfl) ?_
  refine W.lcmp hx hb dX13_in_9 ?_
  refine m_vi (y := 1) (by decide) ?_
  refine lv_if_gt (tgt := 17) hx hb dX13_in_10 (by decide) (fun _ => ?_) (fun h => absurd (by decide) h)
  refine lv_iconst (v := 0) hx hb dX13_in_17 (by decide) ?_
  exact m_zret C hr hlk hM rfl (⟨rfl, rfl, rfl⟩) dX13_in_18
set_option maxHeartbeats 4000000 in
set_option maxRecDepth 100000 in
theorem a_X13_in_9 (l : Launch) (D : va_G) (kc : Nat → ClassId) (b : Nat) (f : Nat → va_E) : mMi l yX13_in cX13_in 6 .boolean 1 0 0 D kc b 220 f [.long 4, .long 10, .long 12] (fun r u => r = 0 ∧ u.1 = 220 ∧ u.2 = f) := by
  refine m_start (by decide) (Nat.le_of_ble_eq_true rfl) ?_
  intro p e s m below meth c C hr hlk hnm hM ls hl
  obtain ⟨hx, hb, hml, hown, hts, hE, hbs⟩ := id C
  have hl : lv_has ls 6 [(0, .long 4), (2, .long 10), (4, .long 12)] := hl
  refine lv_lload_n hx hb dX13_in_0 rfl (lv_at hl 0 rfl) ?_
  refine lv_lload_n hx hb dX13_in_1 rfl (lv_at hl 1 rfl) ?_
  refine W.lcmp hx hb dX13_in_2 ?_
  refine m_vi (y := (-1)) (by decide) ?_
  refine lv_if_lt (tgt := 17) hx hb dX13_in_3 (by decide) (fun _ => ?_) (fun h => absurd (by decide) h)
  refine lv_iconst (v := 0) hx hb dX13_in_17 (by decide) ?_
  exact m_zret C hr hlk hM rfl (⟨rfl, rfl, rfl⟩) dX13_in_18
set_option maxHeartbeats 4000000 in
set_option maxRecDepth 100000 in
theorem a_X13_in_10 (l : Launch) (D : va_G) (kc : Nat → ClassId) (b : Nat) (f : Nat → va_E) : mMi l yX13_in cX13_in 6 .boolean 1 0 0 D kc b 220 f [.long 4, .long 4, .long 8] (fun r u => r = 1 ∧ u.1 = 220 ∧ u.2 = f) := by
  refine m_start (by decide) (Nat.le_of_ble_eq_true rfl) ?_
  intro p e s m below meth c C hr hlk hnm hM ls hl
  obtain ⟨hx, hb, hml, hown, hts, hE, hbs⟩ := id C
  have hl : lv_has ls 6 [(0, .long 4), (2, .long 4), (4, .long 8)] := hl
  refine lv_lload_n hx hb dX13_in_0 rfl (lv_at hl 0 rfl) ?_
  refine lv_lload_n hx hb dX13_in_1 rfl (lv_at hl 1 rfl) ?_
  refine W.lcmp hx hb dX13_in_2 ?_
  refine m_vi (y := 0) (by decide) ?_
  refine lv_if_lt (tgt := 17) hx hb dX13_in_3 (by decide) (fun h => absurd h (by decide)) (fun _ => ?_)
  refine lv_lload_n hx hb dX13_in_6 rfl (lv_at hl 0 rfl) ?_
  refine lv_lload hx hb dX13_in_7 (lv_at hl 2 rfl) ?_
  refine W.lcmp hx hb dX13_in_9 ?_
  refine m_vi (y := (-1)) (by decide) ?_
  refine lv_if_gt (tgt := 17) hx hb dX13_in_10 (by decide) (fun h => absurd h (by decide)) (fun _ => ?_)
  refine lv_iconst (v := 1) hx hb dX13_in_13 (by decide) ?_
  refine lv_goto (tgt := 18) hx hb dX13_in_14 (by decide) ?_
  exact m_zret C hr hlk hM rfl (⟨rfl, rfl, rfl⟩) dX13_in_18
set_option maxHeartbeats 4000000 in
set_option maxRecDepth 100000 in
theorem a_X13_in_11 (l : Launch) (D : va_G) (kc : Nat → ClassId) (b : Nat) (f : Nat → va_E) : mMi l yX13_in cX13_in 6 .boolean 1 0 0 D kc b 220 f [.long 5, .long 0, .long 2] (fun r u => r = 0 ∧ u.1 = 220 ∧ u.2 = f) := by
  refine m_start (by decide) (Nat.le_of_ble_eq_true rfl) ?_
  intro p e s m below meth c C hr hlk hnm hM ls hl
  obtain ⟨hx, hb, hml, hown, hts, hE, hbs⟩ := id C
  have hl : lv_has ls 6 [(0, .long 5), (2, .long 0), (4, .long 2)] := hl
  refine lv_lload_n hx hb dX13_in_0 rfl (lv_at hl 0 rfl) ?_
  refine lv_lload_n hx hb dX13_in_1 rfl (lv_at hl 1 rfl) ?_
  refine W.lcmp hx hb dX13_in_2 ?_
  refine m_vi (y := 1) (by decide) ?_
  refine lv_if_lt (tgt := 17) hx hb dX13_in_3 (by decide) (fun h => absurd h (by decide)) (fun _ => ?_)
  refine lv_lload_n hx hb dX13_in_6 rfl (lv_at hl 0 rfl) ?_
  refine lv_lload hx hb dX13_in_7 (lv_at hl 2 rfl) ?_
  refine W.lcmp hx hb dX13_in_9 ?_
  refine m_vi (y := 1) (by decide) ?_
  refine lv_if_gt (tgt := 17) hx hb dX13_in_10 (by decide) (fun _ => ?_) (fun h => absurd (by decide) h)
  refine lv_iconst (v := 0) hx hb dX13_in_17 (by decide) ?_
  exact m_zret C hr hlk hM rfl (⟨rfl, rfl, rfl⟩) dX13_in_18
set_option maxHeartbeats 4000000 in
set_option maxRecDepth 100000 in
theorem a_X13_in_12 (l : Launch) (D : va_G) (kc : Nat → ClassId) (b : Nat) (f : Nat → va_E) : mMi l yX13_in cX13_in 6 .boolean 1 0 0 D kc b 220 f [.long 5, .long 10, .long 12] (fun r u => r = 0 ∧ u.1 = 220 ∧ u.2 = f) := by
  refine m_start (by decide) (Nat.le_of_ble_eq_true rfl) ?_
  intro p e s m below meth c C hr hlk hnm hM ls hl
  obtain ⟨hx, hb, hml, hown, hts, hE, hbs⟩ := id C
  have hl : lv_has ls 6 [(0, .long 5), (2, .long 10), (4, .long 12)] := hl
  refine lv_lload_n hx hb dX13_in_0 rfl (lv_at hl 0 rfl) ?_
  refine lv_lload_n hx hb dX13_in_1 rfl (lv_at hl 1 rfl) ?_
  refine W.lcmp hx hb dX13_in_2 ?_
  refine m_vi (y := (-1)) (by decide) ?_
  refine lv_if_lt (tgt := 17) hx hb dX13_in_3 (by decide) (fun _ => ?_) (fun h => absurd (by decide) h)
  refine lv_iconst (v := 0) hx hb dX13_in_17 (by decide) ?_
  exact m_zret C hr hlk hM rfl (⟨rfl, rfl, rfl⟩) dX13_in_18
set_option maxHeartbeats 4000000 in
set_option maxRecDepth 100000 in
theorem a_X13_in_13 (l : Launch) (D : va_G) (kc : Nat → ClassId) (b : Nat) (f : Nat → va_E) : mMi l yX13_in cX13_in 6 .boolean 1 0 0 D kc b 220 f [.long 5, .long 4, .long 8] (fun r u => r = 1 ∧ u.1 = 220 ∧ u.2 = f) := by
  refine m_start (by decide) (Nat.le_of_ble_eq_true rfl) ?_
  intro p e s m below meth c C hr hlk hnm hM ls hl
  obtain ⟨hx, hb, hml, hown, hts, hE, hbs⟩ := id C
  have hl : lv_has ls 6 [(0, .long 5), (2, .long 4), (4, .long 8)] := hl
  refine lv_lload_n hx hb dX13_in_0 rfl (lv_at hl 0 rfl) ?_
  refine lv_lload_n hx hb dX13_in_1 rfl (lv_at hl 1 rfl) ?_
  refine W.lcmp hx hb dX13_in_2 ?_
  refine m_vi (y := 1) (by decide) ?_
  refine lv_if_lt (tgt := 17) hx hb dX13_in_3 (by decide) (fun h => absurd h (by decide)) (fun _ => ?_)
  refine lv_lload_n hx hb dX13_in_6 rfl (lv_at hl 0 rfl) ?_
  refine lv_lload hx hb dX13_in_7 (lv_at hl 2 rfl) ?_
  refine W.lcmp hx hb dX13_in_9 ?_
  refine m_vi (y := (-1)) (by decide) ?_
  refine lv_if_gt (tgt := 17) hx hb dX13_in_10 (by decide) (fun h => absurd h (by decide)) (fun _ => ?_)
  refine lv_iconst (v := 1) hx hb dX13_in_13 (by decide) ?_
  refine lv_goto (tgt := 18) hx hb dX13_in_14 (by decide) ?_
  exact m_zret C hr hlk hM rfl (⟨rfl, rfl, rfl⟩) dX13_in_18
set_option maxHeartbeats 4000000 in
set_option maxRecDepth 100000 in
theorem a_X13_in_14 (l : Launch) (D : va_G) (kc : Nat → ClassId) (b : Nat) (f : Nat → va_E) : mMi l yX13_in cX13_in 6 .boolean 1 0 0 D kc b 220 f [.long 6, .long 0, .long 2] (fun r u => r = 0 ∧ u.1 = 220 ∧ u.2 = f) := by
  refine m_start (by decide) (Nat.le_of_ble_eq_true rfl) ?_
  intro p e s m below meth c C hr hlk hnm hM ls hl
  obtain ⟨hx, hb, hml, hown, hts, hE, hbs⟩ := id C
  have hl : lv_has ls 6 [(0, .long 6), (2, .long 0), (4, .long 2)] := hl
  refine lv_lload_n hx hb dX13_in_0 rfl (lv_at hl 0 rfl) ?_
  refine lv_lload_n hx hb dX13_in_1 rfl (lv_at hl 1 rfl) ?_
  refine W.lcmp hx hb dX13_in_2 ?_
  refine m_vi (y := 1) (by decide) ?_
  refine lv_if_lt (tgt := 17) hx hb dX13_in_3 (by decide) (fun h => absurd h (by decide)) (fun _ => ?_)
  refine lv_lload_n hx hb dX13_in_6 rfl (lv_at hl 0 rfl) ?_
  refine lv_lload hx hb dX13_in_7 (lv_at hl 2 rfl) ?_
  refine W.lcmp hx hb dX13_in_9 ?_
  refine m_vi (y := 1) (by decide) ?_
  refine lv_if_gt (tgt := 17) hx hb dX13_in_10 (by decide) (fun _ => ?_) (fun h => absurd (by decide) h)
  refine lv_iconst (v := 0) hx hb dX13_in_17 (by decide) ?_
  exact m_zret C hr hlk hM rfl (⟨rfl, rfl, rfl⟩) dX13_in_18
set_option maxHeartbeats 4000000 in
set_option maxRecDepth 100000 in
theorem a_X13_in_15 (l : Launch) (D : va_G) (kc : Nat → ClassId) (b : Nat) (f : Nat → va_E) : mMi l yX13_in cX13_in 6 .boolean 1 0 0 D kc b 220 f [.long 6, .long 10, .long 12] (fun r u => r = 0 ∧ u.1 = 220 ∧ u.2 = f) := by
  refine m_start (by decide) (Nat.le_of_ble_eq_true rfl) ?_
  intro p e s m below meth c C hr hlk hnm hM ls hl
  obtain ⟨hx, hb, hml, hown, hts, hE, hbs⟩ := id C
  have hl : lv_has ls 6 [(0, .long 6), (2, .long 10), (4, .long 12)] := hl
  refine lv_lload_n hx hb dX13_in_0 rfl (lv_at hl 0 rfl) ?_
  refine lv_lload_n hx hb dX13_in_1 rfl (lv_at hl 1 rfl) ?_
  refine W.lcmp hx hb dX13_in_2 ?_
  refine m_vi (y := (-1)) (by decide) ?_
  refine lv_if_lt (tgt := 17) hx hb dX13_in_3 (by decide) (fun _ => ?_) (fun h => absurd (by decide) h)
  refine lv_iconst (v := 0) hx hb dX13_in_17 (by decide) ?_
  exact m_zret C hr hlk hM rfl (⟨rfl, rfl, rfl⟩) dX13_in_18
set_option maxHeartbeats 4000000 in
set_option maxRecDepth 100000 in
theorem a_X13_in_16 (l : Launch) (D : va_G) (kc : Nat → ClassId) (b : Nat) (f : Nat → va_E) : mMi l yX13_in cX13_in 6 .boolean 1 0 0 D kc b 220 f [.long 6, .long 4, .long 8] (fun r u => r = 1 ∧ u.1 = 220 ∧ u.2 = f) := by
  refine m_start (by decide) (Nat.le_of_ble_eq_true rfl) ?_
  intro p e s m below meth c C hr hlk hnm hM ls hl
  obtain ⟨hx, hb, hml, hown, hts, hE, hbs⟩ := id C
  have hl : lv_has ls 6 [(0, .long 6), (2, .long 4), (4, .long 8)] := hl
  refine lv_lload_n hx hb dX13_in_0 rfl (lv_at hl 0 rfl) ?_
  refine lv_lload_n hx hb dX13_in_1 rfl (lv_at hl 1 rfl) ?_
  refine W.lcmp hx hb dX13_in_2 ?_
  refine m_vi (y := 1) (by decide) ?_
  refine lv_if_lt (tgt := 17) hx hb dX13_in_3 (by decide) (fun h => absurd h (by decide)) (fun _ => ?_)
  refine lv_lload_n hx hb dX13_in_6 rfl (lv_at hl 0 rfl) ?_
  refine lv_lload hx hb dX13_in_7 (lv_at hl 2 rfl) ?_
  refine W.lcmp hx hb dX13_in_9 ?_
  refine m_vi (y := (-1)) (by decide) ?_
  refine lv_if_gt (tgt := 17) hx hb dX13_in_10 (by decide) (fun h => absurd h (by decide)) (fun _ => ?_)
  refine lv_iconst (v := 1) hx hb dX13_in_13 (by decide) ?_
  refine lv_goto (tgt := 18) hx hb dX13_in_14 (by decide) ?_
  exact m_zret C hr hlk hM rfl (⟨rfl, rfl, rfl⟩) dX13_in_18
set_option maxHeartbeats 4000000 in
set_option maxRecDepth 100000 in
theorem a_X13_in_17 (l : Launch) (D : va_G) (kc : Nat → ClassId) (b : Nat) (f : Nat → va_E) : mMi l yX13_in cX13_in 6 .boolean 1 0 0 D kc b 220 f [.long 7, .long 0, .long 2] (fun r u => r = 0 ∧ u.1 = 220 ∧ u.2 = f) := by
  refine m_start (by decide) (Nat.le_of_ble_eq_true rfl) ?_
  intro p e s m below meth c C hr hlk hnm hM ls hl
  obtain ⟨hx, hb, hml, hown, hts, hE, hbs⟩ := id C
  have hl : lv_has ls 6 [(0, .long 7), (2, .long 0), (4, .long 2)] := hl
  refine lv_lload_n hx hb dX13_in_0 rfl (lv_at hl 0 rfl) ?_
  refine lv_lload_n hx hb dX13_in_1 rfl (lv_at hl 1 rfl) ?_
  refine W.lcmp hx hb dX13_in_2 ?_
  refine m_vi (y := 1) (by decide) ?_
  refine lv_if_lt (tgt := 17) hx hb dX13_in_3 (by decide) (fun h => absurd h (by decide)) (fun _ => ?_)
  refine lv_lload_n hx hb dX13_in_6 rfl (lv_at hl 0 rfl) ?_
  refine lv_lload hx hb dX13_in_7 (lv_at hl 2 rfl) ?_
  refine W.lcmp hx hb dX13_in_9 ?_
  refine m_vi (y := 1) (by decide) ?_
  refine lv_if_gt (tgt := 17) hx hb dX13_in_10 (by decide) (fun _ => ?_) (fun h => absurd (by decide) h)
  refine lv_iconst (v := 0) hx hb dX13_in_17 (by decide) ?_
  exact m_zret C hr hlk hM rfl (⟨rfl, rfl, rfl⟩) dX13_in_18
set_option maxHeartbeats 4000000 in
set_option maxRecDepth 100000 in
theorem a_X13_in_18 (l : Launch) (D : va_G) (kc : Nat → ClassId) (b : Nat) (f : Nat → va_E) : mMi l yX13_in cX13_in 6 .boolean 1 0 0 D kc b 220 f [.long 7, .long 10, .long 12] (fun r u => r = 0 ∧ u.1 = 220 ∧ u.2 = f) := by
  refine m_start (by decide) (Nat.le_of_ble_eq_true rfl) ?_
  intro p e s m below meth c C hr hlk hnm hM ls hl
  obtain ⟨hx, hb, hml, hown, hts, hE, hbs⟩ := id C
  have hl : lv_has ls 6 [(0, .long 7), (2, .long 10), (4, .long 12)] := hl
  refine lv_lload_n hx hb dX13_in_0 rfl (lv_at hl 0 rfl) ?_
  refine lv_lload_n hx hb dX13_in_1 rfl (lv_at hl 1 rfl) ?_
  refine W.lcmp hx hb dX13_in_2 ?_
  refine m_vi (y := (-1)) (by decide) ?_
  refine lv_if_lt (tgt := 17) hx hb dX13_in_3 (by decide) (fun _ => ?_) (fun h => absurd (by decide) h)
  refine lv_iconst (v := 0) hx hb dX13_in_17 (by decide) ?_
  exact m_zret C hr hlk hM rfl (⟨rfl, rfl, rfl⟩) dX13_in_18
set_option maxHeartbeats 4000000 in
set_option maxRecDepth 100000 in
theorem a_X13_in_19 (l : Launch) (D : va_G) (kc : Nat → ClassId) (b : Nat) (f : Nat → va_E) : mMi l yX13_in cX13_in 6 .boolean 1 0 0 D kc b 220 f [.long 7, .long 4, .long 8] (fun r u => r = 1 ∧ u.1 = 220 ∧ u.2 = f) := by
  refine m_start (by decide) (Nat.le_of_ble_eq_true rfl) ?_
  intro p e s m below meth c C hr hlk hnm hM ls hl
  obtain ⟨hx, hb, hml, hown, hts, hE, hbs⟩ := id C
  have hl : lv_has ls 6 [(0, .long 7), (2, .long 4), (4, .long 8)] := hl
  refine lv_lload_n hx hb dX13_in_0 rfl (lv_at hl 0 rfl) ?_
  refine lv_lload_n hx hb dX13_in_1 rfl (lv_at hl 1 rfl) ?_
  refine W.lcmp hx hb dX13_in_2 ?_
  refine m_vi (y := 1) (by decide) ?_
  refine lv_if_lt (tgt := 17) hx hb dX13_in_3 (by decide) (fun h => absurd h (by decide)) (fun _ => ?_)
  refine lv_lload_n hx hb dX13_in_6 rfl (lv_at hl 0 rfl) ?_
  refine lv_lload hx hb dX13_in_7 (lv_at hl 2 rfl) ?_
  refine W.lcmp hx hb dX13_in_9 ?_
  refine m_vi (y := (-1)) (by decide) ?_
  refine lv_if_gt (tgt := 17) hx hb dX13_in_10 (by decide) (fun h => absurd h (by decide)) (fun _ => ?_)
  refine lv_iconst (v := 1) hx hb dX13_in_13 (by decide) ?_
  refine lv_goto (tgt := 18) hx hb dX13_in_14 (by decide) ?_
  exact m_zret C hr hlk hM rfl (⟨rfl, rfl, rfl⟩) dX13_in_18
set_option maxHeartbeats 4000000 in
set_option maxRecDepth 100000 in
theorem a_X13_in_20 (l : Launch) (D : va_G) (kc : Nat → ClassId) (b : Nat) (f : Nat → va_E) : mMi l yX13_in cX13_in 6 .boolean 1 0 0 D kc b 220 f [.long 8, .long 0, .long 2] (fun r u => r = 0 ∧ u.1 = 220 ∧ u.2 = f) := by
  refine m_start (by decide) (Nat.le_of_ble_eq_true rfl) ?_
  intro p e s m below meth c C hr hlk hnm hM ls hl
  obtain ⟨hx, hb, hml, hown, hts, hE, hbs⟩ := id C
  have hl : lv_has ls 6 [(0, .long 8), (2, .long 0), (4, .long 2)] := hl
  refine lv_lload_n hx hb dX13_in_0 rfl (lv_at hl 0 rfl) ?_
  refine lv_lload_n hx hb dX13_in_1 rfl (lv_at hl 1 rfl) ?_
  refine W.lcmp hx hb dX13_in_2 ?_
  refine m_vi (y := 1) (by decide) ?_
  refine lv_if_lt (tgt := 17) hx hb dX13_in_3 (by decide) (fun h => absurd h (by decide)) (fun _ => ?_)
  refine lv_lload_n hx hb dX13_in_6 rfl (lv_at hl 0 rfl) ?_
  refine lv_lload hx hb dX13_in_7 (lv_at hl 2 rfl) ?_
  refine W.lcmp hx hb dX13_in_9 ?_
  refine m_vi (y := 1) (by decide) ?_
  refine lv_if_gt (tgt := 17) hx hb dX13_in_10 (by decide) (fun _ => ?_) (fun h => absurd (by decide) h)
  refine lv_iconst (v := 0) hx hb dX13_in_17 (by decide) ?_
  exact m_zret C hr hlk hM rfl (⟨rfl, rfl, rfl⟩) dX13_in_18
set_option maxHeartbeats 4000000 in
set_option maxRecDepth 100000 in
theorem a_X13_in_21 (l : Launch) (D : va_G) (kc : Nat → ClassId) (b : Nat) (f : Nat → va_E) : mMi l yX13_in cX13_in 6 .boolean 1 0 0 D kc b 220 f [.long 8, .long 10, .long 12] (fun r u => r = 0 ∧ u.1 = 220 ∧ u.2 = f) := by
  refine m_start (by decide) (Nat.le_of_ble_eq_true rfl) ?_
  intro p e s m below meth c C hr hlk hnm hM ls hl
  obtain ⟨hx, hb, hml, hown, hts, hE, hbs⟩ := id C
  have hl : lv_has ls 6 [(0, .long 8), (2, .long 10), (4, .long 12)] := hl
  refine lv_lload_n hx hb dX13_in_0 rfl (lv_at hl 0 rfl) ?_
  refine lv_lload_n hx hb dX13_in_1 rfl (lv_at hl 1 rfl) ?_
  refine W.lcmp hx hb dX13_in_2 ?_
  refine m_vi (y := (-1)) (by decide) ?_
  refine lv_if_lt (tgt := 17) hx hb dX13_in_3 (by decide) (fun _ => ?_) (fun h => absurd (by decide) h)
  refine lv_iconst (v := 0) hx hb dX13_in_17 (by decide) ?_
  exact m_zret C hr hlk hM rfl (⟨rfl, rfl, rfl⟩) dX13_in_18
set_option maxHeartbeats 4000000 in
set_option maxRecDepth 100000 in
theorem a_X13_in_22 (l : Launch) (D : va_G) (kc : Nat → ClassId) (b : Nat) (f : Nat → va_E) : mMi l yX13_in cX13_in 6 .boolean 1 0 0 D kc b 220 f [.long 8, .long 4, .long 8] (fun r u => r = 1 ∧ u.1 = 220 ∧ u.2 = f) := by
  refine m_start (by decide) (Nat.le_of_ble_eq_true rfl) ?_
  intro p e s m below meth c C hr hlk hnm hM ls hl
  obtain ⟨hx, hb, hml, hown, hts, hE, hbs⟩ := id C
  have hl : lv_has ls 6 [(0, .long 8), (2, .long 4), (4, .long 8)] := hl
  refine lv_lload_n hx hb dX13_in_0 rfl (lv_at hl 0 rfl) ?_
  refine lv_lload_n hx hb dX13_in_1 rfl (lv_at hl 1 rfl) ?_
  refine W.lcmp hx hb dX13_in_2 ?_
  refine m_vi (y := 1) (by decide) ?_
  refine lv_if_lt (tgt := 17) hx hb dX13_in_3 (by decide) (fun h => absurd h (by decide)) (fun _ => ?_)
  refine lv_lload_n hx hb dX13_in_6 rfl (lv_at hl 0 rfl) ?_
  refine lv_lload hx hb dX13_in_7 (lv_at hl 2 rfl) ?_
  refine W.lcmp hx hb dX13_in_9 ?_
  refine m_vi (y := 0) (by decide) ?_
  refine lv_if_gt (tgt := 17) hx hb dX13_in_10 (by decide) (fun h => absurd h (by decide)) (fun _ => ?_)
  refine lv_iconst (v := 1) hx hb dX13_in_13 (by decide) ?_
  refine lv_goto (tgt := 18) hx hb dX13_in_14 (by decide) ?_
  exact m_zret C hr hlk hM rfl (⟨rfl, rfl, rfl⟩) dX13_in_18
set_option maxHeartbeats 4000000 in
set_option maxRecDepth 100000 in
theorem a_X13_in_23 (l : Launch) (D : va_G) (kc : Nat → ClassId) (b : Nat) (f : Nat → va_E) : mMi l yX13_in cX13_in 6 .boolean 1 0 0 D kc b 220 f [.long 9, .long 0, .long 2] (fun r u => r = 0 ∧ u.1 = 220 ∧ u.2 = f) := by
  refine m_start (by decide) (Nat.le_of_ble_eq_true rfl) ?_
  intro p e s m below meth c C hr hlk hnm hM ls hl
  obtain ⟨hx, hb, hml, hown, hts, hE, hbs⟩ := id C
  have hl : lv_has ls 6 [(0, .long 9), (2, .long 0), (4, .long 2)] := hl
  refine lv_lload_n hx hb dX13_in_0 rfl (lv_at hl 0 rfl) ?_
  refine lv_lload_n hx hb dX13_in_1 rfl (lv_at hl 1 rfl) ?_
  refine W.lcmp hx hb dX13_in_2 ?_
  refine m_vi (y := 1) (by decide) ?_
  refine lv_if_lt (tgt := 17) hx hb dX13_in_3 (by decide) (fun h => absurd h (by decide)) (fun _ => ?_)
  refine lv_lload_n hx hb dX13_in_6 rfl (lv_at hl 0 rfl) ?_
  refine lv_lload hx hb dX13_in_7 (lv_at hl 2 rfl) ?_
  refine W.lcmp hx hb dX13_in_9 ?_
  refine m_vi (y := 1) (by decide) ?_
  refine lv_if_gt (tgt := 17) hx hb dX13_in_10 (by decide) (fun _ => ?_) (fun h => absurd (by decide) h)
  refine lv_iconst (v := 0) hx hb dX13_in_17 (by decide) ?_
  exact m_zret C hr hlk hM rfl (⟨rfl, rfl, rfl⟩) dX13_in_18
set_option maxHeartbeats 4000000 in
set_option maxRecDepth 100000 in
theorem a_X13_in_24 (l : Launch) (D : va_G) (kc : Nat → ClassId) (b : Nat) (f : Nat → va_E) : mMi l yX13_in cX13_in 6 .boolean 1 0 0 D kc b 220 f [.long 9, .long 10, .long 12] (fun r u => r = 0 ∧ u.1 = 220 ∧ u.2 = f) := by
  refine m_start (by decide) (Nat.le_of_ble_eq_true rfl) ?_
  intro p e s m below meth c C hr hlk hnm hM ls hl
  obtain ⟨hx, hb, hml, hown, hts, hE, hbs⟩ := id C
  have hl : lv_has ls 6 [(0, .long 9), (2, .long 10), (4, .long 12)] := hl
  refine lv_lload_n hx hb dX13_in_0 rfl (lv_at hl 0 rfl) ?_
  refine lv_lload_n hx hb dX13_in_1 rfl (lv_at hl 1 rfl) ?_
  refine W.lcmp hx hb dX13_in_2 ?_
  refine m_vi (y := (-1)) (by decide) ?_
  refine lv_if_lt (tgt := 17) hx hb dX13_in_3 (by decide) (fun _ => ?_) (fun h => absurd (by decide) h)
  refine lv_iconst (v := 0) hx hb dX13_in_17 (by decide) ?_
  exact m_zret C hr hlk hM rfl (⟨rfl, rfl, rfl⟩) dX13_in_18
set_option maxHeartbeats 4000000 in
set_option maxRecDepth 100000 in
theorem a_X13_in_25 (l : Launch) (D : va_G) (kc : Nat → ClassId) (b : Nat) (f : Nat → va_E) : mMi l yX13_in cX13_in 6 .boolean 1 0 0 D kc b 220 f [.long 10, .long 0, .long 2] (fun r u => r = 0 ∧ u.1 = 220 ∧ u.2 = f) := by
  refine m_start (by decide) (Nat.le_of_ble_eq_true rfl) ?_
  intro p e s m below meth c C hr hlk hnm hM ls hl
  obtain ⟨hx, hb, hml, hown, hts, hE, hbs⟩ := id C
  have hl : lv_has ls 6 [(0, .long 10), (2, .long 0), (4, .long 2)] := hl
  refine lv_lload_n hx hb dX13_in_0 rfl (lv_at hl 0 rfl) ?_
  refine lv_lload_n hx hb dX13_in_1 rfl (lv_at hl 1 rfl) ?_
  refine W.lcmp hx hb dX13_in_2 ?_
  refine m_vi (y := 1) (by decide) ?_
  refine lv_if_lt (tgt := 17) hx hb dX13_in_3 (by decide) (fun h => absurd h (by decide)) (fun _ => ?_)
  refine lv_lload_n hx hb dX13_in_6 rfl (lv_at hl 0 rfl) ?_
  refine lv_lload hx hb dX13_in_7 (lv_at hl 2 rfl) ?_
  refine W.lcmp hx hb dX13_in_9 ?_
  refine m_vi (y := 1) (by decide) ?_
  refine lv_if_gt (tgt := 17) hx hb dX13_in_10 (by decide) (fun _ => ?_) (fun h => absurd (by decide) h)
  refine lv_iconst (v := 0) hx hb dX13_in_17 (by decide) ?_
  exact m_zret C hr hlk hM rfl (⟨rfl, rfl, rfl⟩) dX13_in_18
set_option maxHeartbeats 4000000 in
set_option maxRecDepth 100000 in
theorem a_X13_in_26 (l : Launch) (D : va_G) (kc : Nat → ClassId) (b : Nat) (f : Nat → va_E) : mMi l yX13_in cX13_in 6 .boolean 1 0 0 D kc b 220 f [.long 10, .long 10, .long 12] (fun r u => r = 1 ∧ u.1 = 220 ∧ u.2 = f) := by
  refine m_start (by decide) (Nat.le_of_ble_eq_true rfl) ?_
  intro p e s m below meth c C hr hlk hnm hM ls hl
  obtain ⟨hx, hb, hml, hown, hts, hE, hbs⟩ := id C
  have hl : lv_has ls 6 [(0, .long 10), (2, .long 10), (4, .long 12)] := hl
  refine lv_lload_n hx hb dX13_in_0 rfl (lv_at hl 0 rfl) ?_
  refine lv_lload_n hx hb dX13_in_1 rfl (lv_at hl 1 rfl) ?_
  refine W.lcmp hx hb dX13_in_2 ?_
  refine m_vi (y := 0) (by decide) ?_
  refine lv_if_lt (tgt := 17) hx hb dX13_in_3 (by decide) (fun h => absurd h (by decide)) (fun _ => ?_)
  refine lv_lload_n hx hb dX13_in_6 rfl (lv_at hl 0 rfl) ?_
  refine lv_lload hx hb dX13_in_7 (lv_at hl 2 rfl) ?_
  refine W.lcmp hx hb dX13_in_9 ?_
  refine m_vi (y := (-1)) (by decide) ?_
  refine lv_if_gt (tgt := 17) hx hb dX13_in_10 (by decide) (fun h => absurd h (by decide)) (fun _ => ?_)
  refine lv_iconst (v := 1) hx hb dX13_in_13 (by decide) ?_
  refine lv_goto (tgt := 18) hx hb dX13_in_14 (by decide) ?_
  exact m_zret C hr hlk hM rfl (⟨rfl, rfl, rfl⟩) dX13_in_18
set_option maxHeartbeats 4000000 in
set_option maxRecDepth 100000 in
theorem a_X13_in_27 (l : Launch) (D : va_G) (kc : Nat → ClassId) (b : Nat) (f : Nat → va_E) : mMi l yX13_in cX13_in 6 .boolean 1 0 0 D kc b 220 f [.long 11, .long 0, .long 2] (fun r u => r = 0 ∧ u.1 = 220 ∧ u.2 = f) := by
  refine m_start (by decide) (Nat.le_of_ble_eq_true rfl) ?_
  intro p e s m below meth c C hr hlk hnm hM ls hl
  obtain ⟨hx, hb, hml, hown, hts, hE, hbs⟩ := id C
  have hl : lv_has ls 6 [(0, .long 11), (2, .long 0), (4, .long 2)] := hl
  refine lv_lload_n hx hb dX13_in_0 rfl (lv_at hl 0 rfl) ?_
  refine lv_lload_n hx hb dX13_in_1 rfl (lv_at hl 1 rfl) ?_
  refine W.lcmp hx hb dX13_in_2 ?_
  refine m_vi (y := 1) (by decide) ?_
  refine lv_if_lt (tgt := 17) hx hb dX13_in_3 (by decide) (fun h => absurd h (by decide)) (fun _ => ?_)
  refine lv_lload_n hx hb dX13_in_6 rfl (lv_at hl 0 rfl) ?_
  refine lv_lload hx hb dX13_in_7 (lv_at hl 2 rfl) ?_
  refine W.lcmp hx hb dX13_in_9 ?_
  refine m_vi (y := 1) (by decide) ?_
  refine lv_if_gt (tgt := 17) hx hb dX13_in_10 (by decide) (fun _ => ?_) (fun h => absurd (by decide) h)
  refine lv_iconst (v := 0) hx hb dX13_in_17 (by decide) ?_
  exact m_zret C hr hlk hM rfl (⟨rfl, rfl, rfl⟩) dX13_in_18
set_option maxHeartbeats 4000000 in
set_option maxRecDepth 100000 in
theorem a_X13_in_28 (l : Launch) (D : va_G) (kc : Nat → ClassId) (b : Nat) (f : Nat → va_E) : mMi l yX13_in cX13_in 6 .boolean 1 0 0 D kc b 220 f [.long 11, .long 10, .long 12] (fun r u => r = 1 ∧ u.1 = 220 ∧ u.2 = f) := by
  refine m_start (by decide) (Nat.le_of_ble_eq_true rfl) ?_
  intro p e s m below meth c C hr hlk hnm hM ls hl
  obtain ⟨hx, hb, hml, hown, hts, hE, hbs⟩ := id C
  have hl : lv_has ls 6 [(0, .long 11), (2, .long 10), (4, .long 12)] := hl
  refine lv_lload_n hx hb dX13_in_0 rfl (lv_at hl 0 rfl) ?_
  refine lv_lload_n hx hb dX13_in_1 rfl (lv_at hl 1 rfl) ?_
  refine W.lcmp hx hb dX13_in_2 ?_
  refine m_vi (y := 1) (by decide) ?_
  refine lv_if_lt (tgt := 17) hx hb dX13_in_3 (by decide) (fun h => absurd h (by decide)) (fun _ => ?_)
  refine lv_lload_n hx hb dX13_in_6 rfl (lv_at hl 0 rfl) ?_
  refine lv_lload hx hb dX13_in_7 (lv_at hl 2 rfl) ?_
  refine W.lcmp hx hb dX13_in_9 ?_
  refine m_vi (y := (-1)) (by decide) ?_
  refine lv_if_gt (tgt := 17) hx hb dX13_in_10 (by decide) (fun h => absurd h (by decide)) (fun _ => ?_)
  refine lv_iconst (v := 1) hx hb dX13_in_13 (by decide) ?_
  refine lv_goto (tgt := 18) hx hb dX13_in_14 (by decide) ?_
  exact m_zret C hr hlk hM rfl (⟨rfl, rfl, rfl⟩) dX13_in_18
set_option maxHeartbeats 4000000 in
set_option maxRecDepth 100000 in
theorem a_X13_in_29 (l : Launch) (D : va_G) (kc : Nat → ClassId) (b : Nat) (f : Nat → va_E) : mMi l yX13_in cX13_in 6 .boolean 1 0 0 D kc b 220 f [.long 12, .long 0, .long 2] (fun r u => r = 0 ∧ u.1 = 220 ∧ u.2 = f) := by
  refine m_start (by decide) (Nat.le_of_ble_eq_true rfl) ?_
  intro p e s m below meth c C hr hlk hnm hM ls hl
  obtain ⟨hx, hb, hml, hown, hts, hE, hbs⟩ := id C
  have hl : lv_has ls 6 [(0, .long 12), (2, .long 0), (4, .long 2)] := hl
  refine lv_lload_n hx hb dX13_in_0 rfl (lv_at hl 0 rfl) ?_
  refine lv_lload_n hx hb dX13_in_1 rfl (lv_at hl 1 rfl) ?_
  refine W.lcmp hx hb dX13_in_2 ?_
  refine m_vi (y := 1) (by decide) ?_
  refine lv_if_lt (tgt := 17) hx hb dX13_in_3 (by decide) (fun h => absurd h (by decide)) (fun _ => ?_)
  refine lv_lload_n hx hb dX13_in_6 rfl (lv_at hl 0 rfl) ?_
  refine lv_lload hx hb dX13_in_7 (lv_at hl 2 rfl) ?_
  refine W.lcmp hx hb dX13_in_9 ?_
  refine m_vi (y := 1) (by decide) ?_
  refine lv_if_gt (tgt := 17) hx hb dX13_in_10 (by decide) (fun _ => ?_) (fun h => absurd (by decide) h)
  refine lv_iconst (v := 0) hx hb dX13_in_17 (by decide) ?_
  exact m_zret C hr hlk hM rfl (⟨rfl, rfl, rfl⟩) dX13_in_18
set_option maxHeartbeats 4000000 in
set_option maxRecDepth 100000 in
theorem a_X13_in_30 (l : Launch) (D : va_G) (kc : Nat → ClassId) (b : Nat) (f : Nat → va_E) : mMi l yX13_in cX13_in 6 .boolean 1 0 0 D kc b 220 f [.long 12, .long 10, .long 12] (fun r u => r = 1 ∧ u.1 = 220 ∧ u.2 = f) := by
  refine m_start (by decide) (Nat.le_of_ble_eq_true rfl) ?_
  intro p e s m below meth c C hr hlk hnm hM ls hl
  obtain ⟨hx, hb, hml, hown, hts, hE, hbs⟩ := id C
  have hl : lv_has ls 6 [(0, .long 12), (2, .long 10), (4, .long 12)] := hl
  refine lv_lload_n hx hb dX13_in_0 rfl (lv_at hl 0 rfl) ?_
  refine lv_lload_n hx hb dX13_in_1 rfl (lv_at hl 1 rfl) ?_
  refine W.lcmp hx hb dX13_in_2 ?_
  refine m_vi (y := 1) (by decide) ?_
  refine lv_if_lt (tgt := 17) hx hb dX13_in_3 (by decide) (fun h => absurd h (by decide)) (fun _ => ?_)
  refine lv_lload_n hx hb dX13_in_6 rfl (lv_at hl 0 rfl) ?_
  refine lv_lload hx hb dX13_in_7 (lv_at hl 2 rfl) ?_
  refine W.lcmp hx hb dX13_in_9 ?_
  refine m_vi (y := 0) (by decide) ?_
  refine lv_if_gt (tgt := 17) hx hb dX13_in_10 (by decide) (fun h => absurd h (by decide)) (fun _ => ?_)
  refine lv_iconst (v := 1) hx hb dX13_in_13 (by decide) ?_
  refine lv_goto (tgt := 18) hx hb dX13_in_14 (by decide) ?_
  exact m_zret C hr hlk hM rfl (⟨rfl, rfl, rfl⟩) dX13_in_18
set_option maxHeartbeats 4000000 in
set_option maxRecDepth 100000 in
theorem k_m_count (l : Launch) (D : va_G) (kc : Nat → ClassId) (b : Nat) (f : Nat → va_E) (a0 : Int32) (h192 : f 192 = .inr (13, [.ref (b + 193), .ref (b + 194), .ref (b + 195), .int 0, .int 0, .int 0, .ref (b + 196), .ref (b + 197), .int 0, .int 0, .int 0, .int 0, .int 0, .int 0, .int 0, .int (-1), .ref (b + 198), .ref (b + 199), .ref (b + 200), .ref (b + 201), .ref (b + 202), .ref (b + 203), .ref (b + 204), .ref (b + 205), .ref (b + 206), .ref (b + 207), .ref (b + 208), .int 0, .ref (b + 209), .ref (b + 210), .ref (b + 211), .ref (b + 212), .ref (b + 213), .ref (b + 214), .ref (b + 215), .int 0, .int 0, .int 0, .int 0, .ref (b + 216), .ref (b + 217), .ref (b + 218), .ref (b + 219)])) (h209 : f 209 = .inl (kc 1, 3, .inl (mRk))) : mMi l yX13_count cX13_count 4 .int 5 0 0 D kc b 220 f [.ref (b + 192), .int a0] (fun r u => r = p_count a0) := by
  refine m_start (by decide) (Nat.le_of_ble_eq_true rfl) ?_
  intro p e s m below meth c C hr hlk hnm hM ls hl
  obtain ⟨hx, hb, hml, hown, hts, hE, hbs⟩ := id C
  have hl : lv_has ls 4 [(0, .ref (b + 192)), (1, .int a0)] := hl
  by_cases q1 : a0 < 0
  · refine lv_iload_n hx hb dX13_count_0 rfl (lv_at hl 1 rfl) ?_
    refine lv_i2l hx hb dX13_count_1 rfl ?_
    refine lv_lconst (v := 0) hx hb dX13_count_2 (by decide) ?_
    refine lv_ldc2 (v := 2) hx hb hown (hts _ wd_1368) dX13_count_3 ?_
    refine m_goi (m_runS calS_X13_in wd_1221 (k_in0 l D kc b 220 f a0.toInt64 0 2 (by revert q1; rw [m_inI (a := 0) (b := 2) (by decide) (by decide)]; simp only [Int32.lt_iff_toInt_lt, Int32.le_iff_toInt_le, m_lits]; omega)) C hM hl.1 rfl rfl (Nat.le_of_ble_eq_true rfl) dX13_count_6 ⟨Nat.le_of_ble_eq_true rfl, Nat.le_of_ble_eq_true rfl⟩ ⟨Nat.le_of_ble_eq_true rfl, Nat.le_of_ble_eq_true rfl⟩) hM (fun r2 n3 f1 H locs hp hM => ?_)
    obtain ⟨rfl, rfl, ef1⟩ : r2 = 0 ∧ n3 = 220 ∧ f1 = f := hp
    refine lv_if_eq (tgt := 18) hx hb dX13_count_9 (by decide) (fun _ => ?_) (fun h => absurd (by decide) h)
    refine lv_iload_n hx hb dX13_count_18 rfl (lv_at hl 1 rfl) ?_
    refine lv_i2l hx hb dX13_count_19 rfl ?_
    refine lv_ldc2 (v := 10) hx hb hown (hts _ wd_1350) dX13_count_20 ?_
    refine lv_ldc2 (v := 12) hx hb hown (hts _ wd_1482) dX13_count_23 ?_
    refine m_goi (m_runS calS_X13_in wd_1221 (k_in0 l D kc b 220 f1 a0.toInt64 10 12 (by revert q1; rw [m_inI (a := 10) (b := 12) (by decide) (by decide)]; simp only [Int32.lt_iff_toInt_lt, Int32.le_iff_toInt_le, m_lits]; omega)) C hM hl.1 rfl rfl (Nat.le_of_ble_eq_true rfl) dX13_count_26 ⟨Nat.le_of_ble_eq_true rfl, Nat.le_of_ble_eq_true rfl⟩ ⟨Nat.le_of_ble_eq_true rfl, Nat.le_of_ble_eq_true rfl⟩) hM (fun r4 n5 f2 H locs hp hM => ?_)
    obtain ⟨rfl, rfl, ef2⟩ : r4 = 0 ∧ n5 = 220 ∧ f2 = f1 := hp
    refine lv_if_eq (tgt := 42) hx hb dX13_count_29 (by decide) (fun _ => ?_) (fun h => absurd (by decide) h)
    refine lv_iload_n hx hb dX13_count_42 rfl (lv_at hl 1 rfl) ?_
    refine lv_iconst (v := 3) hx hb dX13_count_43 (by decide) ?_
    refine lv_icmp_ne (tgt := 52) hx hb dX13_count_44 (by decide) (fun c6 => ?_) (fun c6 => ?_)
    · refine lv_iload_n hx hb dX13_count_52 rfl (lv_at hl 1 rfl) ?_
      refine lv_bipush (v := 9) hx hb dX13_count_53 (by decide) ?_
      refine lv_icmp_ne (tgt := 63) hx hb dX13_count_55 (by decide) (fun c7 => ?_) (fun c7 => ?_)
      · refine lv_iload_n hx hb dX13_count_63 rfl (lv_at hl 1 rfl) ?_
        refine lv_i2l hx hb dX13_count_64 rfl ?_
        refine lv_ldc2 (v := 4) hx hb hown (hts _ wd_1472) dX13_count_65 ?_
        refine lv_ldc2 (v := 8) hx hb hown (hts _ wd_1483) dX13_count_68 ?_
        refine m_goi (m_runS calS_X13_in wd_1221 (k_in0 l D kc b 220 f2 a0.toInt64 4 8 (by revert q1 c6 c7; rw [m_inI (a := 4) (b := 8) (by decide) (by decide)]; simp only [Int32.lt_iff_toInt_lt, Int32.le_iff_toInt_le, m_lits]; omega)) C hM hl.1 rfl rfl (Nat.le_of_ble_eq_true rfl) dX13_count_71 ⟨Nat.le_of_ble_eq_true rfl, Nat.le_of_ble_eq_true rfl⟩ ⟨Nat.le_of_ble_eq_true rfl, Nat.le_of_ble_eq_true rfl⟩) hM (fun r8 n9 f3 H locs hp hM => ?_)
        obtain ⟨rfl, rfl, ef3⟩ : r8 = 0 ∧ n9 = 220 ∧ f3 = f2 := hp
        refine lv_if_ne (tgt := 79) hx hb dX13_count_74 (by decide) (fun h => absurd (by decide) h) (fun _ => ?_)
        refine lv_iconst (v := (-1)) hx hb dX13_count_77 (by decide) ?_
        exact m_iret C hr hlk hM (by unfold p_count; rw [if_neg (by revert q1 c6 c7; simp only [Int32.lt_iff_toInt_lt, Int32.le_iff_toInt_le, m_lits]; omega), if_neg (by revert q1 c6 c7; simp only [Int32.lt_iff_toInt_lt, Int32.le_iff_toInt_le, m_lits]; omega)]) dX13_count_78
      · exfalso; revert q1 c6 c7; simp only [← Int32.toInt_inj, Int32.lt_iff_toInt_lt, Int32.le_iff_toInt_le, m_lits]; omega
    · exfalso; revert q1 c6; simp only [← Int32.toInt_inj, Int32.lt_iff_toInt_lt, Int32.le_iff_toInt_le, m_lits]; omega
  by_cases q10 : 12 < a0
  · refine lv_iload_n hx hb dX13_count_0 rfl (lv_at hl 1 rfl) ?_
    refine lv_i2l hx hb dX13_count_1 rfl ?_
    refine lv_lconst (v := 0) hx hb dX13_count_2 (by decide) ?_
    refine lv_ldc2 (v := 2) hx hb hown (hts _ wd_1368) dX13_count_3 ?_
    refine m_goi (m_runS calS_X13_in wd_1221 (k_in0 l D kc b 220 f a0.toInt64 0 2 (by revert q1 q10; rw [m_inI (a := 0) (b := 2) (by decide) (by decide)]; simp only [Int32.lt_iff_toInt_lt, Int32.le_iff_toInt_le, m_lits]; omega)) C hM hl.1 rfl rfl (Nat.le_of_ble_eq_true rfl) dX13_count_6 ⟨Nat.le_of_ble_eq_true rfl, Nat.le_of_ble_eq_true rfl⟩ ⟨Nat.le_of_ble_eq_true rfl, Nat.le_of_ble_eq_true rfl⟩) hM (fun r11 n12 f1 H locs hp hM => ?_)
    obtain ⟨rfl, rfl, ef1⟩ : r11 = 0 ∧ n12 = 220 ∧ f1 = f := hp
    refine lv_if_eq (tgt := 18) hx hb dX13_count_9 (by decide) (fun _ => ?_) (fun h => absurd (by decide) h)
    refine lv_iload_n hx hb dX13_count_18 rfl (lv_at hl 1 rfl) ?_
    refine lv_i2l hx hb dX13_count_19 rfl ?_
    refine lv_ldc2 (v := 10) hx hb hown (hts _ wd_1350) dX13_count_20 ?_
    refine lv_ldc2 (v := 12) hx hb hown (hts _ wd_1482) dX13_count_23 ?_
    refine m_goi (m_runS calS_X13_in wd_1221 (k_in0 l D kc b 220 f1 a0.toInt64 10 12 (by revert q1 q10; rw [m_inI (a := 10) (b := 12) (by decide) (by decide)]; simp only [Int32.lt_iff_toInt_lt, Int32.le_iff_toInt_le, m_lits]; omega)) C hM hl.1 rfl rfl (Nat.le_of_ble_eq_true rfl) dX13_count_26 ⟨Nat.le_of_ble_eq_true rfl, Nat.le_of_ble_eq_true rfl⟩ ⟨Nat.le_of_ble_eq_true rfl, Nat.le_of_ble_eq_true rfl⟩) hM (fun r13 n14 f2 H locs hp hM => ?_)
    obtain ⟨rfl, rfl, ef2⟩ : r13 = 0 ∧ n14 = 220 ∧ f2 = f1 := hp
    refine lv_if_eq (tgt := 42) hx hb dX13_count_29 (by decide) (fun _ => ?_) (fun h => absurd (by decide) h)
    refine lv_iload_n hx hb dX13_count_42 rfl (lv_at hl 1 rfl) ?_
    refine lv_iconst (v := 3) hx hb dX13_count_43 (by decide) ?_
    refine lv_icmp_ne (tgt := 52) hx hb dX13_count_44 (by decide) (fun c15 => ?_) (fun c15 => ?_)
    · refine lv_iload_n hx hb dX13_count_52 rfl (lv_at hl 1 rfl) ?_
      refine lv_bipush (v := 9) hx hb dX13_count_53 (by decide) ?_
      refine lv_icmp_ne (tgt := 63) hx hb dX13_count_55 (by decide) (fun c16 => ?_) (fun c16 => ?_)
      · refine lv_iload_n hx hb dX13_count_63 rfl (lv_at hl 1 rfl) ?_
        refine lv_i2l hx hb dX13_count_64 rfl ?_
        refine lv_ldc2 (v := 4) hx hb hown (hts _ wd_1472) dX13_count_65 ?_
        refine lv_ldc2 (v := 8) hx hb hown (hts _ wd_1483) dX13_count_68 ?_
        refine m_goi (m_runS calS_X13_in wd_1221 (k_in0 l D kc b 220 f2 a0.toInt64 4 8 (by revert q1 q10 c15 c16; rw [m_inI (a := 4) (b := 8) (by decide) (by decide)]; simp only [Int32.lt_iff_toInt_lt, Int32.le_iff_toInt_le, m_lits]; omega)) C hM hl.1 rfl rfl (Nat.le_of_ble_eq_true rfl) dX13_count_71 ⟨Nat.le_of_ble_eq_true rfl, Nat.le_of_ble_eq_true rfl⟩ ⟨Nat.le_of_ble_eq_true rfl, Nat.le_of_ble_eq_true rfl⟩) hM (fun r17 n18 f3 H locs hp hM => ?_)
        obtain ⟨rfl, rfl, ef3⟩ : r17 = 0 ∧ n18 = 220 ∧ f3 = f2 := hp
        refine lv_if_ne (tgt := 79) hx hb dX13_count_74 (by decide) (fun h => absurd (by decide) h) (fun _ => ?_)
        refine lv_iconst (v := (-1)) hx hb dX13_count_77 (by decide) ?_
        exact m_iret C hr hlk hM (by unfold p_count; rw [if_neg (by revert q1 q10 c15 c16; simp only [Int32.lt_iff_toInt_lt, Int32.le_iff_toInt_le, m_lits]; omega), if_neg (by revert q1 q10 c15 c16; simp only [Int32.lt_iff_toInt_lt, Int32.le_iff_toInt_le, m_lits]; omega)]) dX13_count_78
      · exfalso; revert q1 q10 c15 c16; simp only [← Int32.toInt_inj, Int32.lt_iff_toInt_lt, Int32.le_iff_toInt_le, m_lits]; omega
    · exfalso; revert q1 q10 c15; simp only [← Int32.toInt_inj, Int32.lt_iff_toInt_lt, Int32.le_iff_toInt_le, m_lits]; omega
  by_cases s19 : a0 = 0
  · subst s19
    refine lv_iload_n hx hb dX13_count_0 rfl (lv_at hl 1 rfl) ?_
    refine lv_i2l (v := 0) hx hb dX13_count_1 (by decide) ?_
    refine lv_lconst (v := 0) hx hb dX13_count_2 (by decide) ?_
    refine lv_ldc2 (v := 2) hx hb hown (hts _ wd_1368) dX13_count_3 ?_
    refine m_goi (m_runS calS_X13_in wd_1221 (a_X13_in_0 l D kc b f) C hM hl.1 rfl rfl (Nat.le_of_ble_eq_true rfl) dX13_count_6 ⟨Nat.le_of_ble_eq_true rfl, Nat.le_of_ble_eq_true rfl⟩ ⟨Nat.le_of_ble_eq_true rfl, Nat.le_of_ble_eq_true rfl⟩) hM (fun r20 n21 f1 H locs hp hM => ?_)
    have hp : r20 = 1 ∧ n21 = 220 ∧ f1 = f := hp
    obtain ⟨rfl, rfl, ef1⟩ := hp
    refine lv_if_eq (tgt := 18) hx hb dX13_count_9 (by decide) (fun h => absurd h (by decide)) (fun _ => ?_)
    refine lv_aload_n hx hb dX13_count_12 rfl (lv_at hl 0 rfl) ?_
    refine lv_iload_n hx hb dX13_count_13 rfl (lv_at hl 1 rfl) ?_
    have h192_1 : f1 192 = .inr (13, [.ref (b + 193), .ref (b + 194), .ref (b + 195), .int 0, .int 0, .int 0, .ref (b + 196), .ref (b + 197), .int 0, .int 0, .int 0, .int 0, .int 0, .int 0, .int 0, .int (-1), .ref (b + 198), .ref (b + 199), .ref (b + 200), .ref (b + 201), .ref (b + 202), .ref (b + 203), .ref (b + 204), .ref (b + 205), .ref (b + 206), .ref (b + 207), .ref (b + 208), .int 0, .ref (b + 209), .ref (b + 210), .ref (b + 211), .ref (b + 212), .ref (b + 213), .ref (b + 214), .ref (b + 215), .int 0, .int 0, .int 0, .int 0, .ref (b + 216), .ref (b + 217), .ref (b + 218), .ref (b + 219)]) := m_sm ef1 h192
    refine m_goi (m_runV calV_X13_wordsOf wd_1376 (a_X13_wordsOf_0 l D kc b f1 h192_1) C hM (by decide) h192_1 rfl hl.1 rfl rfl (Nat.le_of_ble_eq_true rfl) dX13_count_14 ⟨Nat.le_of_ble_eq_true rfl, Nat.le_of_ble_eq_true rfl⟩ ⟨Nat.le_of_ble_eq_true rfl, Nat.le_of_ble_eq_true rfl⟩) hM (fun r22 n23 f2 H locs hp hM => ?_)
    have hp : r22 = 0 ∧ n23 = 220 ∧ f2 = f1 := hp
    obtain ⟨rfl, rfl, ef2⟩ := hp
    exact m_iret C hr hlk hM (by decide) dX13_count_17
  by_cases s24 : a0 = 1
  · subst s24
    refine lv_iload_n hx hb dX13_count_0 rfl (lv_at hl 1 rfl) ?_
    refine lv_i2l (v := 1) hx hb dX13_count_1 (by decide) ?_
    refine lv_lconst (v := 0) hx hb dX13_count_2 (by decide) ?_
    refine lv_ldc2 (v := 2) hx hb hown (hts _ wd_1368) dX13_count_3 ?_
    refine m_goi (m_runS calS_X13_in wd_1221 (a_X13_in_1 l D kc b f) C hM hl.1 rfl rfl (Nat.le_of_ble_eq_true rfl) dX13_count_6 ⟨Nat.le_of_ble_eq_true rfl, Nat.le_of_ble_eq_true rfl⟩ ⟨Nat.le_of_ble_eq_true rfl, Nat.le_of_ble_eq_true rfl⟩) hM (fun r25 n26 f1 H locs hp hM => ?_)
    have hp : r25 = 1 ∧ n26 = 220 ∧ f1 = f := hp
    obtain ⟨rfl, rfl, ef1⟩ := hp
    refine lv_if_eq (tgt := 18) hx hb dX13_count_9 (by decide) (fun h => absurd h (by decide)) (fun _ => ?_)
    refine lv_aload_n hx hb dX13_count_12 rfl (lv_at hl 0 rfl) ?_
    refine lv_iload_n hx hb dX13_count_13 rfl (lv_at hl 1 rfl) ?_
    have h192_1 : f1 192 = .inr (13, [.ref (b + 193), .ref (b + 194), .ref (b + 195), .int 0, .int 0, .int 0, .ref (b + 196), .ref (b + 197), .int 0, .int 0, .int 0, .int 0, .int 0, .int 0, .int 0, .int (-1), .ref (b + 198), .ref (b + 199), .ref (b + 200), .ref (b + 201), .ref (b + 202), .ref (b + 203), .ref (b + 204), .ref (b + 205), .ref (b + 206), .ref (b + 207), .ref (b + 208), .int 0, .ref (b + 209), .ref (b + 210), .ref (b + 211), .ref (b + 212), .ref (b + 213), .ref (b + 214), .ref (b + 215), .int 0, .int 0, .int 0, .int 0, .ref (b + 216), .ref (b + 217), .ref (b + 218), .ref (b + 219)]) := m_sm ef1 h192
    refine m_goi (m_runV calV_X13_wordsOf wd_1376 (a_X13_wordsOf_1 l D kc b f1 h192_1) C hM (by decide) h192_1 rfl hl.1 rfl rfl (Nat.le_of_ble_eq_true rfl) dX13_count_14 ⟨Nat.le_of_ble_eq_true rfl, Nat.le_of_ble_eq_true rfl⟩ ⟨Nat.le_of_ble_eq_true rfl, Nat.le_of_ble_eq_true rfl⟩) hM (fun r27 n28 f2 H locs hp hM => ?_)
    have hp : r27 = 0 ∧ n28 = 220 ∧ f2 = f1 := hp
    obtain ⟨rfl, rfl, ef2⟩ := hp
    exact m_iret C hr hlk hM (by decide) dX13_count_17
  by_cases s29 : a0 = 2
  · subst s29
    refine lv_iload_n hx hb dX13_count_0 rfl (lv_at hl 1 rfl) ?_
    refine lv_i2l (v := 2) hx hb dX13_count_1 (by decide) ?_
    refine lv_lconst (v := 0) hx hb dX13_count_2 (by decide) ?_
    refine lv_ldc2 (v := 2) hx hb hown (hts _ wd_1368) dX13_count_3 ?_
    refine m_goi (m_runS calS_X13_in wd_1221 (a_X13_in_2 l D kc b f) C hM hl.1 rfl rfl (Nat.le_of_ble_eq_true rfl) dX13_count_6 ⟨Nat.le_of_ble_eq_true rfl, Nat.le_of_ble_eq_true rfl⟩ ⟨Nat.le_of_ble_eq_true rfl, Nat.le_of_ble_eq_true rfl⟩) hM (fun r30 n31 f1 H locs hp hM => ?_)
    have hp : r30 = 1 ∧ n31 = 220 ∧ f1 = f := hp
    obtain ⟨rfl, rfl, ef1⟩ := hp
    refine lv_if_eq (tgt := 18) hx hb dX13_count_9 (by decide) (fun h => absurd h (by decide)) (fun _ => ?_)
    refine lv_aload_n hx hb dX13_count_12 rfl (lv_at hl 0 rfl) ?_
    refine lv_iload_n hx hb dX13_count_13 rfl (lv_at hl 1 rfl) ?_
    have h192_1 : f1 192 = .inr (13, [.ref (b + 193), .ref (b + 194), .ref (b + 195), .int 0, .int 0, .int 0, .ref (b + 196), .ref (b + 197), .int 0, .int 0, .int 0, .int 0, .int 0, .int 0, .int 0, .int (-1), .ref (b + 198), .ref (b + 199), .ref (b + 200), .ref (b + 201), .ref (b + 202), .ref (b + 203), .ref (b + 204), .ref (b + 205), .ref (b + 206), .ref (b + 207), .ref (b + 208), .int 0, .ref (b + 209), .ref (b + 210), .ref (b + 211), .ref (b + 212), .ref (b + 213), .ref (b + 214), .ref (b + 215), .int 0, .int 0, .int 0, .int 0, .ref (b + 216), .ref (b + 217), .ref (b + 218), .ref (b + 219)]) := m_sm ef1 h192
    refine m_goi (m_runV calV_X13_wordsOf wd_1376 (a_X13_wordsOf_2 l D kc b f1 h192_1) C hM (by decide) h192_1 rfl hl.1 rfl rfl (Nat.le_of_ble_eq_true rfl) dX13_count_14 ⟨Nat.le_of_ble_eq_true rfl, Nat.le_of_ble_eq_true rfl⟩ ⟨Nat.le_of_ble_eq_true rfl, Nat.le_of_ble_eq_true rfl⟩) hM (fun r32 n33 f2 H locs hp hM => ?_)
    have hp : r32 = 0 ∧ n33 = 220 ∧ f2 = va_up f1 192 (.inr (13, [.ref (b + 193), .ref (b + 194), .ref (b + 195), .int 0, .int 0, .int 0, .ref (b + 196), .ref (b + 197), .int 0, .int 0, .int 0, .int 0, .int 0, .int 0, .int 0, .int (-1), .ref (b + 198), .ref (b + 199), .ref (b + 200), .ref (b + 201), .ref (b + 202), .ref (b + 203), .ref (b + 204), .ref (b + 205), .ref (b + 206), .ref (b + 207), .ref (b + 208), .int 0, .ref (b + 209), .ref (b + 210), .ref (b + 211), .ref (b + 212), .ref (b + 213), .ref (b + 214), .ref (b + 215), .int 0, .int 0, .int 0, .int 0, .ref (b + 216), .ref (b + 217), .ref (b + 218), .ref (b + 219)])) := hp
    obtain ⟨rfl, rfl, ef2⟩ := hp
    exact m_iret C hr hlk hM (by decide) dX13_count_17
  by_cases s34 : a0 = 3
  · subst s34
    refine lv_iload_n hx hb dX13_count_0 rfl (lv_at hl 1 rfl) ?_
    refine lv_i2l (v := 3) hx hb dX13_count_1 (by decide) ?_
    refine lv_lconst (v := 0) hx hb dX13_count_2 (by decide) ?_
    refine lv_ldc2 (v := 2) hx hb hown (hts _ wd_1368) dX13_count_3 ?_
    refine m_goi (m_runS calS_X13_in wd_1221 (a_X13_in_6 l D kc b f) C hM hl.1 rfl rfl (Nat.le_of_ble_eq_true rfl) dX13_count_6 ⟨Nat.le_of_ble_eq_true rfl, Nat.le_of_ble_eq_true rfl⟩ ⟨Nat.le_of_ble_eq_true rfl, Nat.le_of_ble_eq_true rfl⟩) hM (fun r35 n36 f1 H locs hp hM => ?_)
    have hp : r35 = 0 ∧ n36 = 220 ∧ f1 = f := hp
    obtain ⟨rfl, rfl, ef1⟩ := hp
    refine lv_if_eq (tgt := 18) hx hb dX13_count_9 (by decide) (fun _ => ?_) (fun h => absurd (by decide) h)
    refine lv_iload_n hx hb dX13_count_18 rfl (lv_at hl 1 rfl) ?_
    refine lv_i2l (v := 3) hx hb dX13_count_19 (by decide) ?_
    refine lv_ldc2 (v := 10) hx hb hown (hts _ wd_1350) dX13_count_20 ?_
    refine lv_ldc2 (v := 12) hx hb hown (hts _ wd_1482) dX13_count_23 ?_
    refine m_goi (m_runS calS_X13_in wd_1221 (a_X13_in_7 l D kc b f1) C hM hl.1 rfl rfl (Nat.le_of_ble_eq_true rfl) dX13_count_26 ⟨Nat.le_of_ble_eq_true rfl, Nat.le_of_ble_eq_true rfl⟩ ⟨Nat.le_of_ble_eq_true rfl, Nat.le_of_ble_eq_true rfl⟩) hM (fun r37 n38 f2 H locs hp hM => ?_)
    have hp : r37 = 0 ∧ n38 = 220 ∧ f2 = f1 := hp
    obtain ⟨rfl, rfl, ef2⟩ := hp
    refine lv_if_eq (tgt := 42) hx hb dX13_count_29 (by decide) (fun _ => ?_) (fun h => absurd (by decide) h)
    refine lv_iload_n hx hb dX13_count_42 rfl (lv_at hl 1 rfl) ?_
    refine lv_iconst (v := 3) hx hb dX13_count_43 (by decide) ?_
    refine lv_icmp_ne (tgt := 52) hx hb dX13_count_44 (by decide) (fun h => absurd (by decide) h) (fun _ => ?_)
    refine lv_aload_n hx hb dX13_count_47 rfl (lv_at hl 0 rfl) ?_
    have h192_1 : f1 192 = .inr (13, [.ref (b + 193), .ref (b + 194), .ref (b + 195), .int 0, .int 0, .int 0, .ref (b + 196), .ref (b + 197), .int 0, .int 0, .int 0, .int 0, .int 0, .int 0, .int 0, .int (-1), .ref (b + 198), .ref (b + 199), .ref (b + 200), .ref (b + 201), .ref (b + 202), .ref (b + 203), .ref (b + 204), .ref (b + 205), .ref (b + 206), .ref (b + 207), .ref (b + 208), .int 0, .ref (b + 209), .ref (b + 210), .ref (b + 211), .ref (b + 212), .ref (b + 213), .ref (b + 214), .ref (b + 215), .int 0, .int 0, .int 0, .int 0, .ref (b + 216), .ref (b + 217), .ref (b + 218), .ref (b + 219)]) := m_sm ef1 h192
    have h192_2 : f2 192 = .inr (13, [.ref (b + 193), .ref (b + 194), .ref (b + 195), .int 0, .int 0, .int 0, .ref (b + 196), .ref (b + 197), .int 0, .int 0, .int 0, .int 0, .int 0, .int 0, .int 0, .int (-1), .ref (b + 198), .ref (b + 199), .ref (b + 200), .ref (b + 201), .ref (b + 202), .ref (b + 203), .ref (b + 204), .ref (b + 205), .ref (b + 206), .ref (b + 207), .ref (b + 208), .int 0, .ref (b + 209), .ref (b + 210), .ref (b + 211), .ref (b + 212), .ref (b + 213), .ref (b + 214), .ref (b + 215), .int 0, .int 0, .int 0, .int 0, .ref (b + 216), .ref (b + 217), .ref (b + 218), .ref (b + 219)]) := m_sm ef2 h192_1
    refine m_get fl_X13_153_X13 C hM (i := 192) (by decide) h192_2 (v := .int 0) rfl dX13_count_48 ?_
    exact m_iret C hr hlk hM (by decide) dX13_count_51
  by_cases s39 : a0 = 4
  · subst s39
    refine lv_iload_n hx hb dX13_count_0 rfl (lv_at hl 1 rfl) ?_
    refine lv_i2l (v := 4) hx hb dX13_count_1 (by decide) ?_
    refine lv_lconst (v := 0) hx hb dX13_count_2 (by decide) ?_
    refine lv_ldc2 (v := 2) hx hb hown (hts _ wd_1368) dX13_count_3 ?_
    refine m_goi (m_runS calS_X13_in wd_1221 (a_X13_in_8 l D kc b f) C hM hl.1 rfl rfl (Nat.le_of_ble_eq_true rfl) dX13_count_6 ⟨Nat.le_of_ble_eq_true rfl, Nat.le_of_ble_eq_true rfl⟩ ⟨Nat.le_of_ble_eq_true rfl, Nat.le_of_ble_eq_true rfl⟩) hM (fun r40 n41 f1 H locs hp hM => ?_)
    have hp : r40 = 0 ∧ n41 = 220 ∧ f1 = f := hp
    obtain ⟨rfl, rfl, ef1⟩ := hp
    refine lv_if_eq (tgt := 18) hx hb dX13_count_9 (by decide) (fun _ => ?_) (fun h => absurd (by decide) h)
    refine lv_iload_n hx hb dX13_count_18 rfl (lv_at hl 1 rfl) ?_
    refine lv_i2l (v := 4) hx hb dX13_count_19 (by decide) ?_
    refine lv_ldc2 (v := 10) hx hb hown (hts _ wd_1350) dX13_count_20 ?_
    refine lv_ldc2 (v := 12) hx hb hown (hts _ wd_1482) dX13_count_23 ?_
    refine m_goi (m_runS calS_X13_in wd_1221 (a_X13_in_9 l D kc b f1) C hM hl.1 rfl rfl (Nat.le_of_ble_eq_true rfl) dX13_count_26 ⟨Nat.le_of_ble_eq_true rfl, Nat.le_of_ble_eq_true rfl⟩ ⟨Nat.le_of_ble_eq_true rfl, Nat.le_of_ble_eq_true rfl⟩) hM (fun r42 n43 f2 H locs hp hM => ?_)
    have hp : r42 = 0 ∧ n43 = 220 ∧ f2 = f1 := hp
    obtain ⟨rfl, rfl, ef2⟩ := hp
    refine lv_if_eq (tgt := 42) hx hb dX13_count_29 (by decide) (fun _ => ?_) (fun h => absurd (by decide) h)
    refine lv_iload_n hx hb dX13_count_42 rfl (lv_at hl 1 rfl) ?_
    refine lv_iconst (v := 3) hx hb dX13_count_43 (by decide) ?_
    refine lv_icmp_ne (tgt := 52) hx hb dX13_count_44 (by decide) (fun _ => ?_) (fun h => absurd h (by decide))
    refine lv_iload_n hx hb dX13_count_52 rfl (lv_at hl 1 rfl) ?_
    refine lv_bipush (v := 9) hx hb dX13_count_53 (by decide) ?_
    refine lv_icmp_ne (tgt := 63) hx hb dX13_count_55 (by decide) (fun _ => ?_) (fun h => absurd h (by decide))
    refine lv_iload_n hx hb dX13_count_63 rfl (lv_at hl 1 rfl) ?_
    refine lv_i2l (v := 4) hx hb dX13_count_64 (by decide) ?_
    refine lv_ldc2 (v := 4) hx hb hown (hts _ wd_1472) dX13_count_65 ?_
    refine lv_ldc2 (v := 8) hx hb hown (hts _ wd_1483) dX13_count_68 ?_
    refine m_goi (m_runS calS_X13_in wd_1221 (a_X13_in_10 l D kc b f2) C hM hl.1 rfl rfl (Nat.le_of_ble_eq_true rfl) dX13_count_71 ⟨Nat.le_of_ble_eq_true rfl, Nat.le_of_ble_eq_true rfl⟩ ⟨Nat.le_of_ble_eq_true rfl, Nat.le_of_ble_eq_true rfl⟩) hM (fun r44 n45 f3 H locs hp hM => ?_)
    have hp : r44 = 1 ∧ n45 = 220 ∧ f3 = f2 := hp
    obtain ⟨rfl, rfl, ef3⟩ := hp
    refine lv_if_ne (tgt := 79) hx hb dX13_count_74 (by decide) (fun _ => ?_) (fun h => absurd h (by decide))
    refine lv_aload_n hx hb dX13_count_79 rfl (lv_at hl 0 rfl) ?_
    have h192_1 : f1 192 = .inr (13, [.ref (b + 193), .ref (b + 194), .ref (b + 195), .int 0, .int 0, .int 0, .ref (b + 196), .ref (b + 197), .int 0, .int 0, .int 0, .int 0, .int 0, .int 0, .int 0, .int (-1), .ref (b + 198), .ref (b + 199), .ref (b + 200), .ref (b + 201), .ref (b + 202), .ref (b + 203), .ref (b + 204), .ref (b + 205), .ref (b + 206), .ref (b + 207), .ref (b + 208), .int 0, .ref (b + 209), .ref (b + 210), .ref (b + 211), .ref (b + 212), .ref (b + 213), .ref (b + 214), .ref (b + 215), .int 0, .int 0, .int 0, .int 0, .ref (b + 216), .ref (b + 217), .ref (b + 218), .ref (b + 219)]) := m_sm ef1 h192
    have h192_2 : f2 192 = .inr (13, [.ref (b + 193), .ref (b + 194), .ref (b + 195), .int 0, .int 0, .int 0, .ref (b + 196), .ref (b + 197), .int 0, .int 0, .int 0, .int 0, .int 0, .int 0, .int 0, .int (-1), .ref (b + 198), .ref (b + 199), .ref (b + 200), .ref (b + 201), .ref (b + 202), .ref (b + 203), .ref (b + 204), .ref (b + 205), .ref (b + 206), .ref (b + 207), .ref (b + 208), .int 0, .ref (b + 209), .ref (b + 210), .ref (b + 211), .ref (b + 212), .ref (b + 213), .ref (b + 214), .ref (b + 215), .int 0, .int 0, .int 0, .int 0, .ref (b + 216), .ref (b + 217), .ref (b + 218), .ref (b + 219)]) := m_sm ef2 h192_1
    have h192_3 : f3 192 = .inr (13, [.ref (b + 193), .ref (b + 194), .ref (b + 195), .int 0, .int 0, .int 0, .ref (b + 196), .ref (b + 197), .int 0, .int 0, .int 0, .int 0, .int 0, .int 0, .int 0, .int (-1), .ref (b + 198), .ref (b + 199), .ref (b + 200), .ref (b + 201), .ref (b + 202), .ref (b + 203), .ref (b + 204), .ref (b + 205), .ref (b + 206), .ref (b + 207), .ref (b + 208), .int 0, .ref (b + 209), .ref (b + 210), .ref (b + 211), .ref (b + 212), .ref (b + 213), .ref (b + 214), .ref (b + 215), .int 0, .int 0, .int 0, .int 0, .ref (b + 216), .ref (b + 217), .ref (b + 218), .ref (b + 219)]) := m_sm ef3 h192_2
    refine m_gov (m_runV calV_X13_judge wd_1352 (a_X13_judge_0 l D kc b f3 h192_3) C hM (by decide) h192_3 rfl hl.1 rfl rfl (Nat.le_of_ble_eq_true rfl) dX13_count_80 ⟨Nat.le_of_ble_eq_true rfl, Nat.le_of_ble_eq_true rfl⟩ ⟨Nat.le_of_ble_eq_true rfl, Nat.le_of_ble_eq_true rfl⟩) hM (fun n47 f4 H locs hp hM => ?_)
    have hp : n47 = 220 ∧ f4 = f3 := hp
    obtain ⟨rfl, ef4⟩ := hp
    refine lv_iconst (v := 0) hx hb dX13_count_83 (by decide) ?_
    refine lv_istore_n (lv' := [(2, .int 0), (0, .ref (b + 192)), (1, .int 4)]) hx hb dX13_count_84 rfl hl (by decide) rfl (fun ls hl => ?_)
    refine lv_iconst (v := 0) hx hb dX13_count_85 (by decide) ?_
    refine lv_istore_n (lv' := [(3, .int 0), (2, .int 0), (0, .ref (b + 192)), (1, .int 4)]) hx hb dX13_count_86 rfl hl (by decide) rfl (fun ls hl => ?_)
    refine lv_iload_n hx hb dX13_count_87 rfl (lv_at hl 0 rfl) ?_
    refine lv_aload_n hx hb dX13_count_88 rfl (lv_at hl 2 rfl) ?_
    have h192_4 : f4 192 = .inr (13, [.ref (b + 193), .ref (b + 194), .ref (b + 195), .int 0, .int 0, .int 0, .ref (b + 196), .ref (b + 197), .int 0, .int 0, .int 0, .int 0, .int 0, .int 0, .int 0, .int (-1), .ref (b + 198), .ref (b + 199), .ref (b + 200), .ref (b + 201), .ref (b + 202), .ref (b + 203), .ref (b + 204), .ref (b + 205), .ref (b + 206), .ref (b + 207), .ref (b + 208), .int 0, .ref (b + 209), .ref (b + 210), .ref (b + 211), .ref (b + 212), .ref (b + 213), .ref (b + 214), .ref (b + 215), .int 0, .int 0, .int 0, .int 0, .ref (b + 216), .ref (b + 217), .ref (b + 218), .ref (b + 219)]) := m_sm ef4 h192_3
    refine m_get fl_X13_153_X13 C hM (i := 192) (by decide) h192_4 (v := .int 0) rfl dX13_count_89 ?_
    refine lv_icmp_ge (tgt := 144) hx hb dX13_count_92 (by decide) (fun _ => ?_) (fun h => absurd (by decide) h)
    refine lv_iload_n hx hb dX13_count_144 rfl (lv_at hl 1 rfl) ?_
    exact m_iret C hr hlk hM (by decide) dX13_count_145
  by_cases s48 : a0 = 5
  · subst s48
    refine lv_iload_n hx hb dX13_count_0 rfl (lv_at hl 1 rfl) ?_
    refine lv_i2l (v := 5) hx hb dX13_count_1 (by decide) ?_
    refine lv_lconst (v := 0) hx hb dX13_count_2 (by decide) ?_
    refine lv_ldc2 (v := 2) hx hb hown (hts _ wd_1368) dX13_count_3 ?_
    refine m_goi (m_runS calS_X13_in wd_1221 (a_X13_in_11 l D kc b f) C hM hl.1 rfl rfl (Nat.le_of_ble_eq_true rfl) dX13_count_6 ⟨Nat.le_of_ble_eq_true rfl, Nat.le_of_ble_eq_true rfl⟩ ⟨Nat.le_of_ble_eq_true rfl, Nat.le_of_ble_eq_true rfl⟩) hM (fun r49 n50 f1 H locs hp hM => ?_)
    have hp : r49 = 0 ∧ n50 = 220 ∧ f1 = f := hp
    obtain ⟨rfl, rfl, ef1⟩ := hp
    refine lv_if_eq (tgt := 18) hx hb dX13_count_9 (by decide) (fun _ => ?_) (fun h => absurd (by decide) h)
    refine lv_iload_n hx hb dX13_count_18 rfl (lv_at hl 1 rfl) ?_
    refine lv_i2l (v := 5) hx hb dX13_count_19 (by decide) ?_
    refine lv_ldc2 (v := 10) hx hb hown (hts _ wd_1350) dX13_count_20 ?_
    refine lv_ldc2 (v := 12) hx hb hown (hts _ wd_1482) dX13_count_23 ?_
    refine m_goi (m_runS calS_X13_in wd_1221 (a_X13_in_12 l D kc b f1) C hM hl.1 rfl rfl (Nat.le_of_ble_eq_true rfl) dX13_count_26 ⟨Nat.le_of_ble_eq_true rfl, Nat.le_of_ble_eq_true rfl⟩ ⟨Nat.le_of_ble_eq_true rfl, Nat.le_of_ble_eq_true rfl⟩) hM (fun r51 n52 f2 H locs hp hM => ?_)
    have hp : r51 = 0 ∧ n52 = 220 ∧ f2 = f1 := hp
    obtain ⟨rfl, rfl, ef2⟩ := hp
    refine lv_if_eq (tgt := 42) hx hb dX13_count_29 (by decide) (fun _ => ?_) (fun h => absurd (by decide) h)
    refine lv_iload_n hx hb dX13_count_42 rfl (lv_at hl 1 rfl) ?_
    refine lv_iconst (v := 3) hx hb dX13_count_43 (by decide) ?_
    refine lv_icmp_ne (tgt := 52) hx hb dX13_count_44 (by decide) (fun _ => ?_) (fun h => absurd h (by decide))
    refine lv_iload_n hx hb dX13_count_52 rfl (lv_at hl 1 rfl) ?_
    refine lv_bipush (v := 9) hx hb dX13_count_53 (by decide) ?_
    refine lv_icmp_ne (tgt := 63) hx hb dX13_count_55 (by decide) (fun _ => ?_) (fun h => absurd h (by decide))
    refine lv_iload_n hx hb dX13_count_63 rfl (lv_at hl 1 rfl) ?_
    refine lv_i2l (v := 5) hx hb dX13_count_64 (by decide) ?_
    refine lv_ldc2 (v := 4) hx hb hown (hts _ wd_1472) dX13_count_65 ?_
    refine lv_ldc2 (v := 8) hx hb hown (hts _ wd_1483) dX13_count_68 ?_
    refine m_goi (m_runS calS_X13_in wd_1221 (a_X13_in_13 l D kc b f2) C hM hl.1 rfl rfl (Nat.le_of_ble_eq_true rfl) dX13_count_71 ⟨Nat.le_of_ble_eq_true rfl, Nat.le_of_ble_eq_true rfl⟩ ⟨Nat.le_of_ble_eq_true rfl, Nat.le_of_ble_eq_true rfl⟩) hM (fun r53 n54 f3 H locs hp hM => ?_)
    have hp : r53 = 1 ∧ n54 = 220 ∧ f3 = f2 := hp
    obtain ⟨rfl, rfl, ef3⟩ := hp
    refine lv_if_ne (tgt := 79) hx hb dX13_count_74 (by decide) (fun _ => ?_) (fun h => absurd h (by decide))
    refine lv_aload_n hx hb dX13_count_79 rfl (lv_at hl 0 rfl) ?_
    have h192_1 : f1 192 = .inr (13, [.ref (b + 193), .ref (b + 194), .ref (b + 195), .int 0, .int 0, .int 0, .ref (b + 196), .ref (b + 197), .int 0, .int 0, .int 0, .int 0, .int 0, .int 0, .int 0, .int (-1), .ref (b + 198), .ref (b + 199), .ref (b + 200), .ref (b + 201), .ref (b + 202), .ref (b + 203), .ref (b + 204), .ref (b + 205), .ref (b + 206), .ref (b + 207), .ref (b + 208), .int 0, .ref (b + 209), .ref (b + 210), .ref (b + 211), .ref (b + 212), .ref (b + 213), .ref (b + 214), .ref (b + 215), .int 0, .int 0, .int 0, .int 0, .ref (b + 216), .ref (b + 217), .ref (b + 218), .ref (b + 219)]) := m_sm ef1 h192
    have h192_2 : f2 192 = .inr (13, [.ref (b + 193), .ref (b + 194), .ref (b + 195), .int 0, .int 0, .int 0, .ref (b + 196), .ref (b + 197), .int 0, .int 0, .int 0, .int 0, .int 0, .int 0, .int 0, .int (-1), .ref (b + 198), .ref (b + 199), .ref (b + 200), .ref (b + 201), .ref (b + 202), .ref (b + 203), .ref (b + 204), .ref (b + 205), .ref (b + 206), .ref (b + 207), .ref (b + 208), .int 0, .ref (b + 209), .ref (b + 210), .ref (b + 211), .ref (b + 212), .ref (b + 213), .ref (b + 214), .ref (b + 215), .int 0, .int 0, .int 0, .int 0, .ref (b + 216), .ref (b + 217), .ref (b + 218), .ref (b + 219)]) := m_sm ef2 h192_1
    have h192_3 : f3 192 = .inr (13, [.ref (b + 193), .ref (b + 194), .ref (b + 195), .int 0, .int 0, .int 0, .ref (b + 196), .ref (b + 197), .int 0, .int 0, .int 0, .int 0, .int 0, .int 0, .int 0, .int (-1), .ref (b + 198), .ref (b + 199), .ref (b + 200), .ref (b + 201), .ref (b + 202), .ref (b + 203), .ref (b + 204), .ref (b + 205), .ref (b + 206), .ref (b + 207), .ref (b + 208), .int 0, .ref (b + 209), .ref (b + 210), .ref (b + 211), .ref (b + 212), .ref (b + 213), .ref (b + 214), .ref (b + 215), .int 0, .int 0, .int 0, .int 0, .ref (b + 216), .ref (b + 217), .ref (b + 218), .ref (b + 219)]) := m_sm ef3 h192_2
    refine m_gov (m_runV calV_X13_judge wd_1352 (a_X13_judge_0 l D kc b f3 h192_3) C hM (by decide) h192_3 rfl hl.1 rfl rfl (Nat.le_of_ble_eq_true rfl) dX13_count_80 ⟨Nat.le_of_ble_eq_true rfl, Nat.le_of_ble_eq_true rfl⟩ ⟨Nat.le_of_ble_eq_true rfl, Nat.le_of_ble_eq_true rfl⟩) hM (fun n56 f4 H locs hp hM => ?_)
    have hp : n56 = 220 ∧ f4 = f3 := hp
    obtain ⟨rfl, ef4⟩ := hp
    refine lv_iconst (v := 0) hx hb dX13_count_83 (by decide) ?_
    refine lv_istore_n (lv' := [(2, .int 0), (0, .ref (b + 192)), (1, .int 5)]) hx hb dX13_count_84 rfl hl (by decide) rfl (fun ls hl => ?_)
    refine lv_iconst (v := 0) hx hb dX13_count_85 (by decide) ?_
    refine lv_istore_n (lv' := [(3, .int 0), (2, .int 0), (0, .ref (b + 192)), (1, .int 5)]) hx hb dX13_count_86 rfl hl (by decide) rfl (fun ls hl => ?_)
    refine lv_iload_n hx hb dX13_count_87 rfl (lv_at hl 0 rfl) ?_
    refine lv_aload_n hx hb dX13_count_88 rfl (lv_at hl 2 rfl) ?_
    have h192_4 : f4 192 = .inr (13, [.ref (b + 193), .ref (b + 194), .ref (b + 195), .int 0, .int 0, .int 0, .ref (b + 196), .ref (b + 197), .int 0, .int 0, .int 0, .int 0, .int 0, .int 0, .int 0, .int (-1), .ref (b + 198), .ref (b + 199), .ref (b + 200), .ref (b + 201), .ref (b + 202), .ref (b + 203), .ref (b + 204), .ref (b + 205), .ref (b + 206), .ref (b + 207), .ref (b + 208), .int 0, .ref (b + 209), .ref (b + 210), .ref (b + 211), .ref (b + 212), .ref (b + 213), .ref (b + 214), .ref (b + 215), .int 0, .int 0, .int 0, .int 0, .ref (b + 216), .ref (b + 217), .ref (b + 218), .ref (b + 219)]) := m_sm ef4 h192_3
    refine m_get fl_X13_153_X13 C hM (i := 192) (by decide) h192_4 (v := .int 0) rfl dX13_count_89 ?_
    refine lv_icmp_ge (tgt := 144) hx hb dX13_count_92 (by decide) (fun _ => ?_) (fun h => absurd (by decide) h)
    refine lv_iload_n hx hb dX13_count_144 rfl (lv_at hl 1 rfl) ?_
    exact m_iret C hr hlk hM (by decide) dX13_count_145
  by_cases s57 : a0 = 6
  · subst s57
    refine lv_iload_n hx hb dX13_count_0 rfl (lv_at hl 1 rfl) ?_
    refine lv_i2l (v := 6) hx hb dX13_count_1 (by decide) ?_
    refine lv_lconst (v := 0) hx hb dX13_count_2 (by decide) ?_
    refine lv_ldc2 (v := 2) hx hb hown (hts _ wd_1368) dX13_count_3 ?_
    refine m_goi (m_runS calS_X13_in wd_1221 (a_X13_in_14 l D kc b f) C hM hl.1 rfl rfl (Nat.le_of_ble_eq_true rfl) dX13_count_6 ⟨Nat.le_of_ble_eq_true rfl, Nat.le_of_ble_eq_true rfl⟩ ⟨Nat.le_of_ble_eq_true rfl, Nat.le_of_ble_eq_true rfl⟩) hM (fun r58 n59 f1 H locs hp hM => ?_)
    have hp : r58 = 0 ∧ n59 = 220 ∧ f1 = f := hp
    obtain ⟨rfl, rfl, ef1⟩ := hp
    refine lv_if_eq (tgt := 18) hx hb dX13_count_9 (by decide) (fun _ => ?_) (fun h => absurd (by decide) h)
    refine lv_iload_n hx hb dX13_count_18 rfl (lv_at hl 1 rfl) ?_
    refine lv_i2l (v := 6) hx hb dX13_count_19 (by decide) ?_
    refine lv_ldc2 (v := 10) hx hb hown (hts _ wd_1350) dX13_count_20 ?_
    refine lv_ldc2 (v := 12) hx hb hown (hts _ wd_1482) dX13_count_23 ?_
    refine m_goi (m_runS calS_X13_in wd_1221 (a_X13_in_15 l D kc b f1) C hM hl.1 rfl rfl (Nat.le_of_ble_eq_true rfl) dX13_count_26 ⟨Nat.le_of_ble_eq_true rfl, Nat.le_of_ble_eq_true rfl⟩ ⟨Nat.le_of_ble_eq_true rfl, Nat.le_of_ble_eq_true rfl⟩) hM (fun r60 n61 f2 H locs hp hM => ?_)
    have hp : r60 = 0 ∧ n61 = 220 ∧ f2 = f1 := hp
    obtain ⟨rfl, rfl, ef2⟩ := hp
    refine lv_if_eq (tgt := 42) hx hb dX13_count_29 (by decide) (fun _ => ?_) (fun h => absurd (by decide) h)
    refine lv_iload_n hx hb dX13_count_42 rfl (lv_at hl 1 rfl) ?_
    refine lv_iconst (v := 3) hx hb dX13_count_43 (by decide) ?_
    refine lv_icmp_ne (tgt := 52) hx hb dX13_count_44 (by decide) (fun _ => ?_) (fun h => absurd h (by decide))
    refine lv_iload_n hx hb dX13_count_52 rfl (lv_at hl 1 rfl) ?_
    refine lv_bipush (v := 9) hx hb dX13_count_53 (by decide) ?_
    refine lv_icmp_ne (tgt := 63) hx hb dX13_count_55 (by decide) (fun _ => ?_) (fun h => absurd h (by decide))
    refine lv_iload_n hx hb dX13_count_63 rfl (lv_at hl 1 rfl) ?_
    refine lv_i2l (v := 6) hx hb dX13_count_64 (by decide) ?_
    refine lv_ldc2 (v := 4) hx hb hown (hts _ wd_1472) dX13_count_65 ?_
    refine lv_ldc2 (v := 8) hx hb hown (hts _ wd_1483) dX13_count_68 ?_
    refine m_goi (m_runS calS_X13_in wd_1221 (a_X13_in_16 l D kc b f2) C hM hl.1 rfl rfl (Nat.le_of_ble_eq_true rfl) dX13_count_71 ⟨Nat.le_of_ble_eq_true rfl, Nat.le_of_ble_eq_true rfl⟩ ⟨Nat.le_of_ble_eq_true rfl, Nat.le_of_ble_eq_true rfl⟩) hM (fun r62 n63 f3 H locs hp hM => ?_)
    have hp : r62 = 1 ∧ n63 = 220 ∧ f3 = f2 := hp
    obtain ⟨rfl, rfl, ef3⟩ := hp
    refine lv_if_ne (tgt := 79) hx hb dX13_count_74 (by decide) (fun _ => ?_) (fun h => absurd h (by decide))
    refine lv_aload_n hx hb dX13_count_79 rfl (lv_at hl 0 rfl) ?_
    have h192_1 : f1 192 = .inr (13, [.ref (b + 193), .ref (b + 194), .ref (b + 195), .int 0, .int 0, .int 0, .ref (b + 196), .ref (b + 197), .int 0, .int 0, .int 0, .int 0, .int 0, .int 0, .int 0, .int (-1), .ref (b + 198), .ref (b + 199), .ref (b + 200), .ref (b + 201), .ref (b + 202), .ref (b + 203), .ref (b + 204), .ref (b + 205), .ref (b + 206), .ref (b + 207), .ref (b + 208), .int 0, .ref (b + 209), .ref (b + 210), .ref (b + 211), .ref (b + 212), .ref (b + 213), .ref (b + 214), .ref (b + 215), .int 0, .int 0, .int 0, .int 0, .ref (b + 216), .ref (b + 217), .ref (b + 218), .ref (b + 219)]) := m_sm ef1 h192
    have h192_2 : f2 192 = .inr (13, [.ref (b + 193), .ref (b + 194), .ref (b + 195), .int 0, .int 0, .int 0, .ref (b + 196), .ref (b + 197), .int 0, .int 0, .int 0, .int 0, .int 0, .int 0, .int 0, .int (-1), .ref (b + 198), .ref (b + 199), .ref (b + 200), .ref (b + 201), .ref (b + 202), .ref (b + 203), .ref (b + 204), .ref (b + 205), .ref (b + 206), .ref (b + 207), .ref (b + 208), .int 0, .ref (b + 209), .ref (b + 210), .ref (b + 211), .ref (b + 212), .ref (b + 213), .ref (b + 214), .ref (b + 215), .int 0, .int 0, .int 0, .int 0, .ref (b + 216), .ref (b + 217), .ref (b + 218), .ref (b + 219)]) := m_sm ef2 h192_1
    have h192_3 : f3 192 = .inr (13, [.ref (b + 193), .ref (b + 194), .ref (b + 195), .int 0, .int 0, .int 0, .ref (b + 196), .ref (b + 197), .int 0, .int 0, .int 0, .int 0, .int 0, .int 0, .int 0, .int (-1), .ref (b + 198), .ref (b + 199), .ref (b + 200), .ref (b + 201), .ref (b + 202), .ref (b + 203), .ref (b + 204), .ref (b + 205), .ref (b + 206), .ref (b + 207), .ref (b + 208), .int 0, .ref (b + 209), .ref (b + 210), .ref (b + 211), .ref (b + 212), .ref (b + 213), .ref (b + 214), .ref (b + 215), .int 0, .int 0, .int 0, .int 0, .ref (b + 216), .ref (b + 217), .ref (b + 218), .ref (b + 219)]) := m_sm ef3 h192_2
    refine m_gov (m_runV calV_X13_judge wd_1352 (a_X13_judge_0 l D kc b f3 h192_3) C hM (by decide) h192_3 rfl hl.1 rfl rfl (Nat.le_of_ble_eq_true rfl) dX13_count_80 ⟨Nat.le_of_ble_eq_true rfl, Nat.le_of_ble_eq_true rfl⟩ ⟨Nat.le_of_ble_eq_true rfl, Nat.le_of_ble_eq_true rfl⟩) hM (fun n65 f4 H locs hp hM => ?_)
    have hp : n65 = 220 ∧ f4 = f3 := hp
    obtain ⟨rfl, ef4⟩ := hp
    refine lv_iconst (v := 0) hx hb dX13_count_83 (by decide) ?_
    refine lv_istore_n (lv' := [(2, .int 0), (0, .ref (b + 192)), (1, .int 6)]) hx hb dX13_count_84 rfl hl (by decide) rfl (fun ls hl => ?_)
    refine lv_iconst (v := 0) hx hb dX13_count_85 (by decide) ?_
    refine lv_istore_n (lv' := [(3, .int 0), (2, .int 0), (0, .ref (b + 192)), (1, .int 6)]) hx hb dX13_count_86 rfl hl (by decide) rfl (fun ls hl => ?_)
    refine lv_iload_n hx hb dX13_count_87 rfl (lv_at hl 0 rfl) ?_
    refine lv_aload_n hx hb dX13_count_88 rfl (lv_at hl 2 rfl) ?_
    have h192_4 : f4 192 = .inr (13, [.ref (b + 193), .ref (b + 194), .ref (b + 195), .int 0, .int 0, .int 0, .ref (b + 196), .ref (b + 197), .int 0, .int 0, .int 0, .int 0, .int 0, .int 0, .int 0, .int (-1), .ref (b + 198), .ref (b + 199), .ref (b + 200), .ref (b + 201), .ref (b + 202), .ref (b + 203), .ref (b + 204), .ref (b + 205), .ref (b + 206), .ref (b + 207), .ref (b + 208), .int 0, .ref (b + 209), .ref (b + 210), .ref (b + 211), .ref (b + 212), .ref (b + 213), .ref (b + 214), .ref (b + 215), .int 0, .int 0, .int 0, .int 0, .ref (b + 216), .ref (b + 217), .ref (b + 218), .ref (b + 219)]) := m_sm ef4 h192_3
    refine m_get fl_X13_153_X13 C hM (i := 192) (by decide) h192_4 (v := .int 0) rfl dX13_count_89 ?_
    refine lv_icmp_ge (tgt := 144) hx hb dX13_count_92 (by decide) (fun _ => ?_) (fun h => absurd (by decide) h)
    refine lv_iload_n hx hb dX13_count_144 rfl (lv_at hl 1 rfl) ?_
    exact m_iret C hr hlk hM (by decide) dX13_count_145
  by_cases s66 : a0 = 7
  · subst s66
    refine lv_iload_n hx hb dX13_count_0 rfl (lv_at hl 1 rfl) ?_
    refine lv_i2l (v := 7) hx hb dX13_count_1 (by decide) ?_
    refine lv_lconst (v := 0) hx hb dX13_count_2 (by decide) ?_
    refine lv_ldc2 (v := 2) hx hb hown (hts _ wd_1368) dX13_count_3 ?_
    refine m_goi (m_runS calS_X13_in wd_1221 (a_X13_in_17 l D kc b f) C hM hl.1 rfl rfl (Nat.le_of_ble_eq_true rfl) dX13_count_6 ⟨Nat.le_of_ble_eq_true rfl, Nat.le_of_ble_eq_true rfl⟩ ⟨Nat.le_of_ble_eq_true rfl, Nat.le_of_ble_eq_true rfl⟩) hM (fun r67 n68 f1 H locs hp hM => ?_)
    have hp : r67 = 0 ∧ n68 = 220 ∧ f1 = f := hp
    obtain ⟨rfl, rfl, ef1⟩ := hp
    refine lv_if_eq (tgt := 18) hx hb dX13_count_9 (by decide) (fun _ => ?_) (fun h => absurd (by decide) h)
    refine lv_iload_n hx hb dX13_count_18 rfl (lv_at hl 1 rfl) ?_
    refine lv_i2l (v := 7) hx hb dX13_count_19 (by decide) ?_
    refine lv_ldc2 (v := 10) hx hb hown (hts _ wd_1350) dX13_count_20 ?_
    refine lv_ldc2 (v := 12) hx hb hown (hts _ wd_1482) dX13_count_23 ?_
    refine m_goi (m_runS calS_X13_in wd_1221 (a_X13_in_18 l D kc b f1) C hM hl.1 rfl rfl (Nat.le_of_ble_eq_true rfl) dX13_count_26 ⟨Nat.le_of_ble_eq_true rfl, Nat.le_of_ble_eq_true rfl⟩ ⟨Nat.le_of_ble_eq_true rfl, Nat.le_of_ble_eq_true rfl⟩) hM (fun r69 n70 f2 H locs hp hM => ?_)
    have hp : r69 = 0 ∧ n70 = 220 ∧ f2 = f1 := hp
    obtain ⟨rfl, rfl, ef2⟩ := hp
    refine lv_if_eq (tgt := 42) hx hb dX13_count_29 (by decide) (fun _ => ?_) (fun h => absurd (by decide) h)
    refine lv_iload_n hx hb dX13_count_42 rfl (lv_at hl 1 rfl) ?_
    refine lv_iconst (v := 3) hx hb dX13_count_43 (by decide) ?_
    refine lv_icmp_ne (tgt := 52) hx hb dX13_count_44 (by decide) (fun _ => ?_) (fun h => absurd h (by decide))
    refine lv_iload_n hx hb dX13_count_52 rfl (lv_at hl 1 rfl) ?_
    refine lv_bipush (v := 9) hx hb dX13_count_53 (by decide) ?_
    refine lv_icmp_ne (tgt := 63) hx hb dX13_count_55 (by decide) (fun _ => ?_) (fun h => absurd h (by decide))
    refine lv_iload_n hx hb dX13_count_63 rfl (lv_at hl 1 rfl) ?_
    refine lv_i2l (v := 7) hx hb dX13_count_64 (by decide) ?_
    refine lv_ldc2 (v := 4) hx hb hown (hts _ wd_1472) dX13_count_65 ?_
    refine lv_ldc2 (v := 8) hx hb hown (hts _ wd_1483) dX13_count_68 ?_
    refine m_goi (m_runS calS_X13_in wd_1221 (a_X13_in_19 l D kc b f2) C hM hl.1 rfl rfl (Nat.le_of_ble_eq_true rfl) dX13_count_71 ⟨Nat.le_of_ble_eq_true rfl, Nat.le_of_ble_eq_true rfl⟩ ⟨Nat.le_of_ble_eq_true rfl, Nat.le_of_ble_eq_true rfl⟩) hM (fun r71 n72 f3 H locs hp hM => ?_)
    have hp : r71 = 1 ∧ n72 = 220 ∧ f3 = f2 := hp
    obtain ⟨rfl, rfl, ef3⟩ := hp
    refine lv_if_ne (tgt := 79) hx hb dX13_count_74 (by decide) (fun _ => ?_) (fun h => absurd h (by decide))
    refine lv_aload_n hx hb dX13_count_79 rfl (lv_at hl 0 rfl) ?_
    have h192_1 : f1 192 = .inr (13, [.ref (b + 193), .ref (b + 194), .ref (b + 195), .int 0, .int 0, .int 0, .ref (b + 196), .ref (b + 197), .int 0, .int 0, .int 0, .int 0, .int 0, .int 0, .int 0, .int (-1), .ref (b + 198), .ref (b + 199), .ref (b + 200), .ref (b + 201), .ref (b + 202), .ref (b + 203), .ref (b + 204), .ref (b + 205), .ref (b + 206), .ref (b + 207), .ref (b + 208), .int 0, .ref (b + 209), .ref (b + 210), .ref (b + 211), .ref (b + 212), .ref (b + 213), .ref (b + 214), .ref (b + 215), .int 0, .int 0, .int 0, .int 0, .ref (b + 216), .ref (b + 217), .ref (b + 218), .ref (b + 219)]) := m_sm ef1 h192
    have h192_2 : f2 192 = .inr (13, [.ref (b + 193), .ref (b + 194), .ref (b + 195), .int 0, .int 0, .int 0, .ref (b + 196), .ref (b + 197), .int 0, .int 0, .int 0, .int 0, .int 0, .int 0, .int 0, .int (-1), .ref (b + 198), .ref (b + 199), .ref (b + 200), .ref (b + 201), .ref (b + 202), .ref (b + 203), .ref (b + 204), .ref (b + 205), .ref (b + 206), .ref (b + 207), .ref (b + 208), .int 0, .ref (b + 209), .ref (b + 210), .ref (b + 211), .ref (b + 212), .ref (b + 213), .ref (b + 214), .ref (b + 215), .int 0, .int 0, .int 0, .int 0, .ref (b + 216), .ref (b + 217), .ref (b + 218), .ref (b + 219)]) := m_sm ef2 h192_1
    have h192_3 : f3 192 = .inr (13, [.ref (b + 193), .ref (b + 194), .ref (b + 195), .int 0, .int 0, .int 0, .ref (b + 196), .ref (b + 197), .int 0, .int 0, .int 0, .int 0, .int 0, .int 0, .int 0, .int (-1), .ref (b + 198), .ref (b + 199), .ref (b + 200), .ref (b + 201), .ref (b + 202), .ref (b + 203), .ref (b + 204), .ref (b + 205), .ref (b + 206), .ref (b + 207), .ref (b + 208), .int 0, .ref (b + 209), .ref (b + 210), .ref (b + 211), .ref (b + 212), .ref (b + 213), .ref (b + 214), .ref (b + 215), .int 0, .int 0, .int 0, .int 0, .ref (b + 216), .ref (b + 217), .ref (b + 218), .ref (b + 219)]) := m_sm ef3 h192_2
    refine m_gov (m_runV calV_X13_judge wd_1352 (a_X13_judge_0 l D kc b f3 h192_3) C hM (by decide) h192_3 rfl hl.1 rfl rfl (Nat.le_of_ble_eq_true rfl) dX13_count_80 ⟨Nat.le_of_ble_eq_true rfl, Nat.le_of_ble_eq_true rfl⟩ ⟨Nat.le_of_ble_eq_true rfl, Nat.le_of_ble_eq_true rfl⟩) hM (fun n74 f4 H locs hp hM => ?_)
    have hp : n74 = 220 ∧ f4 = f3 := hp
    obtain ⟨rfl, ef4⟩ := hp
    refine lv_iconst (v := 0) hx hb dX13_count_83 (by decide) ?_
    refine lv_istore_n (lv' := [(2, .int 0), (0, .ref (b + 192)), (1, .int 7)]) hx hb dX13_count_84 rfl hl (by decide) rfl (fun ls hl => ?_)
    refine lv_iconst (v := 0) hx hb dX13_count_85 (by decide) ?_
    refine lv_istore_n (lv' := [(3, .int 0), (2, .int 0), (0, .ref (b + 192)), (1, .int 7)]) hx hb dX13_count_86 rfl hl (by decide) rfl (fun ls hl => ?_)
    refine lv_iload_n hx hb dX13_count_87 rfl (lv_at hl 0 rfl) ?_
    refine lv_aload_n hx hb dX13_count_88 rfl (lv_at hl 2 rfl) ?_
    have h192_4 : f4 192 = .inr (13, [.ref (b + 193), .ref (b + 194), .ref (b + 195), .int 0, .int 0, .int 0, .ref (b + 196), .ref (b + 197), .int 0, .int 0, .int 0, .int 0, .int 0, .int 0, .int 0, .int (-1), .ref (b + 198), .ref (b + 199), .ref (b + 200), .ref (b + 201), .ref (b + 202), .ref (b + 203), .ref (b + 204), .ref (b + 205), .ref (b + 206), .ref (b + 207), .ref (b + 208), .int 0, .ref (b + 209), .ref (b + 210), .ref (b + 211), .ref (b + 212), .ref (b + 213), .ref (b + 214), .ref (b + 215), .int 0, .int 0, .int 0, .int 0, .ref (b + 216), .ref (b + 217), .ref (b + 218), .ref (b + 219)]) := m_sm ef4 h192_3
    refine m_get fl_X13_153_X13 C hM (i := 192) (by decide) h192_4 (v := .int 0) rfl dX13_count_89 ?_
    refine lv_icmp_ge (tgt := 144) hx hb dX13_count_92 (by decide) (fun _ => ?_) (fun h => absurd (by decide) h)
    refine lv_iload_n hx hb dX13_count_144 rfl (lv_at hl 1 rfl) ?_
    exact m_iret C hr hlk hM (by decide) dX13_count_145
  by_cases s75 : a0 = 8
  · subst s75
    refine lv_iload_n hx hb dX13_count_0 rfl (lv_at hl 1 rfl) ?_
    refine lv_i2l (v := 8) hx hb dX13_count_1 (by decide) ?_
    refine lv_lconst (v := 0) hx hb dX13_count_2 (by decide) ?_
    refine lv_ldc2 (v := 2) hx hb hown (hts _ wd_1368) dX13_count_3 ?_
    refine m_goi (m_runS calS_X13_in wd_1221 (a_X13_in_20 l D kc b f) C hM hl.1 rfl rfl (Nat.le_of_ble_eq_true rfl) dX13_count_6 ⟨Nat.le_of_ble_eq_true rfl, Nat.le_of_ble_eq_true rfl⟩ ⟨Nat.le_of_ble_eq_true rfl, Nat.le_of_ble_eq_true rfl⟩) hM (fun r76 n77 f1 H locs hp hM => ?_)
    have hp : r76 = 0 ∧ n77 = 220 ∧ f1 = f := hp
    obtain ⟨rfl, rfl, ef1⟩ := hp
    refine lv_if_eq (tgt := 18) hx hb dX13_count_9 (by decide) (fun _ => ?_) (fun h => absurd (by decide) h)
    refine lv_iload_n hx hb dX13_count_18 rfl (lv_at hl 1 rfl) ?_
    refine lv_i2l (v := 8) hx hb dX13_count_19 (by decide) ?_
    refine lv_ldc2 (v := 10) hx hb hown (hts _ wd_1350) dX13_count_20 ?_
    refine lv_ldc2 (v := 12) hx hb hown (hts _ wd_1482) dX13_count_23 ?_
    refine m_goi (m_runS calS_X13_in wd_1221 (a_X13_in_21 l D kc b f1) C hM hl.1 rfl rfl (Nat.le_of_ble_eq_true rfl) dX13_count_26 ⟨Nat.le_of_ble_eq_true rfl, Nat.le_of_ble_eq_true rfl⟩ ⟨Nat.le_of_ble_eq_true rfl, Nat.le_of_ble_eq_true rfl⟩) hM (fun r78 n79 f2 H locs hp hM => ?_)
    have hp : r78 = 0 ∧ n79 = 220 ∧ f2 = f1 := hp
    obtain ⟨rfl, rfl, ef2⟩ := hp
    refine lv_if_eq (tgt := 42) hx hb dX13_count_29 (by decide) (fun _ => ?_) (fun h => absurd (by decide) h)
    refine lv_iload_n hx hb dX13_count_42 rfl (lv_at hl 1 rfl) ?_
    refine lv_iconst (v := 3) hx hb dX13_count_43 (by decide) ?_
    refine lv_icmp_ne (tgt := 52) hx hb dX13_count_44 (by decide) (fun _ => ?_) (fun h => absurd h (by decide))
    refine lv_iload_n hx hb dX13_count_52 rfl (lv_at hl 1 rfl) ?_
    refine lv_bipush (v := 9) hx hb dX13_count_53 (by decide) ?_
    refine lv_icmp_ne (tgt := 63) hx hb dX13_count_55 (by decide) (fun _ => ?_) (fun h => absurd h (by decide))
    refine lv_iload_n hx hb dX13_count_63 rfl (lv_at hl 1 rfl) ?_
    refine lv_i2l (v := 8) hx hb dX13_count_64 (by decide) ?_
    refine lv_ldc2 (v := 4) hx hb hown (hts _ wd_1472) dX13_count_65 ?_
    refine lv_ldc2 (v := 8) hx hb hown (hts _ wd_1483) dX13_count_68 ?_
    refine m_goi (m_runS calS_X13_in wd_1221 (a_X13_in_22 l D kc b f2) C hM hl.1 rfl rfl (Nat.le_of_ble_eq_true rfl) dX13_count_71 ⟨Nat.le_of_ble_eq_true rfl, Nat.le_of_ble_eq_true rfl⟩ ⟨Nat.le_of_ble_eq_true rfl, Nat.le_of_ble_eq_true rfl⟩) hM (fun r80 n81 f3 H locs hp hM => ?_)
    have hp : r80 = 1 ∧ n81 = 220 ∧ f3 = f2 := hp
    obtain ⟨rfl, rfl, ef3⟩ := hp
    refine lv_if_ne (tgt := 79) hx hb dX13_count_74 (by decide) (fun _ => ?_) (fun h => absurd h (by decide))
    refine lv_aload_n hx hb dX13_count_79 rfl (lv_at hl 0 rfl) ?_
    have h192_1 : f1 192 = .inr (13, [.ref (b + 193), .ref (b + 194), .ref (b + 195), .int 0, .int 0, .int 0, .ref (b + 196), .ref (b + 197), .int 0, .int 0, .int 0, .int 0, .int 0, .int 0, .int 0, .int (-1), .ref (b + 198), .ref (b + 199), .ref (b + 200), .ref (b + 201), .ref (b + 202), .ref (b + 203), .ref (b + 204), .ref (b + 205), .ref (b + 206), .ref (b + 207), .ref (b + 208), .int 0, .ref (b + 209), .ref (b + 210), .ref (b + 211), .ref (b + 212), .ref (b + 213), .ref (b + 214), .ref (b + 215), .int 0, .int 0, .int 0, .int 0, .ref (b + 216), .ref (b + 217), .ref (b + 218), .ref (b + 219)]) := m_sm ef1 h192
    have h192_2 : f2 192 = .inr (13, [.ref (b + 193), .ref (b + 194), .ref (b + 195), .int 0, .int 0, .int 0, .ref (b + 196), .ref (b + 197), .int 0, .int 0, .int 0, .int 0, .int 0, .int 0, .int 0, .int (-1), .ref (b + 198), .ref (b + 199), .ref (b + 200), .ref (b + 201), .ref (b + 202), .ref (b + 203), .ref (b + 204), .ref (b + 205), .ref (b + 206), .ref (b + 207), .ref (b + 208), .int 0, .ref (b + 209), .ref (b + 210), .ref (b + 211), .ref (b + 212), .ref (b + 213), .ref (b + 214), .ref (b + 215), .int 0, .int 0, .int 0, .int 0, .ref (b + 216), .ref (b + 217), .ref (b + 218), .ref (b + 219)]) := m_sm ef2 h192_1
    have h192_3 : f3 192 = .inr (13, [.ref (b + 193), .ref (b + 194), .ref (b + 195), .int 0, .int 0, .int 0, .ref (b + 196), .ref (b + 197), .int 0, .int 0, .int 0, .int 0, .int 0, .int 0, .int 0, .int (-1), .ref (b + 198), .ref (b + 199), .ref (b + 200), .ref (b + 201), .ref (b + 202), .ref (b + 203), .ref (b + 204), .ref (b + 205), .ref (b + 206), .ref (b + 207), .ref (b + 208), .int 0, .ref (b + 209), .ref (b + 210), .ref (b + 211), .ref (b + 212), .ref (b + 213), .ref (b + 214), .ref (b + 215), .int 0, .int 0, .int 0, .int 0, .ref (b + 216), .ref (b + 217), .ref (b + 218), .ref (b + 219)]) := m_sm ef3 h192_2
    refine m_gov (m_runV calV_X13_judge wd_1352 (a_X13_judge_0 l D kc b f3 h192_3) C hM (by decide) h192_3 rfl hl.1 rfl rfl (Nat.le_of_ble_eq_true rfl) dX13_count_80 ⟨Nat.le_of_ble_eq_true rfl, Nat.le_of_ble_eq_true rfl⟩ ⟨Nat.le_of_ble_eq_true rfl, Nat.le_of_ble_eq_true rfl⟩) hM (fun n83 f4 H locs hp hM => ?_)
    have hp : n83 = 220 ∧ f4 = f3 := hp
    obtain ⟨rfl, ef4⟩ := hp
    refine lv_iconst (v := 0) hx hb dX13_count_83 (by decide) ?_
    refine lv_istore_n (lv' := [(2, .int 0), (0, .ref (b + 192)), (1, .int 8)]) hx hb dX13_count_84 rfl hl (by decide) rfl (fun ls hl => ?_)
    refine lv_iconst (v := 0) hx hb dX13_count_85 (by decide) ?_
    refine lv_istore_n (lv' := [(3, .int 0), (2, .int 0), (0, .ref (b + 192)), (1, .int 8)]) hx hb dX13_count_86 rfl hl (by decide) rfl (fun ls hl => ?_)
    refine lv_iload_n hx hb dX13_count_87 rfl (lv_at hl 0 rfl) ?_
    refine lv_aload_n hx hb dX13_count_88 rfl (lv_at hl 2 rfl) ?_
    have h192_4 : f4 192 = .inr (13, [.ref (b + 193), .ref (b + 194), .ref (b + 195), .int 0, .int 0, .int 0, .ref (b + 196), .ref (b + 197), .int 0, .int 0, .int 0, .int 0, .int 0, .int 0, .int 0, .int (-1), .ref (b + 198), .ref (b + 199), .ref (b + 200), .ref (b + 201), .ref (b + 202), .ref (b + 203), .ref (b + 204), .ref (b + 205), .ref (b + 206), .ref (b + 207), .ref (b + 208), .int 0, .ref (b + 209), .ref (b + 210), .ref (b + 211), .ref (b + 212), .ref (b + 213), .ref (b + 214), .ref (b + 215), .int 0, .int 0, .int 0, .int 0, .ref (b + 216), .ref (b + 217), .ref (b + 218), .ref (b + 219)]) := m_sm ef4 h192_3
    refine m_get fl_X13_153_X13 C hM (i := 192) (by decide) h192_4 (v := .int 0) rfl dX13_count_89 ?_
    refine lv_icmp_ge (tgt := 144) hx hb dX13_count_92 (by decide) (fun _ => ?_) (fun h => absurd (by decide) h)
    refine lv_iload_n hx hb dX13_count_144 rfl (lv_at hl 1 rfl) ?_
    exact m_iret C hr hlk hM (by decide) dX13_count_145
  by_cases s84 : a0 = 9
  · subst s84
    refine lv_iload_n hx hb dX13_count_0 rfl (lv_at hl 1 rfl) ?_
    refine lv_i2l (v := 9) hx hb dX13_count_1 (by decide) ?_
    refine lv_lconst (v := 0) hx hb dX13_count_2 (by decide) ?_
    refine lv_ldc2 (v := 2) hx hb hown (hts _ wd_1368) dX13_count_3 ?_
    refine m_goi (m_runS calS_X13_in wd_1221 (a_X13_in_23 l D kc b f) C hM hl.1 rfl rfl (Nat.le_of_ble_eq_true rfl) dX13_count_6 ⟨Nat.le_of_ble_eq_true rfl, Nat.le_of_ble_eq_true rfl⟩ ⟨Nat.le_of_ble_eq_true rfl, Nat.le_of_ble_eq_true rfl⟩) hM (fun r85 n86 f1 H locs hp hM => ?_)
    have hp : r85 = 0 ∧ n86 = 220 ∧ f1 = f := hp
    obtain ⟨rfl, rfl, ef1⟩ := hp
    refine lv_if_eq (tgt := 18) hx hb dX13_count_9 (by decide) (fun _ => ?_) (fun h => absurd (by decide) h)
    refine lv_iload_n hx hb dX13_count_18 rfl (lv_at hl 1 rfl) ?_
    refine lv_i2l (v := 9) hx hb dX13_count_19 (by decide) ?_
    refine lv_ldc2 (v := 10) hx hb hown (hts _ wd_1350) dX13_count_20 ?_
    refine lv_ldc2 (v := 12) hx hb hown (hts _ wd_1482) dX13_count_23 ?_
    refine m_goi (m_runS calS_X13_in wd_1221 (a_X13_in_24 l D kc b f1) C hM hl.1 rfl rfl (Nat.le_of_ble_eq_true rfl) dX13_count_26 ⟨Nat.le_of_ble_eq_true rfl, Nat.le_of_ble_eq_true rfl⟩ ⟨Nat.le_of_ble_eq_true rfl, Nat.le_of_ble_eq_true rfl⟩) hM (fun r87 n88 f2 H locs hp hM => ?_)
    have hp : r87 = 0 ∧ n88 = 220 ∧ f2 = f1 := hp
    obtain ⟨rfl, rfl, ef2⟩ := hp
    refine lv_if_eq (tgt := 42) hx hb dX13_count_29 (by decide) (fun _ => ?_) (fun h => absurd (by decide) h)
    refine lv_iload_n hx hb dX13_count_42 rfl (lv_at hl 1 rfl) ?_
    refine lv_iconst (v := 3) hx hb dX13_count_43 (by decide) ?_
    refine lv_icmp_ne (tgt := 52) hx hb dX13_count_44 (by decide) (fun _ => ?_) (fun h => absurd h (by decide))
    refine lv_iload_n hx hb dX13_count_52 rfl (lv_at hl 1 rfl) ?_
    refine lv_bipush (v := 9) hx hb dX13_count_53 (by decide) ?_
    refine lv_icmp_ne (tgt := 63) hx hb dX13_count_55 (by decide) (fun h => absurd (by decide) h) (fun _ => ?_)
    refine lv_aload_n hx hb dX13_count_58 rfl (lv_at hl 0 rfl) ?_
    have h192_1 : f1 192 = .inr (13, [.ref (b + 193), .ref (b + 194), .ref (b + 195), .int 0, .int 0, .int 0, .ref (b + 196), .ref (b + 197), .int 0, .int 0, .int 0, .int 0, .int 0, .int 0, .int 0, .int (-1), .ref (b + 198), .ref (b + 199), .ref (b + 200), .ref (b + 201), .ref (b + 202), .ref (b + 203), .ref (b + 204), .ref (b + 205), .ref (b + 206), .ref (b + 207), .ref (b + 208), .int 0, .ref (b + 209), .ref (b + 210), .ref (b + 211), .ref (b + 212), .ref (b + 213), .ref (b + 214), .ref (b + 215), .int 0, .int 0, .int 0, .int 0, .ref (b + 216), .ref (b + 217), .ref (b + 218), .ref (b + 219)]) := m_sm ef1 h192
    have h192_2 : f2 192 = .inr (13, [.ref (b + 193), .ref (b + 194), .ref (b + 195), .int 0, .int 0, .int 0, .ref (b + 196), .ref (b + 197), .int 0, .int 0, .int 0, .int 0, .int 0, .int 0, .int 0, .int (-1), .ref (b + 198), .ref (b + 199), .ref (b + 200), .ref (b + 201), .ref (b + 202), .ref (b + 203), .ref (b + 204), .ref (b + 205), .ref (b + 206), .ref (b + 207), .ref (b + 208), .int 0, .ref (b + 209), .ref (b + 210), .ref (b + 211), .ref (b + 212), .ref (b + 213), .ref (b + 214), .ref (b + 215), .int 0, .int 0, .int 0, .int 0, .ref (b + 216), .ref (b + 217), .ref (b + 218), .ref (b + 219)]) := m_sm ef2 h192_1
    refine m_get fl_X13_28_X13 C hM (i := 192) (by decide) h192_2 (v := .int 0) rfl dX13_count_59 ?_
    exact m_iret C hr hlk hM (by decide) dX13_count_62
  by_cases s89 : a0 = 10
  · subst s89
    refine lv_iload_n hx hb dX13_count_0 rfl (lv_at hl 1 rfl) ?_
    refine lv_i2l (v := 10) hx hb dX13_count_1 (by decide) ?_
    refine lv_lconst (v := 0) hx hb dX13_count_2 (by decide) ?_
    refine lv_ldc2 (v := 2) hx hb hown (hts _ wd_1368) dX13_count_3 ?_
    refine m_goi (m_runS calS_X13_in wd_1221 (a_X13_in_25 l D kc b f) C hM hl.1 rfl rfl (Nat.le_of_ble_eq_true rfl) dX13_count_6 ⟨Nat.le_of_ble_eq_true rfl, Nat.le_of_ble_eq_true rfl⟩ ⟨Nat.le_of_ble_eq_true rfl, Nat.le_of_ble_eq_true rfl⟩) hM (fun r90 n91 f1 H locs hp hM => ?_)
    have hp : r90 = 0 ∧ n91 = 220 ∧ f1 = f := hp
    obtain ⟨rfl, rfl, ef1⟩ := hp
    refine lv_if_eq (tgt := 18) hx hb dX13_count_9 (by decide) (fun _ => ?_) (fun h => absurd (by decide) h)
    refine lv_iload_n hx hb dX13_count_18 rfl (lv_at hl 1 rfl) ?_
    refine lv_i2l (v := 10) hx hb dX13_count_19 (by decide) ?_
    refine lv_ldc2 (v := 10) hx hb hown (hts _ wd_1350) dX13_count_20 ?_
    refine lv_ldc2 (v := 12) hx hb hown (hts _ wd_1482) dX13_count_23 ?_
    refine m_goi (m_runS calS_X13_in wd_1221 (a_X13_in_26 l D kc b f1) C hM hl.1 rfl rfl (Nat.le_of_ble_eq_true rfl) dX13_count_26 ⟨Nat.le_of_ble_eq_true rfl, Nat.le_of_ble_eq_true rfl⟩ ⟨Nat.le_of_ble_eq_true rfl, Nat.le_of_ble_eq_true rfl⟩) hM (fun r92 n93 f2 H locs hp hM => ?_)
    have hp : r92 = 1 ∧ n93 = 220 ∧ f2 = f1 := hp
    obtain ⟨rfl, rfl, ef2⟩ := hp
    refine lv_if_eq (tgt := 42) hx hb dX13_count_29 (by decide) (fun h => absurd h (by decide)) (fun _ => ?_)
    refine lv_aload_n hx hb dX13_count_32 rfl (lv_at hl 0 rfl) ?_
    have h192_1 : f1 192 = .inr (13, [.ref (b + 193), .ref (b + 194), .ref (b + 195), .int 0, .int 0, .int 0, .ref (b + 196), .ref (b + 197), .int 0, .int 0, .int 0, .int 0, .int 0, .int 0, .int 0, .int (-1), .ref (b + 198), .ref (b + 199), .ref (b + 200), .ref (b + 201), .ref (b + 202), .ref (b + 203), .ref (b + 204), .ref (b + 205), .ref (b + 206), .ref (b + 207), .ref (b + 208), .int 0, .ref (b + 209), .ref (b + 210), .ref (b + 211), .ref (b + 212), .ref (b + 213), .ref (b + 214), .ref (b + 215), .int 0, .int 0, .int 0, .int 0, .ref (b + 216), .ref (b + 217), .ref (b + 218), .ref (b + 219)]) := m_sm ef1 h192
    have h192_2 : f2 192 = .inr (13, [.ref (b + 193), .ref (b + 194), .ref (b + 195), .int 0, .int 0, .int 0, .ref (b + 196), .ref (b + 197), .int 0, .int 0, .int 0, .int 0, .int 0, .int 0, .int 0, .int (-1), .ref (b + 198), .ref (b + 199), .ref (b + 200), .ref (b + 201), .ref (b + 202), .ref (b + 203), .ref (b + 204), .ref (b + 205), .ref (b + 206), .ref (b + 207), .ref (b + 208), .int 0, .ref (b + 209), .ref (b + 210), .ref (b + 211), .ref (b + 212), .ref (b + 213), .ref (b + 214), .ref (b + 215), .int 0, .int 0, .int 0, .int 0, .ref (b + 216), .ref (b + 217), .ref (b + 218), .ref (b + 219)]) := m_sm ef2 h192_1
    refine m_get fl_X13_102_X13 C hM (i := 192) (by decide) h192_2 (v := .ref (b + 209)) rfl dX13_count_33 ?_
    refine lv_iload_n hx hb dX13_count_36 rfl (lv_at hl 1 rfl) ?_
    refine lv_bipush (v := 10) hx hb dX13_count_37 (by decide) ?_
    refine lv_isub hx hb dX13_count_39 ?_
    refine m_vi (y := 0) (by decide) ?_
    have h209_1 : f1 209 = .inl (kc 1, 3, .inl (mRk)) := m_sm ef1 h209
    have h209_2 : f2 209 = .inl (kc 1, 3, .inl (mRk)) := m_sm ef2 h209_1
    refine m_iald C hM (j := 209) (by decide) h209_2 (m_in (by decide)) dX13_count_40 ?_
    refine m_vi (y := 0) (by decide) ?_
    exact m_iret C hr hlk hM (by decide) dX13_count_41
  by_cases s94 : a0 = 11
  · subst s94
    refine lv_iload_n hx hb dX13_count_0 rfl (lv_at hl 1 rfl) ?_
    refine lv_i2l (v := 11) hx hb dX13_count_1 (by decide) ?_
    refine lv_lconst (v := 0) hx hb dX13_count_2 (by decide) ?_
    refine lv_ldc2 (v := 2) hx hb hown (hts _ wd_1368) dX13_count_3 ?_
    refine m_goi (m_runS calS_X13_in wd_1221 (a_X13_in_27 l D kc b f) C hM hl.1 rfl rfl (Nat.le_of_ble_eq_true rfl) dX13_count_6 ⟨Nat.le_of_ble_eq_true rfl, Nat.le_of_ble_eq_true rfl⟩ ⟨Nat.le_of_ble_eq_true rfl, Nat.le_of_ble_eq_true rfl⟩) hM (fun r95 n96 f1 H locs hp hM => ?_)
    have hp : r95 = 0 ∧ n96 = 220 ∧ f1 = f := hp
    obtain ⟨rfl, rfl, ef1⟩ := hp
    refine lv_if_eq (tgt := 18) hx hb dX13_count_9 (by decide) (fun _ => ?_) (fun h => absurd (by decide) h)
    refine lv_iload_n hx hb dX13_count_18 rfl (lv_at hl 1 rfl) ?_
    refine lv_i2l (v := 11) hx hb dX13_count_19 (by decide) ?_
    refine lv_ldc2 (v := 10) hx hb hown (hts _ wd_1350) dX13_count_20 ?_
    refine lv_ldc2 (v := 12) hx hb hown (hts _ wd_1482) dX13_count_23 ?_
    refine m_goi (m_runS calS_X13_in wd_1221 (a_X13_in_28 l D kc b f1) C hM hl.1 rfl rfl (Nat.le_of_ble_eq_true rfl) dX13_count_26 ⟨Nat.le_of_ble_eq_true rfl, Nat.le_of_ble_eq_true rfl⟩ ⟨Nat.le_of_ble_eq_true rfl, Nat.le_of_ble_eq_true rfl⟩) hM (fun r97 n98 f2 H locs hp hM => ?_)
    have hp : r97 = 1 ∧ n98 = 220 ∧ f2 = f1 := hp
    obtain ⟨rfl, rfl, ef2⟩ := hp
    refine lv_if_eq (tgt := 42) hx hb dX13_count_29 (by decide) (fun h => absurd h (by decide)) (fun _ => ?_)
    refine lv_aload_n hx hb dX13_count_32 rfl (lv_at hl 0 rfl) ?_
    have h192_1 : f1 192 = .inr (13, [.ref (b + 193), .ref (b + 194), .ref (b + 195), .int 0, .int 0, .int 0, .ref (b + 196), .ref (b + 197), .int 0, .int 0, .int 0, .int 0, .int 0, .int 0, .int 0, .int (-1), .ref (b + 198), .ref (b + 199), .ref (b + 200), .ref (b + 201), .ref (b + 202), .ref (b + 203), .ref (b + 204), .ref (b + 205), .ref (b + 206), .ref (b + 207), .ref (b + 208), .int 0, .ref (b + 209), .ref (b + 210), .ref (b + 211), .ref (b + 212), .ref (b + 213), .ref (b + 214), .ref (b + 215), .int 0, .int 0, .int 0, .int 0, .ref (b + 216), .ref (b + 217), .ref (b + 218), .ref (b + 219)]) := m_sm ef1 h192
    have h192_2 : f2 192 = .inr (13, [.ref (b + 193), .ref (b + 194), .ref (b + 195), .int 0, .int 0, .int 0, .ref (b + 196), .ref (b + 197), .int 0, .int 0, .int 0, .int 0, .int 0, .int 0, .int 0, .int (-1), .ref (b + 198), .ref (b + 199), .ref (b + 200), .ref (b + 201), .ref (b + 202), .ref (b + 203), .ref (b + 204), .ref (b + 205), .ref (b + 206), .ref (b + 207), .ref (b + 208), .int 0, .ref (b + 209), .ref (b + 210), .ref (b + 211), .ref (b + 212), .ref (b + 213), .ref (b + 214), .ref (b + 215), .int 0, .int 0, .int 0, .int 0, .ref (b + 216), .ref (b + 217), .ref (b + 218), .ref (b + 219)]) := m_sm ef2 h192_1
    refine m_get fl_X13_102_X13 C hM (i := 192) (by decide) h192_2 (v := .ref (b + 209)) rfl dX13_count_33 ?_
    refine lv_iload_n hx hb dX13_count_36 rfl (lv_at hl 1 rfl) ?_
    refine lv_bipush (v := 10) hx hb dX13_count_37 (by decide) ?_
    refine lv_isub hx hb dX13_count_39 ?_
    refine m_vi (y := 1) (by decide) ?_
    have h209_1 : f1 209 = .inl (kc 1, 3, .inl (mRk)) := m_sm ef1 h209
    have h209_2 : f2 209 = .inl (kc 1, 3, .inl (mRk)) := m_sm ef2 h209_1
    refine m_iald C hM (j := 209) (by decide) h209_2 (m_in (by decide)) dX13_count_40 ?_
    refine m_vi (y := 1) (by decide) ?_
    exact m_iret C hr hlk hM (by decide) dX13_count_41
  by_cases s99 : a0 = 12
  · subst s99
    refine lv_iload_n hx hb dX13_count_0 rfl (lv_at hl 1 rfl) ?_
    refine lv_i2l (v := 12) hx hb dX13_count_1 (by decide) ?_
    refine lv_lconst (v := 0) hx hb dX13_count_2 (by decide) ?_
    refine lv_ldc2 (v := 2) hx hb hown (hts _ wd_1368) dX13_count_3 ?_
    refine m_goi (m_runS calS_X13_in wd_1221 (a_X13_in_29 l D kc b f) C hM hl.1 rfl rfl (Nat.le_of_ble_eq_true rfl) dX13_count_6 ⟨Nat.le_of_ble_eq_true rfl, Nat.le_of_ble_eq_true rfl⟩ ⟨Nat.le_of_ble_eq_true rfl, Nat.le_of_ble_eq_true rfl⟩) hM (fun r100 n101 f1 H locs hp hM => ?_)
    have hp : r100 = 0 ∧ n101 = 220 ∧ f1 = f := hp
    obtain ⟨rfl, rfl, ef1⟩ := hp
    refine lv_if_eq (tgt := 18) hx hb dX13_count_9 (by decide) (fun _ => ?_) (fun h => absurd (by decide) h)
    refine lv_iload_n hx hb dX13_count_18 rfl (lv_at hl 1 rfl) ?_
    refine lv_i2l (v := 12) hx hb dX13_count_19 (by decide) ?_
    refine lv_ldc2 (v := 10) hx hb hown (hts _ wd_1350) dX13_count_20 ?_
    refine lv_ldc2 (v := 12) hx hb hown (hts _ wd_1482) dX13_count_23 ?_
    refine m_goi (m_runS calS_X13_in wd_1221 (a_X13_in_30 l D kc b f1) C hM hl.1 rfl rfl (Nat.le_of_ble_eq_true rfl) dX13_count_26 ⟨Nat.le_of_ble_eq_true rfl, Nat.le_of_ble_eq_true rfl⟩ ⟨Nat.le_of_ble_eq_true rfl, Nat.le_of_ble_eq_true rfl⟩) hM (fun r102 n103 f2 H locs hp hM => ?_)
    have hp : r102 = 1 ∧ n103 = 220 ∧ f2 = f1 := hp
    obtain ⟨rfl, rfl, ef2⟩ := hp
    refine lv_if_eq (tgt := 42) hx hb dX13_count_29 (by decide) (fun h => absurd h (by decide)) (fun _ => ?_)
    refine lv_aload_n hx hb dX13_count_32 rfl (lv_at hl 0 rfl) ?_
    have h192_1 : f1 192 = .inr (13, [.ref (b + 193), .ref (b + 194), .ref (b + 195), .int 0, .int 0, .int 0, .ref (b + 196), .ref (b + 197), .int 0, .int 0, .int 0, .int 0, .int 0, .int 0, .int 0, .int (-1), .ref (b + 198), .ref (b + 199), .ref (b + 200), .ref (b + 201), .ref (b + 202), .ref (b + 203), .ref (b + 204), .ref (b + 205), .ref (b + 206), .ref (b + 207), .ref (b + 208), .int 0, .ref (b + 209), .ref (b + 210), .ref (b + 211), .ref (b + 212), .ref (b + 213), .ref (b + 214), .ref (b + 215), .int 0, .int 0, .int 0, .int 0, .ref (b + 216), .ref (b + 217), .ref (b + 218), .ref (b + 219)]) := m_sm ef1 h192
    have h192_2 : f2 192 = .inr (13, [.ref (b + 193), .ref (b + 194), .ref (b + 195), .int 0, .int 0, .int 0, .ref (b + 196), .ref (b + 197), .int 0, .int 0, .int 0, .int 0, .int 0, .int 0, .int 0, .int (-1), .ref (b + 198), .ref (b + 199), .ref (b + 200), .ref (b + 201), .ref (b + 202), .ref (b + 203), .ref (b + 204), .ref (b + 205), .ref (b + 206), .ref (b + 207), .ref (b + 208), .int 0, .ref (b + 209), .ref (b + 210), .ref (b + 211), .ref (b + 212), .ref (b + 213), .ref (b + 214), .ref (b + 215), .int 0, .int 0, .int 0, .int 0, .ref (b + 216), .ref (b + 217), .ref (b + 218), .ref (b + 219)]) := m_sm ef2 h192_1
    refine m_get fl_X13_102_X13 C hM (i := 192) (by decide) h192_2 (v := .ref (b + 209)) rfl dX13_count_33 ?_
    refine lv_iload_n hx hb dX13_count_36 rfl (lv_at hl 1 rfl) ?_
    refine lv_bipush (v := 10) hx hb dX13_count_37 (by decide) ?_
    refine lv_isub hx hb dX13_count_39 ?_
    refine m_vi (y := 2) (by decide) ?_
    have h209_1 : f1 209 = .inl (kc 1, 3, .inl (mRk)) := m_sm ef1 h209
    have h209_2 : f2 209 = .inl (kc 1, 3, .inl (mRk)) := m_sm ef2 h209_1
    refine m_iald C hM (j := 209) (by decide) h209_2 (m_in (by decide)) dX13_count_40 ?_
    refine m_vi (y := 2) (by decide) ?_
    exact m_iret C hr hlk hM (by decide) dX13_count_41
  exfalso; revert q1 q10 s19 s24 s29 s34 s39 s48 s57 s66 s75 s84 s89 s94 s99; simp only [← Int32.toInt_inj, Int32.lt_iff_toInt_lt, Int32.le_iff_toInt_le, m_lits]; omega
