set_option maxHeartbeats 4000000 in
set_option maxRecDepth 100000 in
theorem a_X13_lay_0 (l : Launch) (D : va_G) (kc : Nat → ClassId) (b : Nat) (f : Nat → va_E) (a0 : Int32) (g197 : Nat → Int32) (h192 : f 192 = .inr (13, [.ref (b + 193), .ref (b + 194), .ref (b + 195), .int 0, .int 0, .int 0, .ref (b + 196), .ref (b + 197), .int 0, .int 0, .int 0, .int 0, .int 0, .int 0, .int 0, .int (-1), .ref (b + 198), .ref (b + 199), .ref (b + 200), .ref (b + 201), .ref (b + 202), .ref (b + 203), .ref (b + 204), .ref (b + 205), .ref (b + 206), .ref (b + 207), .ref (b + 208), .int 0, .ref (b + 209), .ref (b + 210), .ref (b + 211), .ref (b + 212), .ref (b + 213), .ref (b + 214), .ref (b + 215), .int 0, .int 0, .int 0, .int 0, .ref (b + 216), .ref (b + 217), .ref (b + 218), .ref (b + 219)])) (h197 : f 197 = .inl (kc 0, 2000, .inl (g197))) : mMv l yX13_lay cX13_lay 3 1 0 0 D kc b 220 f [.ref (b + 192), .int a0] (fun u => ∃ (x1 : Int32) (x2 : Int32) (x3 : Int32) (x4 : Int32), u.1 = 220 ∧ u.2 = va_up (va_up (va_up (va_up (va_up (va_up (va_up (va_up f 197 (.inl (kc 0, 2000, .inl (upd g197 0 x1.toInt8.toInt32)))) 192 (.inr (13, [.ref (b + 193), .ref (b + 194), .ref (b + 195), .int 0, .int 0, .int 0, .ref (b + 196), .ref (b + 197), .int 1, .int 0, .int 0, .int 0, .int 0, .int 0, .int 0, .int (-1), .ref (b + 198), .ref (b + 199), .ref (b + 200), .ref (b + 201), .ref (b + 202), .ref (b + 203), .ref (b + 204), .ref (b + 205), .ref (b + 206), .ref (b + 207), .ref (b + 208), .int 0, .ref (b + 209), .ref (b + 210), .ref (b + 211), .ref (b + 212), .ref (b + 213), .ref (b + 214), .ref (b + 215), .int 0, .int 0, .int 0, .int 0, .ref (b + 216), .ref (b + 217), .ref (b + 218), .ref (b + 219)]))) 197 (.inl (kc 0, 2000, .inl (upd (upd g197 0 x1.toInt8.toInt32) 1 x2.toInt8.toInt32)))) 192 (.inr (13, [.ref (b + 193), .ref (b + 194), .ref (b + 195), .int 0, .int 0, .int 0, .ref (b + 196), .ref (b + 197), .int 2, .int 0, .int 0, .int 0, .int 0, .int 0, .int 0, .int (-1), .ref (b + 198), .ref (b + 199), .ref (b + 200), .ref (b + 201), .ref (b + 202), .ref (b + 203), .ref (b + 204), .ref (b + 205), .ref (b + 206), .ref (b + 207), .ref (b + 208), .int 0, .ref (b + 209), .ref (b + 210), .ref (b + 211), .ref (b + 212), .ref (b + 213), .ref (b + 214), .ref (b + 215), .int 0, .int 0, .int 0, .int 0, .ref (b + 216), .ref (b + 217), .ref (b + 218), .ref (b + 219)]))) 197 (.inl (kc 0, 2000, .inl (upd (upd (upd g197 0 x1.toInt8.toInt32) 1 x2.toInt8.toInt32) 2 x3.toInt8.toInt32)))) 192 (.inr (13, [.ref (b + 193), .ref (b + 194), .ref (b + 195), .int 0, .int 0, .int 0, .ref (b + 196), .ref (b + 197), .int 3, .int 0, .int 0, .int 0, .int 0, .int 0, .int 0, .int (-1), .ref (b + 198), .ref (b + 199), .ref (b + 200), .ref (b + 201), .ref (b + 202), .ref (b + 203), .ref (b + 204), .ref (b + 205), .ref (b + 206), .ref (b + 207), .ref (b + 208), .int 0, .ref (b + 209), .ref (b + 210), .ref (b + 211), .ref (b + 212), .ref (b + 213), .ref (b + 214), .ref (b + 215), .int 0, .int 0, .int 0, .int 0, .ref (b + 216), .ref (b + 217), .ref (b + 218), .ref (b + 219)]))) 197 (.inl (kc 0, 2000, .inl (upd (upd (upd (upd g197 0 x1.toInt8.toInt32) 1 x2.toInt8.toInt32) 2 x3.toInt8.toInt32) 3 x4.toInt8.toInt32)))) 192 (.inr (13, [.ref (b + 193), .ref (b + 194), .ref (b + 195), .int 0, .int 0, .int 0, .ref (b + 196), .ref (b + 197), .int 4, .int 0, .int 0, .int 0, .int 0, .int 0, .int 0, .int (-1), .ref (b + 198), .ref (b + 199), .ref (b + 200), .ref (b + 201), .ref (b + 202), .ref (b + 203), .ref (b + 204), .ref (b + 205), .ref (b + 206), .ref (b + 207), .ref (b + 208), .int 0, .ref (b + 209), .ref (b + 210), .ref (b + 211), .ref (b + 212), .ref (b + 213), .ref (b + 214), .ref (b + 215), .int 0, .int 0, .int 0, .int 0, .ref (b + 216), .ref (b + 217), .ref (b + 218), .ref (b + 219)]))) := by
  refine m_start (by decide) (Nat.le_of_ble_eq_true rfl) ?_
  intro p e s m below meth c C hr hlk hnm hM ls hl
  obtain ⟨hx, hb, hml, hown, hts, hE, hbs⟩ := id C
  have hl : lv_has ls 3 [(0, .ref (b + 192)), (1, .int a0)] := hl
  refine lv_bipush (v := 24) hx hb dX13_lay_0 (by decide) ?_
  refine lv_istore_n (lv' := [(2, .int 24), (0, .ref (b + 192)), (1, .int a0)]) hx hb dX13_lay_2 rfl hl (by decide) rfl (fun ls hl => ?_)
  refine lv_iload_n hx hb dX13_lay_3 rfl (lv_at hl 0 rfl) ?_
  refine lv_if_lt (tgt := 36) hx hb dX13_lay_4 (by decide) (fun h => absurd h (by decide)) (fun _ => ?_)
  refine lv_aload_n hx hb dX13_lay_7 rfl (lv_at hl 1 rfl) ?_
  refine m_get fl_X13_17_X13 C hM (i := 192) (by decide) h192 (v := .ref (b + 197)) rfl dX13_lay_8 ?_
  refine lv_aload_n hx hb dX13_lay_11 rfl (lv_at hl 1 rfl) ?_
  refine m_get fl_X13_28_X13 C hM (i := 192) (by decide) h192 (v := .int 0) rfl dX13_lay_12 ?_
  refine lv_iload_n hx hb dX13_lay_15 rfl (lv_at hl 2 rfl) ?_
  refine lv_iload_n hx hb dX13_lay_16 rfl (lv_at hl 0 rfl) ?_
  refine lv_ishr hx hb dX13_lay_17 ?_
  refine lv_i2b hx hb dX13_lay_18 rfl ?_
  refine lv_topi (fun x1 ex1 => ?_)
  refine m_bast C hM (j := 197) (by decide) h197 (m_in (by decide)) dX13_lay_19 (fun H locs f1 ef1 hM => ?_)
  have ef1 : f1 = va_up f 197 (.inl (kc 0, 2000, .inl (upd g197 0 x1.toInt8.toInt32))) := ef1
  refine lv_aload_n hx hb dX13_lay_20 rfl (lv_at hl 1 rfl) ?_
  refine lv_dup hx hb dX13_lay_21 rfl ?_
  have h192_1 : f1 192 = .inr (13, [.ref (b + 193), .ref (b + 194), .ref (b + 195), .int 0, .int 0, .int 0, .ref (b + 196), .ref (b + 197), .int 0, .int 0, .int 0, .int 0, .int 0, .int 0, .int 0, .int (-1), .ref (b + 198), .ref (b + 199), .ref (b + 200), .ref (b + 201), .ref (b + 202), .ref (b + 203), .ref (b + 204), .ref (b + 205), .ref (b + 206), .ref (b + 207), .ref (b + 208), .int 0, .ref (b + 209), .ref (b + 210), .ref (b + 211), .ref (b + 212), .ref (b + 213), .ref (b + 214), .ref (b + 215), .int 0, .int 0, .int 0, .int 0, .ref (b + 216), .ref (b + 217), .ref (b + 218), .ref (b + 219)]) := m_ne ef1 h192 (by decide)
  refine m_get fl_X13_28_X13 C hM (i := 192) (by decide) h192_1 (v := .int 0) rfl dX13_lay_22 ?_
  refine lv_iconst (v := 1) hx hb dX13_lay_25 (by decide) ?_
  refine lv_iadd hx hb dX13_lay_26 ?_
  refine m_vi (y := 1) (by decide) ?_
  refine m_put fl_X13_28_X13 C hM (i := 192) (by decide) h192_1 rfl rfl (Nat.le_of_ble_eq_true rfl) (fs1 := [.ref (b + 193), .ref (b + 194), .ref (b + 195), .int 0, .int 0, .int 0, .ref (b + 196), .ref (b + 197), .int 1, .int 0, .int 0, .int 0, .int 0, .int 0, .int 0, .int (-1), .ref (b + 198), .ref (b + 199), .ref (b + 200), .ref (b + 201), .ref (b + 202), .ref (b + 203), .ref (b + 204), .ref (b + 205), .ref (b + 206), .ref (b + 207), .ref (b + 208), .int 0, .ref (b + 209), .ref (b + 210), .ref (b + 211), .ref (b + 212), .ref (b + 213), .ref (b + 214), .ref (b + 215), .int 0, .int 0, .int 0, .int 0, .ref (b + 216), .ref (b + 217), .ref (b + 218), .ref (b + 219)]) rfl dX13_lay_27 (fun H locs f2 ef2 hM => ?_)
  refine lv_iinc (v := 16) (lv' := [(2, .int 16), (0, .ref (b + 192)), (1, .int a0)]) hx hb dX13_lay_30 hl (k := 0) rfl (by decide) (by decide) rfl (fun ls hl => ?_)
  refine lv_goto (tgt := 3) hx hb dX13_lay_33 (by decide) ?_
  refine lv_iload_n hx hb dX13_lay_3 rfl (lv_at hl 0 rfl) ?_
  refine lv_if_lt (tgt := 36) hx hb dX13_lay_4 (by decide) (fun h => absurd h (by decide)) (fun _ => ?_)
  refine lv_aload_n hx hb dX13_lay_7 rfl (lv_at hl 1 rfl) ?_
  have h192_2 : f2 192 = .inr (13, [.ref (b + 193), .ref (b + 194), .ref (b + 195), .int 0, .int 0, .int 0, .ref (b + 196), .ref (b + 197), .int 1, .int 0, .int 0, .int 0, .int 0, .int 0, .int 0, .int (-1), .ref (b + 198), .ref (b + 199), .ref (b + 200), .ref (b + 201), .ref (b + 202), .ref (b + 203), .ref (b + 204), .ref (b + 205), .ref (b + 206), .ref (b + 207), .ref (b + 208), .int 0, .ref (b + 209), .ref (b + 210), .ref (b + 211), .ref (b + 212), .ref (b + 213), .ref (b + 214), .ref (b + 215), .int 0, .int 0, .int 0, .int 0, .ref (b + 216), .ref (b + 217), .ref (b + 218), .ref (b + 219)]) := m_eq ef2
  refine m_get fl_X13_17_X13 C hM (i := 192) (by decide) h192_2 (v := .ref (b + 197)) rfl dX13_lay_8 ?_
  refine lv_aload_n hx hb dX13_lay_11 rfl (lv_at hl 1 rfl) ?_
  refine m_get fl_X13_28_X13 C hM (i := 192) (by decide) h192_2 (v := .int 1) rfl dX13_lay_12 ?_
  refine lv_iload_n hx hb dX13_lay_15 rfl (lv_at hl 2 rfl) ?_
  refine lv_iload_n hx hb dX13_lay_16 rfl (lv_at hl 0 rfl) ?_
  refine lv_ishr hx hb dX13_lay_17 ?_
  refine lv_i2b hx hb dX13_lay_18 rfl ?_
  refine lv_topi (fun x2 ex2 => ?_)
  have h197_1 : f1 197 = .inl (kc 0, 2000, .inl (upd g197 0 x1.toInt8.toInt32)) := m_eq ef1
  have h197_2 : f2 197 = .inl (kc 0, 2000, .inl (upd g197 0 x1.toInt8.toInt32)) := m_ne ef2 h197_1 (by decide)
  refine m_bast C hM (j := 197) (by decide) h197_2 (m_in (by decide)) dX13_lay_19 (fun H locs f3 ef3 hM => ?_)
  have ef3 : f3 = va_up f2 197 (.inl (kc 0, 2000, .inl (upd (upd g197 0 x1.toInt8.toInt32) 1 x2.toInt8.toInt32))) := ef3
  refine lv_aload_n hx hb dX13_lay_20 rfl (lv_at hl 1 rfl) ?_
  refine lv_dup hx hb dX13_lay_21 rfl ?_
  have h192_3 : f3 192 = .inr (13, [.ref (b + 193), .ref (b + 194), .ref (b + 195), .int 0, .int 0, .int 0, .ref (b + 196), .ref (b + 197), .int 1, .int 0, .int 0, .int 0, .int 0, .int 0, .int 0, .int (-1), .ref (b + 198), .ref (b + 199), .ref (b + 200), .ref (b + 201), .ref (b + 202), .ref (b + 203), .ref (b + 204), .ref (b + 205), .ref (b + 206), .ref (b + 207), .ref (b + 208), .int 0, .ref (b + 209), .ref (b + 210), .ref (b + 211), .ref (b + 212), .ref (b + 213), .ref (b + 214), .ref (b + 215), .int 0, .int 0, .int 0, .int 0, .ref (b + 216), .ref (b + 217), .ref (b + 218), .ref (b + 219)]) := m_ne ef3 h192_2 (by decide)
  refine m_get fl_X13_28_X13 C hM (i := 192) (by decide) h192_3 (v := .int 1) rfl dX13_lay_22 ?_
  refine lv_iconst (v := 1) hx hb dX13_lay_25 (by decide) ?_
  refine lv_iadd hx hb dX13_lay_26 ?_
  refine m_vi (y := 2) (by decide) ?_
  refine m_put fl_X13_28_X13 C hM (i := 192) (by decide) h192_3 rfl rfl (Nat.le_of_ble_eq_true rfl) (fs1 := [.ref (b + 193), .ref (b + 194), .ref (b + 195), .int 0, .int 0, .int 0, .ref (b + 196), .ref (b + 197), .int 2, .int 0, .int 0, .int 0, .int 0, .int 0, .int 0, .int (-1), .ref (b + 198), .ref (b + 199), .ref (b + 200), .ref (b + 201), .ref (b + 202), .ref (b + 203), .ref (b + 204), .ref (b + 205), .ref (b + 206), .ref (b + 207), .ref (b + 208), .int 0, .ref (b + 209), .ref (b + 210), .ref (b + 211), .ref (b + 212), .ref (b + 213), .ref (b + 214), .ref (b + 215), .int 0, .int 0, .int 0, .int 0, .ref (b + 216), .ref (b + 217), .ref (b + 218), .ref (b + 219)]) rfl dX13_lay_27 (fun H locs f4 ef4 hM => ?_)
  refine lv_iinc (v := 8) (lv' := [(2, .int 8), (0, .ref (b + 192)), (1, .int a0)]) hx hb dX13_lay_30 hl (k := 0) rfl (by decide) (by decide) rfl (fun ls hl => ?_)
  refine lv_goto (tgt := 3) hx hb dX13_lay_33 (by decide) ?_
  refine lv_iload_n hx hb dX13_lay_3 rfl (lv_at hl 0 rfl) ?_
  refine lv_if_lt (tgt := 36) hx hb dX13_lay_4 (by decide) (fun h => absurd h (by decide)) (fun _ => ?_)
  refine lv_aload_n hx hb dX13_lay_7 rfl (lv_at hl 1 rfl) ?_
  have h192_4 : f4 192 = .inr (13, [.ref (b + 193), .ref (b + 194), .ref (b + 195), .int 0, .int 0, .int 0, .ref (b + 196), .ref (b + 197), .int 2, .int 0, .int 0, .int 0, .int 0, .int 0, .int 0, .int (-1), .ref (b + 198), .ref (b + 199), .ref (b + 200), .ref (b + 201), .ref (b + 202), .ref (b + 203), .ref (b + 204), .ref (b + 205), .ref (b + 206), .ref (b + 207), .ref (b + 208), .int 0, .ref (b + 209), .ref (b + 210), .ref (b + 211), .ref (b + 212), .ref (b + 213), .ref (b + 214), .ref (b + 215), .int 0, .int 0, .int 0, .int 0, .ref (b + 216), .ref (b + 217), .ref (b + 218), .ref (b + 219)]) := m_eq ef4
  refine m_get fl_X13_17_X13 C hM (i := 192) (by decide) h192_4 (v := .ref (b + 197)) rfl dX13_lay_8 ?_
  refine lv_aload_n hx hb dX13_lay_11 rfl (lv_at hl 1 rfl) ?_
  refine m_get fl_X13_28_X13 C hM (i := 192) (by decide) h192_4 (v := .int 2) rfl dX13_lay_12 ?_
  refine lv_iload_n hx hb dX13_lay_15 rfl (lv_at hl 2 rfl) ?_
  refine lv_iload_n hx hb dX13_lay_16 rfl (lv_at hl 0 rfl) ?_
  refine lv_ishr hx hb dX13_lay_17 ?_
  refine lv_i2b hx hb dX13_lay_18 rfl ?_
  refine lv_topi (fun x3 ex3 => ?_)
  have h197_3 : f3 197 = .inl (kc 0, 2000, .inl (upd (upd g197 0 x1.toInt8.toInt32) 1 x2.toInt8.toInt32)) := m_eq ef3
  have h197_4 : f4 197 = .inl (kc 0, 2000, .inl (upd (upd g197 0 x1.toInt8.toInt32) 1 x2.toInt8.toInt32)) := m_ne ef4 h197_3 (by decide)
  refine m_bast C hM (j := 197) (by decide) h197_4 (m_in (by decide)) dX13_lay_19 (fun H locs f5 ef5 hM => ?_)
  have ef5 : f5 = va_up f4 197 (.inl (kc 0, 2000, .inl (upd (upd (upd g197 0 x1.toInt8.toInt32) 1 x2.toInt8.toInt32) 2 x3.toInt8.toInt32))) := ef5
  refine lv_aload_n hx hb dX13_lay_20 rfl (lv_at hl 1 rfl) ?_
  refine lv_dup hx hb dX13_lay_21 rfl ?_
  have h192_5 : f5 192 = .inr (13, [.ref (b + 193), .ref (b + 194), .ref (b + 195), .int 0, .int 0, .int 0, .ref (b + 196), .ref (b + 197), .int 2, .int 0, .int 0, .int 0, .int 0, .int 0, .int 0, .int (-1), .ref (b + 198), .ref (b + 199), .ref (b + 200), .ref (b + 201), .ref (b + 202), .ref (b + 203), .ref (b + 204), .ref (b + 205), .ref (b + 206), .ref (b + 207), .ref (b + 208), .int 0, .ref (b + 209), .ref (b + 210), .ref (b + 211), .ref (b + 212), .ref (b + 213), .ref (b + 214), .ref (b + 215), .int 0, .int 0, .int 0, .int 0, .ref (b + 216), .ref (b + 217), .ref (b + 218), .ref (b + 219)]) := m_ne ef5 h192_4 (by decide)
  refine m_get fl_X13_28_X13 C hM (i := 192) (by decide) h192_5 (v := .int 2) rfl dX13_lay_22 ?_
  refine lv_iconst (v := 1) hx hb dX13_lay_25 (by decide) ?_
  refine lv_iadd hx hb dX13_lay_26 ?_
  refine m_vi (y := 3) (by decide) ?_
  refine m_put fl_X13_28_X13 C hM (i := 192) (by decide) h192_5 rfl rfl (Nat.le_of_ble_eq_true rfl) (fs1 := [.ref (b + 193), .ref (b + 194), .ref (b + 195), .int 0, .int 0, .int 0, .ref (b + 196), .ref (b + 197), .int 3, .int 0, .int 0, .int 0, .int 0, .int 0, .int 0, .int (-1), .ref (b + 198), .ref (b + 199), .ref (b + 200), .ref (b + 201), .ref (b + 202), .ref (b + 203), .ref (b + 204), .ref (b + 205), .ref (b + 206), .ref (b + 207), .ref (b + 208), .int 0, .ref (b + 209), .ref (b + 210), .ref (b + 211), .ref (b + 212), .ref (b + 213), .ref (b + 214), .ref (b + 215), .int 0, .int 0, .int 0, .int 0, .ref (b + 216), .ref (b + 217), .ref (b + 218), .ref (b + 219)]) rfl dX13_lay_27 (fun H locs f6 ef6 hM => ?_)
  refine lv_iinc (v := 0) (lv' := [(2, .int 0), (0, .ref (b + 192)), (1, .int a0)]) hx hb dX13_lay_30 hl (k := 0) rfl (by decide) (by decide) rfl (fun ls hl => ?_)
  refine lv_goto (tgt := 3) hx hb dX13_lay_33 (by decide) ?_
  refine lv_iload_n hx hb dX13_lay_3 rfl (lv_at hl 0 rfl) ?_
  refine lv_if_lt (tgt := 36) hx hb dX13_lay_4 (by decide) (fun h => absurd h (by decide)) (fun _ => ?_)
  refine lv_aload_n hx hb dX13_lay_7 rfl (lv_at hl 1 rfl) ?_
  have h192_6 : f6 192 = .inr (13, [.ref (b + 193), .ref (b + 194), .ref (b + 195), .int 0, .int 0, .int 0, .ref (b + 196), .ref (b + 197), .int 3, .int 0, .int 0, .int 0, .int 0, .int 0, .int 0, .int (-1), .ref (b + 198), .ref (b + 199), .ref (b + 200), .ref (b + 201), .ref (b + 202), .ref (b + 203), .ref (b + 204), .ref (b + 205), .ref (b + 206), .ref (b + 207), .ref (b + 208), .int 0, .ref (b + 209), .ref (b + 210), .ref (b + 211), .ref (b + 212), .ref (b + 213), .ref (b + 214), .ref (b + 215), .int 0, .int 0, .int 0, .int 0, .ref (b + 216), .ref (b + 217), .ref (b + 218), .ref (b + 219)]) := m_eq ef6
  refine m_get fl_X13_17_X13 C hM (i := 192) (by decide) h192_6 (v := .ref (b + 197)) rfl dX13_lay_8 ?_
  refine lv_aload_n hx hb dX13_lay_11 rfl (lv_at hl 1 rfl) ?_
  refine m_get fl_X13_28_X13 C hM (i := 192) (by decide) h192_6 (v := .int 3) rfl dX13_lay_12 ?_
  refine lv_iload_n hx hb dX13_lay_15 rfl (lv_at hl 2 rfl) ?_
  refine lv_iload_n hx hb dX13_lay_16 rfl (lv_at hl 0 rfl) ?_
  refine lv_ishr hx hb dX13_lay_17 ?_
  refine lv_i2b hx hb dX13_lay_18 rfl ?_
  refine lv_topi (fun x4 ex4 => ?_)
  have h197_5 : f5 197 = .inl (kc 0, 2000, .inl (upd (upd (upd g197 0 x1.toInt8.toInt32) 1 x2.toInt8.toInt32) 2 x3.toInt8.toInt32)) := m_eq ef5
  have h197_6 : f6 197 = .inl (kc 0, 2000, .inl (upd (upd (upd g197 0 x1.toInt8.toInt32) 1 x2.toInt8.toInt32) 2 x3.toInt8.toInt32)) := m_ne ef6 h197_5 (by decide)
  refine m_bast C hM (j := 197) (by decide) h197_6 (m_in (by decide)) dX13_lay_19 (fun H locs f7 ef7 hM => ?_)
  have ef7 : f7 = va_up f6 197 (.inl (kc 0, 2000, .inl (upd (upd (upd (upd g197 0 x1.toInt8.toInt32) 1 x2.toInt8.toInt32) 2 x3.toInt8.toInt32) 3 x4.toInt8.toInt32))) := ef7
  refine lv_aload_n hx hb dX13_lay_20 rfl (lv_at hl 1 rfl) ?_
  refine lv_dup hx hb dX13_lay_21 rfl ?_
  have h192_7 : f7 192 = .inr (13, [.ref (b + 193), .ref (b + 194), .ref (b + 195), .int 0, .int 0, .int 0, .ref (b + 196), .ref (b + 197), .int 3, .int 0, .int 0, .int 0, .int 0, .int 0, .int 0, .int (-1), .ref (b + 198), .ref (b + 199), .ref (b + 200), .ref (b + 201), .ref (b + 202), .ref (b + 203), .ref (b + 204), .ref (b + 205), .ref (b + 206), .ref (b + 207), .ref (b + 208), .int 0, .ref (b + 209), .ref (b + 210), .ref (b + 211), .ref (b + 212), .ref (b + 213), .ref (b + 214), .ref (b + 215), .int 0, .int 0, .int 0, .int 0, .ref (b + 216), .ref (b + 217), .ref (b + 218), .ref (b + 219)]) := m_ne ef7 h192_6 (by decide)
  refine m_get fl_X13_28_X13 C hM (i := 192) (by decide) h192_7 (v := .int 3) rfl dX13_lay_22 ?_
  refine lv_iconst (v := 1) hx hb dX13_lay_25 (by decide) ?_
  refine lv_iadd hx hb dX13_lay_26 ?_
  refine m_vi (y := 4) (by decide) ?_
  refine m_put fl_X13_28_X13 C hM (i := 192) (by decide) h192_7 rfl rfl (Nat.le_of_ble_eq_true rfl) (fs1 := [.ref (b + 193), .ref (b + 194), .ref (b + 195), .int 0, .int 0, .int 0, .ref (b + 196), .ref (b + 197), .int 4, .int 0, .int 0, .int 0, .int 0, .int 0, .int 0, .int (-1), .ref (b + 198), .ref (b + 199), .ref (b + 200), .ref (b + 201), .ref (b + 202), .ref (b + 203), .ref (b + 204), .ref (b + 205), .ref (b + 206), .ref (b + 207), .ref (b + 208), .int 0, .ref (b + 209), .ref (b + 210), .ref (b + 211), .ref (b + 212), .ref (b + 213), .ref (b + 214), .ref (b + 215), .int 0, .int 0, .int 0, .int 0, .ref (b + 216), .ref (b + 217), .ref (b + 218), .ref (b + 219)]) rfl dX13_lay_27 (fun H locs f8 ef8 hM => ?_)
  refine lv_iinc (v := (-8)) (lv' := [(2, .int (-8)), (0, .ref (b + 192)), (1, .int a0)]) hx hb dX13_lay_30 hl (k := 0) rfl (by decide) (by decide) rfl (fun ls hl => ?_)
  refine lv_goto (tgt := 3) hx hb dX13_lay_33 (by decide) ?_
  refine lv_iload_n hx hb dX13_lay_3 rfl (lv_at hl 0 rfl) ?_
  refine lv_if_lt (tgt := 36) hx hb dX13_lay_4 (by decide) (fun _ => ?_) (fun h => absurd (by decide) h)
  exact m_vret C hr hlk hM (⟨x1, x2, x3, x4, rfl, by rw [ef8, ef7, ef6, ef5, ef4, ef3, ef2, ef1]⟩) dX13_lay_36
set_option maxHeartbeats 4000000 in
set_option maxRecDepth 100000 in
theorem a_X13_lay_1 (l : Launch) (D : va_G) (kc : Nat → ClassId) (b : Nat) (f : Nat → va_E) (a1 : Int32) (g197 : Nat → Int32) (h192 : f 192 = .inr (13, [.ref (b + 193), .ref (b + 194), .ref (b + 195), .int 0, .int 0, .int 0, .ref (b + 196), .ref (b + 197), .int 4, .int 0, .int 0, .int 0, .int 0, .int 0, .int 0, .int (-1), .ref (b + 198), .ref (b + 199), .ref (b + 200), .ref (b + 201), .ref (b + 202), .ref (b + 203), .ref (b + 204), .ref (b + 205), .ref (b + 206), .ref (b + 207), .ref (b + 208), .int 0, .ref (b + 209), .ref (b + 210), .ref (b + 211), .ref (b + 212), .ref (b + 213), .ref (b + 214), .ref (b + 215), .int 0, .int 0, .int 0, .int 0, .ref (b + 216), .ref (b + 217), .ref (b + 218), .ref (b + 219)])) (h197 : f 197 = .inl (kc 0, 2000, .inl (g197))) : mMv l yX13_lay cX13_lay 3 1 0 0 D kc b 220 f [.ref (b + 192), .int a1] (fun u => ∃ (x1 : Int32) (x2 : Int32) (x3 : Int32) (x4 : Int32), u.1 = 220 ∧ u.2 = va_up (va_up (va_up (va_up (va_up (va_up (va_up (va_up f 197 (.inl (kc 0, 2000, .inl (upd g197 4 x1.toInt8.toInt32)))) 192 (.inr (13, [.ref (b + 193), .ref (b + 194), .ref (b + 195), .int 0, .int 0, .int 0, .ref (b + 196), .ref (b + 197), .int 5, .int 0, .int 0, .int 0, .int 0, .int 0, .int 0, .int (-1), .ref (b + 198), .ref (b + 199), .ref (b + 200), .ref (b + 201), .ref (b + 202), .ref (b + 203), .ref (b + 204), .ref (b + 205), .ref (b + 206), .ref (b + 207), .ref (b + 208), .int 0, .ref (b + 209), .ref (b + 210), .ref (b + 211), .ref (b + 212), .ref (b + 213), .ref (b + 214), .ref (b + 215), .int 0, .int 0, .int 0, .int 0, .ref (b + 216), .ref (b + 217), .ref (b + 218), .ref (b + 219)]))) 197 (.inl (kc 0, 2000, .inl (upd (upd g197 4 x1.toInt8.toInt32) 5 x2.toInt8.toInt32)))) 192 (.inr (13, [.ref (b + 193), .ref (b + 194), .ref (b + 195), .int 0, .int 0, .int 0, .ref (b + 196), .ref (b + 197), .int 6, .int 0, .int 0, .int 0, .int 0, .int 0, .int 0, .int (-1), .ref (b + 198), .ref (b + 199), .ref (b + 200), .ref (b + 201), .ref (b + 202), .ref (b + 203), .ref (b + 204), .ref (b + 205), .ref (b + 206), .ref (b + 207), .ref (b + 208), .int 0, .ref (b + 209), .ref (b + 210), .ref (b + 211), .ref (b + 212), .ref (b + 213), .ref (b + 214), .ref (b + 215), .int 0, .int 0, .int 0, .int 0, .ref (b + 216), .ref (b + 217), .ref (b + 218), .ref (b + 219)]))) 197 (.inl (kc 0, 2000, .inl (upd (upd (upd g197 4 x1.toInt8.toInt32) 5 x2.toInt8.toInt32) 6 x3.toInt8.toInt32)))) 192 (.inr (13, [.ref (b + 193), .ref (b + 194), .ref (b + 195), .int 0, .int 0, .int 0, .ref (b + 196), .ref (b + 197), .int 7, .int 0, .int 0, .int 0, .int 0, .int 0, .int 0, .int (-1), .ref (b + 198), .ref (b + 199), .ref (b + 200), .ref (b + 201), .ref (b + 202), .ref (b + 203), .ref (b + 204), .ref (b + 205), .ref (b + 206), .ref (b + 207), .ref (b + 208), .int 0, .ref (b + 209), .ref (b + 210), .ref (b + 211), .ref (b + 212), .ref (b + 213), .ref (b + 214), .ref (b + 215), .int 0, .int 0, .int 0, .int 0, .ref (b + 216), .ref (b + 217), .ref (b + 218), .ref (b + 219)]))) 197 (.inl (kc 0, 2000, .inl (upd (upd (upd (upd g197 4 x1.toInt8.toInt32) 5 x2.toInt8.toInt32) 6 x3.toInt8.toInt32) 7 x4.toInt8.toInt32)))) 192 (.inr (13, [.ref (b + 193), .ref (b + 194), .ref (b + 195), .int 0, .int 0, .int 0, .ref (b + 196), .ref (b + 197), .int 8, .int 0, .int 0, .int 0, .int 0, .int 0, .int 0, .int (-1), .ref (b + 198), .ref (b + 199), .ref (b + 200), .ref (b + 201), .ref (b + 202), .ref (b + 203), .ref (b + 204), .ref (b + 205), .ref (b + 206), .ref (b + 207), .ref (b + 208), .int 0, .ref (b + 209), .ref (b + 210), .ref (b + 211), .ref (b + 212), .ref (b + 213), .ref (b + 214), .ref (b + 215), .int 0, .int 0, .int 0, .int 0, .ref (b + 216), .ref (b + 217), .ref (b + 218), .ref (b + 219)]))) := by
  refine m_start (by decide) (Nat.le_of_ble_eq_true rfl) ?_
  intro p e s m below meth c C hr hlk hnm hM ls hl
  obtain ⟨hx, hb, hml, hown, hts, hE, hbs⟩ := id C
  have hl : lv_has ls 3 [(0, .ref (b + 192)), (1, .int a1)] := hl
  refine lv_bipush (v := 24) hx hb dX13_lay_0 (by decide) ?_
  refine lv_istore_n (lv' := [(2, .int 24), (0, .ref (b + 192)), (1, .int a1)]) hx hb dX13_lay_2 rfl hl (by decide) rfl (fun ls hl => ?_)
  refine lv_iload_n hx hb dX13_lay_3 rfl (lv_at hl 0 rfl) ?_
  refine lv_if_lt (tgt := 36) hx hb dX13_lay_4 (by decide) (fun h => absurd h (by decide)) (fun _ => ?_)
  refine lv_aload_n hx hb dX13_lay_7 rfl (lv_at hl 1 rfl) ?_
  refine m_get fl_X13_17_X13 C hM (i := 192) (by decide) h192 (v := .ref (b + 197)) rfl dX13_lay_8 ?_
  refine lv_aload_n hx hb dX13_lay_11 rfl (lv_at hl 1 rfl) ?_
  refine m_get fl_X13_28_X13 C hM (i := 192) (by decide) h192 (v := .int 4) rfl dX13_lay_12 ?_
  refine lv_iload_n hx hb dX13_lay_15 rfl (lv_at hl 2 rfl) ?_
  refine lv_iload_n hx hb dX13_lay_16 rfl (lv_at hl 0 rfl) ?_
  refine lv_ishr hx hb dX13_lay_17 ?_
  refine lv_i2b hx hb dX13_lay_18 rfl ?_
  refine lv_topi (fun x1 ex1 => ?_)
  refine m_bast C hM (j := 197) (by decide) h197 (m_in (by decide)) dX13_lay_19 (fun H locs f1 ef1 hM => ?_)
  have ef1 : f1 = va_up f 197 (.inl (kc 0, 2000, .inl (upd g197 4 x1.toInt8.toInt32))) := ef1
  refine lv_aload_n hx hb dX13_lay_20 rfl (lv_at hl 1 rfl) ?_
  refine lv_dup hx hb dX13_lay_21 rfl ?_
  have h192_1 : f1 192 = .inr (13, [.ref (b + 193), .ref (b + 194), .ref (b + 195), .int 0, .int 0, .int 0, .ref (b + 196), .ref (b + 197), .int 4, .int 0, .int 0, .int 0, .int 0, .int 0, .int 0, .int (-1), .ref (b + 198), .ref (b + 199), .ref (b + 200), .ref (b + 201), .ref (b + 202), .ref (b + 203), .ref (b + 204), .ref (b + 205), .ref (b + 206), .ref (b + 207), .ref (b + 208), .int 0, .ref (b + 209), .ref (b + 210), .ref (b + 211), .ref (b + 212), .ref (b + 213), .ref (b + 214), .ref (b + 215), .int 0, .int 0, .int 0, .int 0, .ref (b + 216), .ref (b + 217), .ref (b + 218), .ref (b + 219)]) := m_ne ef1 h192 (by decide)
  refine m_get fl_X13_28_X13 C hM (i := 192) (by decide) h192_1 (v := .int 4) rfl dX13_lay_22 ?_
  refine lv_iconst (v := 1) hx hb dX13_lay_25 (by decide) ?_
  refine lv_iadd hx hb dX13_lay_26 ?_
  refine m_vi (y := 5) (by decide) ?_
  refine m_put fl_X13_28_X13 C hM (i := 192) (by decide) h192_1 rfl rfl (Nat.le_of_ble_eq_true rfl) (fs1 := [.ref (b + 193), .ref (b + 194), .ref (b + 195), .int 0, .int 0, .int 0, .ref (b + 196), .ref (b + 197), .int 5, .int 0, .int 0, .int 0, .int 0, .int 0, .int 0, .int (-1), .ref (b + 198), .ref (b + 199), .ref (b + 200), .ref (b + 201), .ref (b + 202), .ref (b + 203), .ref (b + 204), .ref (b + 205), .ref (b + 206), .ref (b + 207), .ref (b + 208), .int 0, .ref (b + 209), .ref (b + 210), .ref (b + 211), .ref (b + 212), .ref (b + 213), .ref (b + 214), .ref (b + 215), .int 0, .int 0, .int 0, .int 0, .ref (b + 216), .ref (b + 217), .ref (b + 218), .ref (b + 219)]) rfl dX13_lay_27 (fun H locs f2 ef2 hM => ?_)
  refine lv_iinc (v := 16) (lv' := [(2, .int 16), (0, .ref (b + 192)), (1, .int a1)]) hx hb dX13_lay_30 hl (k := 0) rfl (by decide) (by decide) rfl (fun ls hl => ?_)
  refine lv_goto (tgt := 3) hx hb dX13_lay_33 (by decide) ?_
  refine lv_iload_n hx hb dX13_lay_3 rfl (lv_at hl 0 rfl) ?_
  refine lv_if_lt (tgt := 36) hx hb dX13_lay_4 (by decide) (fun h => absurd h (by decide)) (fun _ => ?_)
  refine lv_aload_n hx hb dX13_lay_7 rfl (lv_at hl 1 rfl) ?_
  have h192_2 : f2 192 = .inr (13, [.ref (b + 193), .ref (b + 194), .ref (b + 195), .int 0, .int 0, .int 0, .ref (b + 196), .ref (b + 197), .int 5, .int 0, .int 0, .int 0, .int 0, .int 0, .int 0, .int (-1), .ref (b + 198), .ref (b + 199), .ref (b + 200), .ref (b + 201), .ref (b + 202), .ref (b + 203), .ref (b + 204), .ref (b + 205), .ref (b + 206), .ref (b + 207), .ref (b + 208), .int 0, .ref (b + 209), .ref (b + 210), .ref (b + 211), .ref (b + 212), .ref (b + 213), .ref (b + 214), .ref (b + 215), .int 0, .int 0, .int 0, .int 0, .ref (b + 216), .ref (b + 217), .ref (b + 218), .ref (b + 219)]) := m_eq ef2
  refine m_get fl_X13_17_X13 C hM (i := 192) (by decide) h192_2 (v := .ref (b + 197)) rfl dX13_lay_8 ?_
  refine lv_aload_n hx hb dX13_lay_11 rfl (lv_at hl 1 rfl) ?_
  refine m_get fl_X13_28_X13 C hM (i := 192) (by decide) h192_2 (v := .int 5) rfl dX13_lay_12 ?_
  refine lv_iload_n hx hb dX13_lay_15 rfl (lv_at hl 2 rfl) ?_
  refine lv_iload_n hx hb dX13_lay_16 rfl (lv_at hl 0 rfl) ?_
  refine lv_ishr hx hb dX13_lay_17 ?_
  refine lv_i2b hx hb dX13_lay_18 rfl ?_
  refine lv_topi (fun x2 ex2 => ?_)
  have h197_1 : f1 197 = .inl (kc 0, 2000, .inl (upd g197 4 x1.toInt8.toInt32)) := m_eq ef1
  have h197_2 : f2 197 = .inl (kc 0, 2000, .inl (upd g197 4 x1.toInt8.toInt32)) := m_ne ef2 h197_1 (by decide)
  refine m_bast C hM (j := 197) (by decide) h197_2 (m_in (by decide)) dX13_lay_19 (fun H locs f3 ef3 hM => ?_)
  have ef3 : f3 = va_up f2 197 (.inl (kc 0, 2000, .inl (upd (upd g197 4 x1.toInt8.toInt32) 5 x2.toInt8.toInt32))) := ef3
  refine lv_aload_n hx hb dX13_lay_20 rfl (lv_at hl 1 rfl) ?_
  refine lv_dup hx hb dX13_lay_21 rfl ?_
  have h192_3 : f3 192 = .inr (13, [.ref (b + 193), .ref (b + 194), .ref (b + 195), .int 0, .int 0, .int 0, .ref (b + 196), .ref (b + 197), .int 5, .int 0, .int 0, .int 0, .int 0, .int 0, .int 0, .int (-1), .ref (b + 198), .ref (b + 199), .ref (b + 200), .ref (b + 201), .ref (b + 202), .ref (b + 203), .ref (b + 204), .ref (b + 205), .ref (b + 206), .ref (b + 207), .ref (b + 208), .int 0, .ref (b + 209), .ref (b + 210), .ref (b + 211), .ref (b + 212), .ref (b + 213), .ref (b + 214), .ref (b + 215), .int 0, .int 0, .int 0, .int 0, .ref (b + 216), .ref (b + 217), .ref (b + 218), .ref (b + 219)]) := m_ne ef3 h192_2 (by decide)
  refine m_get fl_X13_28_X13 C hM (i := 192) (by decide) h192_3 (v := .int 5) rfl dX13_lay_22 ?_
  refine lv_iconst (v := 1) hx hb dX13_lay_25 (by decide) ?_
  refine lv_iadd hx hb dX13_lay_26 ?_
  refine m_vi (y := 6) (by decide) ?_
  refine m_put fl_X13_28_X13 C hM (i := 192) (by decide) h192_3 rfl rfl (Nat.le_of_ble_eq_true rfl) (fs1 := [.ref (b + 193), .ref (b + 194), .ref (b + 195), .int 0, .int 0, .int 0, .ref (b + 196), .ref (b + 197), .int 6, .int 0, .int 0, .int 0, .int 0, .int 0, .int 0, .int (-1), .ref (b + 198), .ref (b + 199), .ref (b + 200), .ref (b + 201), .ref (b + 202), .ref (b + 203), .ref (b + 204), .ref (b + 205), .ref (b + 206), .ref (b + 207), .ref (b + 208), .int 0, .ref (b + 209), .ref (b + 210), .ref (b + 211), .ref (b + 212), .ref (b + 213), .ref (b + 214), .ref (b + 215), .int 0, .int 0, .int 0, .int 0, .ref (b + 216), .ref (b + 217), .ref (b + 218), .ref (b + 219)]) rfl dX13_lay_27 (fun H locs f4 ef4 hM => ?_)
  refine lv_iinc (v := 8) (lv' := [(2, .int 8), (0, .ref (b + 192)), (1, .int a1)]) hx hb dX13_lay_30 hl (k := 0) rfl (by decide) (by decide) rfl (fun ls hl => ?_)
  refine lv_goto (tgt := 3) hx hb dX13_lay_33 (by decide) ?_
  refine lv_iload_n hx hb dX13_lay_3 rfl (lv_at hl 0 rfl) ?_
  refine lv_if_lt (tgt := 36) hx hb dX13_lay_4 (by decide) (fun h => absurd h (by decide)) (fun _ => ?_)
  refine lv_aload_n hx hb dX13_lay_7 rfl (lv_at hl 1 rfl) ?_
  have h192_4 : f4 192 = .inr (13, [.ref (b + 193), .ref (b + 194), .ref (b + 195), .int 0, .int 0, .int 0, .ref (b + 196), .ref (b + 197), .int 6, .int 0, .int 0, .int 0, .int 0, .int 0, .int 0, .int (-1), .ref (b + 198), .ref (b + 199), .ref (b + 200), .ref (b + 201), .ref (b + 202), .ref (b + 203), .ref (b + 204), .ref (b + 205), .ref (b + 206), .ref (b + 207), .ref (b + 208), .int 0, .ref (b + 209), .ref (b + 210), .ref (b + 211), .ref (b + 212), .ref (b + 213), .ref (b + 214), .ref (b + 215), .int 0, .int 0, .int 0, .int 0, .ref (b + 216), .ref (b + 217), .ref (b + 218), .ref (b + 219)]) := m_eq ef4
  refine m_get fl_X13_17_X13 C hM (i := 192) (by decide) h192_4 (v := .ref (b + 197)) rfl dX13_lay_8 ?_
  refine lv_aload_n hx hb dX13_lay_11 rfl (lv_at hl 1 rfl) ?_
  refine m_get fl_X13_28_X13 C hM (i := 192) (by decide) h192_4 (v := .int 6) rfl dX13_lay_12 ?_
  refine lv_iload_n hx hb dX13_lay_15 rfl (lv_at hl 2 rfl) ?_
  refine lv_iload_n hx hb dX13_lay_16 rfl (lv_at hl 0 rfl) ?_
  refine lv_ishr hx hb dX13_lay_17 ?_
  refine lv_i2b hx hb dX13_lay_18 rfl ?_
  refine lv_topi (fun x3 ex3 => ?_)
  have h197_3 : f3 197 = .inl (kc 0, 2000, .inl (upd (upd g197 4 x1.toInt8.toInt32) 5 x2.toInt8.toInt32)) := m_eq ef3
  have h197_4 : f4 197 = .inl (kc 0, 2000, .inl (upd (upd g197 4 x1.toInt8.toInt32) 5 x2.toInt8.toInt32)) := m_ne ef4 h197_3 (by decide)
  refine m_bast C hM (j := 197) (by decide) h197_4 (m_in (by decide)) dX13_lay_19 (fun H locs f5 ef5 hM => ?_)
  have ef5 : f5 = va_up f4 197 (.inl (kc 0, 2000, .inl (upd (upd (upd g197 4 x1.toInt8.toInt32) 5 x2.toInt8.toInt32) 6 x3.toInt8.toInt32))) := ef5
  refine lv_aload_n hx hb dX13_lay_20 rfl (lv_at hl 1 rfl) ?_
  refine lv_dup hx hb dX13_lay_21 rfl ?_
  have h192_5 : f5 192 = .inr (13, [.ref (b + 193), .ref (b + 194), .ref (b + 195), .int 0, .int 0, .int 0, .ref (b + 196), .ref (b + 197), .int 6, .int 0, .int 0, .int 0, .int 0, .int 0, .int 0, .int (-1), .ref (b + 198), .ref (b + 199), .ref (b + 200), .ref (b + 201), .ref (b + 202), .ref (b + 203), .ref (b + 204), .ref (b + 205), .ref (b + 206), .ref (b + 207), .ref (b + 208), .int 0, .ref (b + 209), .ref (b + 210), .ref (b + 211), .ref (b + 212), .ref (b + 213), .ref (b + 214), .ref (b + 215), .int 0, .int 0, .int 0, .int 0, .ref (b + 216), .ref (b + 217), .ref (b + 218), .ref (b + 219)]) := m_ne ef5 h192_4 (by decide)
  refine m_get fl_X13_28_X13 C hM (i := 192) (by decide) h192_5 (v := .int 6) rfl dX13_lay_22 ?_
  refine lv_iconst (v := 1) hx hb dX13_lay_25 (by decide) ?_
  refine lv_iadd hx hb dX13_lay_26 ?_
  refine m_vi (y := 7) (by decide) ?_
  refine m_put fl_X13_28_X13 C hM (i := 192) (by decide) h192_5 rfl rfl (Nat.le_of_ble_eq_true rfl) (fs1 := [.ref (b + 193), .ref (b + 194), .ref (b + 195), .int 0, .int 0, .int 0, .ref (b + 196), .ref (b + 197), .int 7, .int 0, .int 0, .int 0, .int 0, .int 0, .int 0, .int (-1), .ref (b + 198), .ref (b + 199), .ref (b + 200), .ref (b + 201), .ref (b + 202), .ref (b + 203), .ref (b + 204), .ref (b + 205), .ref (b + 206), .ref (b + 207), .ref (b + 208), .int 0, .ref (b + 209), .ref (b + 210), .ref (b + 211), .ref (b + 212), .ref (b + 213), .ref (b + 214), .ref (b + 215), .int 0, .int 0, .int 0, .int 0, .ref (b + 216), .ref (b + 217), .ref (b + 218), .ref (b + 219)]) rfl dX13_lay_27 (fun H locs f6 ef6 hM => ?_)
  refine lv_iinc (v := 0) (lv' := [(2, .int 0), (0, .ref (b + 192)), (1, .int a1)]) hx hb dX13_lay_30 hl (k := 0) rfl (by decide) (by decide) rfl (fun ls hl => ?_)
  refine lv_goto (tgt := 3) hx hb dX13_lay_33 (by decide) ?_
  refine lv_iload_n hx hb dX13_lay_3 rfl (lv_at hl 0 rfl) ?_
  refine lv_if_lt (tgt := 36) hx hb dX13_lay_4 (by decide) (fun h => absurd h (by decide)) (fun _ => ?_)
  refine lv_aload_n hx hb dX13_lay_7 rfl (lv_at hl 1 rfl) ?_
  have h192_6 : f6 192 = .inr (13, [.ref (b + 193), .ref (b + 194), .ref (b + 195), .int 0, .int 0, .int 0, .ref (b + 196), .ref (b + 197), .int 7, .int 0, .int 0, .int 0, .int 0, .int 0, .int 0, .int (-1), .ref (b + 198), .ref (b + 199), .ref (b + 200), .ref (b + 201), .ref (b + 202), .ref (b + 203), .ref (b + 204), .ref (b + 205), .ref (b + 206), .ref (b + 207), .ref (b + 208), .int 0, .ref (b + 209), .ref (b + 210), .ref (b + 211), .ref (b + 212), .ref (b + 213), .ref (b + 214), .ref (b + 215), .int 0, .int 0, .int 0, .int 0, .ref (b + 216), .ref (b + 217), .ref (b + 218), .ref (b + 219)]) := m_eq ef6
  refine m_get fl_X13_17_X13 C hM (i := 192) (by decide) h192_6 (v := .ref (b + 197)) rfl dX13_lay_8 ?_
  refine lv_aload_n hx hb dX13_lay_11 rfl (lv_at hl 1 rfl) ?_
  refine m_get fl_X13_28_X13 C hM (i := 192) (by decide) h192_6 (v := .int 7) rfl dX13_lay_12 ?_
  refine lv_iload_n hx hb dX13_lay_15 rfl (lv_at hl 2 rfl) ?_
  refine lv_iload_n hx hb dX13_lay_16 rfl (lv_at hl 0 rfl) ?_
  refine lv_ishr hx hb dX13_lay_17 ?_
  refine lv_i2b hx hb dX13_lay_18 rfl ?_
  refine lv_topi (fun x4 ex4 => ?_)
  have h197_5 : f5 197 = .inl (kc 0, 2000, .inl (upd (upd (upd g197 4 x1.toInt8.toInt32) 5 x2.toInt8.toInt32) 6 x3.toInt8.toInt32)) := m_eq ef5
  have h197_6 : f6 197 = .inl (kc 0, 2000, .inl (upd (upd (upd g197 4 x1.toInt8.toInt32) 5 x2.toInt8.toInt32) 6 x3.toInt8.toInt32)) := m_ne ef6 h197_5 (by decide)
  refine m_bast C hM (j := 197) (by decide) h197_6 (m_in (by decide)) dX13_lay_19 (fun H locs f7 ef7 hM => ?_)
  have ef7 : f7 = va_up f6 197 (.inl (kc 0, 2000, .inl (upd (upd (upd (upd g197 4 x1.toInt8.toInt32) 5 x2.toInt8.toInt32) 6 x3.toInt8.toInt32) 7 x4.toInt8.toInt32))) := ef7
  refine lv_aload_n hx hb dX13_lay_20 rfl (lv_at hl 1 rfl) ?_
  refine lv_dup hx hb dX13_lay_21 rfl ?_
  have h192_7 : f7 192 = .inr (13, [.ref (b + 193), .ref (b + 194), .ref (b + 195), .int 0, .int 0, .int 0, .ref (b + 196), .ref (b + 197), .int 7, .int 0, .int 0, .int 0, .int 0, .int 0, .int 0, .int (-1), .ref (b + 198), .ref (b + 199), .ref (b + 200), .ref (b + 201), .ref (b + 202), .ref (b + 203), .ref (b + 204), .ref (b + 205), .ref (b + 206), .ref (b + 207), .ref (b + 208), .int 0, .ref (b + 209), .ref (b + 210), .ref (b + 211), .ref (b + 212), .ref (b + 213), .ref (b + 214), .ref (b + 215), .int 0, .int 0, .int 0, .int 0, .ref (b + 216), .ref (b + 217), .ref (b + 218), .ref (b + 219)]) := m_ne ef7 h192_6 (by decide)
  refine m_get fl_X13_28_X13 C hM (i := 192) (by decide) h192_7 (v := .int 7) rfl dX13_lay_22 ?_
  refine lv_iconst (v := 1) hx hb dX13_lay_25 (by decide) ?_
  refine lv_iadd hx hb dX13_lay_26 ?_
  refine m_vi (y := 8) (by decide) ?_
  refine m_put fl_X13_28_X13 C hM (i := 192) (by decide) h192_7 rfl rfl (Nat.le_of_ble_eq_true rfl) (fs1 := [.ref (b + 193), .ref (b + 194), .ref (b + 195), .int 0, .int 0, .int 0, .ref (b + 196), .ref (b + 197), .int 8, .int 0, .int 0, .int 0, .int 0, .int 0, .int 0, .int (-1), .ref (b + 198), .ref (b + 199), .ref (b + 200), .ref (b + 201), .ref (b + 202), .ref (b + 203), .ref (b + 204), .ref (b + 205), .ref (b + 206), .ref (b + 207), .ref (b + 208), .int 0, .ref (b + 209), .ref (b + 210), .ref (b + 211), .ref (b + 212), .ref (b + 213), .ref (b + 214), .ref (b + 215), .int 0, .int 0, .int 0, .int 0, .ref (b + 216), .ref (b + 217), .ref (b + 218), .ref (b + 219)]) rfl dX13_lay_27 (fun H locs f8 ef8 hM => ?_)
  refine lv_iinc (v := (-8)) (lv' := [(2, .int (-8)), (0, .ref (b + 192)), (1, .int a1)]) hx hb dX13_lay_30 hl (k := 0) rfl (by decide) (by decide) rfl (fun ls hl => ?_)
  refine lv_goto (tgt := 3) hx hb dX13_lay_33 (by decide) ?_
  refine lv_iload_n hx hb dX13_lay_3 rfl (lv_at hl 0 rfl) ?_
  refine lv_if_lt (tgt := 36) hx hb dX13_lay_4 (by decide) (fun _ => ?_) (fun h => absurd (by decide) h)
  exact m_vret C hr hlk hM (⟨x1, x2, x3, x4, rfl, by rw [ef8, ef7, ef6, ef5, ef4, ef3, ef2, ef1]⟩) dX13_lay_36
set_option maxHeartbeats 4000000 in
set_option maxRecDepth 100000 in
theorem a_X13_lay_2 (l : Launch) (D : va_G) (kc : Nat → ClassId) (b : Nat) (f : Nat → va_E) (a2 : Int32) (g197 : Nat → Int32) (h192 : f 192 = .inr (13, [.ref (b + 193), .ref (b + 194), .ref (b + 195), .int 0, .int 0, .int 0, .ref (b + 196), .ref (b + 197), .int 8, .int 0, .int 0, .int 0, .int 0, .int 0, .int 0, .int (-1), .ref (b + 198), .ref (b + 199), .ref (b + 200), .ref (b + 201), .ref (b + 202), .ref (b + 203), .ref (b + 204), .ref (b + 205), .ref (b + 206), .ref (b + 207), .ref (b + 208), .int 0, .ref (b + 209), .ref (b + 210), .ref (b + 211), .ref (b + 212), .ref (b + 213), .ref (b + 214), .ref (b + 215), .int 0, .int 0, .int 0, .int 0, .ref (b + 216), .ref (b + 217), .ref (b + 218), .ref (b + 219)])) (h197 : f 197 = .inl (kc 0, 2000, .inl (g197))) : mMv l yX13_lay cX13_lay 3 1 0 0 D kc b 220 f [.ref (b + 192), .int a2] (fun u => ∃ (x1 : Int32) (x2 : Int32) (x3 : Int32) (x4 : Int32), u.1 = 220 ∧ u.2 = va_up (va_up (va_up (va_up (va_up (va_up (va_up (va_up f 197 (.inl (kc 0, 2000, .inl (upd g197 8 x1.toInt8.toInt32)))) 192 (.inr (13, [.ref (b + 193), .ref (b + 194), .ref (b + 195), .int 0, .int 0, .int 0, .ref (b + 196), .ref (b + 197), .int 9, .int 0, .int 0, .int 0, .int 0, .int 0, .int 0, .int (-1), .ref (b + 198), .ref (b + 199), .ref (b + 200), .ref (b + 201), .ref (b + 202), .ref (b + 203), .ref (b + 204), .ref (b + 205), .ref (b + 206), .ref (b + 207), .ref (b + 208), .int 0, .ref (b + 209), .ref (b + 210), .ref (b + 211), .ref (b + 212), .ref (b + 213), .ref (b + 214), .ref (b + 215), .int 0, .int 0, .int 0, .int 0, .ref (b + 216), .ref (b + 217), .ref (b + 218), .ref (b + 219)]))) 197 (.inl (kc 0, 2000, .inl (upd (upd g197 8 x1.toInt8.toInt32) 9 x2.toInt8.toInt32)))) 192 (.inr (13, [.ref (b + 193), .ref (b + 194), .ref (b + 195), .int 0, .int 0, .int 0, .ref (b + 196), .ref (b + 197), .int 10, .int 0, .int 0, .int 0, .int 0, .int 0, .int 0, .int (-1), .ref (b + 198), .ref (b + 199), .ref (b + 200), .ref (b + 201), .ref (b + 202), .ref (b + 203), .ref (b + 204), .ref (b + 205), .ref (b + 206), .ref (b + 207), .ref (b + 208), .int 0, .ref (b + 209), .ref (b + 210), .ref (b + 211), .ref (b + 212), .ref (b + 213), .ref (b + 214), .ref (b + 215), .int 0, .int 0, .int 0, .int 0, .ref (b + 216), .ref (b + 217), .ref (b + 218), .ref (b + 219)]))) 197 (.inl (kc 0, 2000, .inl (upd (upd (upd g197 8 x1.toInt8.toInt32) 9 x2.toInt8.toInt32) 10 x3.toInt8.toInt32)))) 192 (.inr (13, [.ref (b + 193), .ref (b + 194), .ref (b + 195), .int 0, .int 0, .int 0, .ref (b + 196), .ref (b + 197), .int 11, .int 0, .int 0, .int 0, .int 0, .int 0, .int 0, .int (-1), .ref (b + 198), .ref (b + 199), .ref (b + 200), .ref (b + 201), .ref (b + 202), .ref (b + 203), .ref (b + 204), .ref (b + 205), .ref (b + 206), .ref (b + 207), .ref (b + 208), .int 0, .ref (b + 209), .ref (b + 210), .ref (b + 211), .ref (b + 212), .ref (b + 213), .ref (b + 214), .ref (b + 215), .int 0, .int 0, .int 0, .int 0, .ref (b + 216), .ref (b + 217), .ref (b + 218), .ref (b + 219)]))) 197 (.inl (kc 0, 2000, .inl (upd (upd (upd (upd g197 8 x1.toInt8.toInt32) 9 x2.toInt8.toInt32) 10 x3.toInt8.toInt32) 11 x4.toInt8.toInt32)))) 192 (.inr (13, [.ref (b + 193), .ref (b + 194), .ref (b + 195), .int 0, .int 0, .int 0, .ref (b + 196), .ref (b + 197), .int 12, .int 0, .int 0, .int 0, .int 0, .int 0, .int 0, .int (-1), .ref (b + 198), .ref (b + 199), .ref (b + 200), .ref (b + 201), .ref (b + 202), .ref (b + 203), .ref (b + 204), .ref (b + 205), .ref (b + 206), .ref (b + 207), .ref (b + 208), .int 0, .ref (b + 209), .ref (b + 210), .ref (b + 211), .ref (b + 212), .ref (b + 213), .ref (b + 214), .ref (b + 215), .int 0, .int 0, .int 0, .int 0, .ref (b + 216), .ref (b + 217), .ref (b + 218), .ref (b + 219)]))) := by
  refine m_start (by decide) (Nat.le_of_ble_eq_true rfl) ?_
  intro p e s m below meth c C hr hlk hnm hM ls hl
  obtain ⟨hx, hb, hml, hown, hts, hE, hbs⟩ := id C
  have hl : lv_has ls 3 [(0, .ref (b + 192)), (1, .int a2)] := hl
  refine lv_bipush (v := 24) hx hb dX13_lay_0 (by decide) ?_
  refine lv_istore_n (lv' := [(2, .int 24), (0, .ref (b + 192)), (1, .int a2)]) hx hb dX13_lay_2 rfl hl (by decide) rfl (fun ls hl => ?_)
  refine lv_iload_n hx hb dX13_lay_3 rfl (lv_at hl 0 rfl) ?_
  refine lv_if_lt (tgt := 36) hx hb dX13_lay_4 (by decide) (fun h => absurd h (by decide)) (fun _ => ?_)
  refine lv_aload_n hx hb dX13_lay_7 rfl (lv_at hl 1 rfl) ?_
  refine m_get fl_X13_17_X13 C hM (i := 192) (by decide) h192 (v := .ref (b + 197)) rfl dX13_lay_8 ?_
  refine lv_aload_n hx hb dX13_lay_11 rfl (lv_at hl 1 rfl) ?_
  refine m_get fl_X13_28_X13 C hM (i := 192) (by decide) h192 (v := .int 8) rfl dX13_lay_12 ?_
  refine lv_iload_n hx hb dX13_lay_15 rfl (lv_at hl 2 rfl) ?_
  refine lv_iload_n hx hb dX13_lay_16 rfl (lv_at hl 0 rfl) ?_
  refine lv_ishr hx hb dX13_lay_17 ?_
  refine lv_i2b hx hb dX13_lay_18 rfl ?_
  refine lv_topi (fun x1 ex1 => ?_)
  refine m_bast C hM (j := 197) (by decide) h197 (m_in (by decide)) dX13_lay_19 (fun H locs f1 ef1 hM => ?_)
  have ef1 : f1 = va_up f 197 (.inl (kc 0, 2000, .inl (upd g197 8 x1.toInt8.toInt32))) := ef1
  refine lv_aload_n hx hb dX13_lay_20 rfl (lv_at hl 1 rfl) ?_
  refine lv_dup hx hb dX13_lay_21 rfl ?_
  have h192_1 : f1 192 = .inr (13, [.ref (b + 193), .ref (b + 194), .ref (b + 195), .int 0, .int 0, .int 0, .ref (b + 196), .ref (b + 197), .int 8, .int 0, .int 0, .int 0, .int 0, .int 0, .int 0, .int (-1), .ref (b + 198), .ref (b + 199), .ref (b + 200), .ref (b + 201), .ref (b + 202), .ref (b + 203), .ref (b + 204), .ref (b + 205), .ref (b + 206), .ref (b + 207), .ref (b + 208), .int 0, .ref (b + 209), .ref (b + 210), .ref (b + 211), .ref (b + 212), .ref (b + 213), .ref (b + 214), .ref (b + 215), .int 0, .int 0, .int 0, .int 0, .ref (b + 216), .ref (b + 217), .ref (b + 218), .ref (b + 219)]) := m_ne ef1 h192 (by decide)
  refine m_get fl_X13_28_X13 C hM (i := 192) (by decide) h192_1 (v := .int 8) rfl dX13_lay_22 ?_
  refine lv_iconst (v := 1) hx hb dX13_lay_25 (by decide) ?_
  refine lv_iadd hx hb dX13_lay_26 ?_
  refine m_vi (y := 9) (by decide) ?_
  refine m_put fl_X13_28_X13 C hM (i := 192) (by decide) h192_1 rfl rfl (Nat.le_of_ble_eq_true rfl) (fs1 := [.ref (b + 193), .ref (b + 194), .ref (b + 195), .int 0, .int 0, .int 0, .ref (b + 196), .ref (b + 197), .int 9, .int 0, .int 0, .int 0, .int 0, .int 0, .int 0, .int (-1), .ref (b + 198), .ref (b + 199), .ref (b + 200), .ref (b + 201), .ref (b + 202), .ref (b + 203), .ref (b + 204), .ref (b + 205), .ref (b + 206), .ref (b + 207), .ref (b + 208), .int 0, .ref (b + 209), .ref (b + 210), .ref (b + 211), .ref (b + 212), .ref (b + 213), .ref (b + 214), .ref (b + 215), .int 0, .int 0, .int 0, .int 0, .ref (b + 216), .ref (b + 217), .ref (b + 218), .ref (b + 219)]) rfl dX13_lay_27 (fun H locs f2 ef2 hM => ?_)
  refine lv_iinc (v := 16) (lv' := [(2, .int 16), (0, .ref (b + 192)), (1, .int a2)]) hx hb dX13_lay_30 hl (k := 0) rfl (by decide) (by decide) rfl (fun ls hl => ?_)
  refine lv_goto (tgt := 3) hx hb dX13_lay_33 (by decide) ?_
  refine lv_iload_n hx hb dX13_lay_3 rfl (lv_at hl 0 rfl) ?_
  refine lv_if_lt (tgt := 36) hx hb dX13_lay_4 (by decide) (fun h => absurd h (by decide)) (fun _ => ?_)
  refine lv_aload_n hx hb dX13_lay_7 rfl (lv_at hl 1 rfl) ?_
  have h192_2 : f2 192 = .inr (13, [.ref (b + 193), .ref (b + 194), .ref (b + 195), .int 0, .int 0, .int 0, .ref (b + 196), .ref (b + 197), .int 9, .int 0, .int 0, .int 0, .int 0, .int 0, .int 0, .int (-1), .ref (b + 198), .ref (b + 199), .ref (b + 200), .ref (b + 201), .ref (b + 202), .ref (b + 203), .ref (b + 204), .ref (b + 205), .ref (b + 206), .ref (b + 207), .ref (b + 208), .int 0, .ref (b + 209), .ref (b + 210), .ref (b + 211), .ref (b + 212), .ref (b + 213), .ref (b + 214), .ref (b + 215), .int 0, .int 0, .int 0, .int 0, .ref (b + 216), .ref (b + 217), .ref (b + 218), .ref (b + 219)]) := m_eq ef2
  refine m_get fl_X13_17_X13 C hM (i := 192) (by decide) h192_2 (v := .ref (b + 197)) rfl dX13_lay_8 ?_
  refine lv_aload_n hx hb dX13_lay_11 rfl (lv_at hl 1 rfl) ?_
  refine m_get fl_X13_28_X13 C hM (i := 192) (by decide) h192_2 (v := .int 9) rfl dX13_lay_12 ?_
  refine lv_iload_n hx hb dX13_lay_15 rfl (lv_at hl 2 rfl) ?_
  refine lv_iload_n hx hb dX13_lay_16 rfl (lv_at hl 0 rfl) ?_
  refine lv_ishr hx hb dX13_lay_17 ?_
  refine lv_i2b hx hb dX13_lay_18 rfl ?_
  refine lv_topi (fun x2 ex2 => ?_)
  have h197_1 : f1 197 = .inl (kc 0, 2000, .inl (upd g197 8 x1.toInt8.toInt32)) := m_eq ef1
  have h197_2 : f2 197 = .inl (kc 0, 2000, .inl (upd g197 8 x1.toInt8.toInt32)) := m_ne ef2 h197_1 (by decide)
  refine m_bast C hM (j := 197) (by decide) h197_2 (m_in (by decide)) dX13_lay_19 (fun H locs f3 ef3 hM => ?_)
  have ef3 : f3 = va_up f2 197 (.inl (kc 0, 2000, .inl (upd (upd g197 8 x1.toInt8.toInt32) 9 x2.toInt8.toInt32))) := ef3
  refine lv_aload_n hx hb dX13_lay_20 rfl (lv_at hl 1 rfl) ?_
  refine lv_dup hx hb dX13_lay_21 rfl ?_
  have h192_3 : f3 192 = .inr (13, [.ref (b + 193), .ref (b + 194), .ref (b + 195), .int 0, .int 0, .int 0, .ref (b + 196), .ref (b + 197), .int 9, .int 0, .int 0, .int 0, .int 0, .int 0, .int 0, .int (-1), .ref (b + 198), .ref (b + 199), .ref (b + 200), .ref (b + 201), .ref (b + 202), .ref (b + 203), .ref (b + 204), .ref (b + 205), .ref (b + 206), .ref (b + 207), .ref (b + 208), .int 0, .ref (b + 209), .ref (b + 210), .ref (b + 211), .ref (b + 212), .ref (b + 213), .ref (b + 214), .ref (b + 215), .int 0, .int 0, .int 0, .int 0, .ref (b + 216), .ref (b + 217), .ref (b + 218), .ref (b + 219)]) := m_ne ef3 h192_2 (by decide)
  refine m_get fl_X13_28_X13 C hM (i := 192) (by decide) h192_3 (v := .int 9) rfl dX13_lay_22 ?_
  refine lv_iconst (v := 1) hx hb dX13_lay_25 (by decide) ?_
  refine lv_iadd hx hb dX13_lay_26 ?_
  refine m_vi (y := 10) (by decide) ?_
  refine m_put fl_X13_28_X13 C hM (i := 192) (by decide) h192_3 rfl rfl (Nat.le_of_ble_eq_true rfl) (fs1 := [.ref (b + 193), .ref (b + 194), .ref (b + 195), .int 0, .int 0, .int 0, .ref (b + 196), .ref (b + 197), .int 10, .int 0, .int 0, .int 0, .int 0, .int 0, .int 0, .int (-1), .ref (b + 198), .ref (b + 199), .ref (b + 200), .ref (b + 201), .ref (b + 202), .ref (b + 203), .ref (b + 204), .ref (b + 205), .ref (b + 206), .ref (b + 207), .ref (b + 208), .int 0, .ref (b + 209), .ref (b + 210), .ref (b + 211), .ref (b + 212), .ref (b + 213), .ref (b + 214), .ref (b + 215), .int 0, .int 0, .int 0, .int 0, .ref (b + 216), .ref (b + 217), .ref (b + 218), .ref (b + 219)]) rfl dX13_lay_27 (fun H locs f4 ef4 hM => ?_)
  refine lv_iinc (v := 8) (lv' := [(2, .int 8), (0, .ref (b + 192)), (1, .int a2)]) hx hb dX13_lay_30 hl (k := 0) rfl (by decide) (by decide) rfl (fun ls hl => ?_)
  refine lv_goto (tgt := 3) hx hb dX13_lay_33 (by decide) ?_
  refine lv_iload_n hx hb dX13_lay_3 rfl (lv_at hl 0 rfl) ?_
  refine lv_if_lt (tgt := 36) hx hb dX13_lay_4 (by decide) (fun h => absurd h (by decide)) (fun _ => ?_)
  refine lv_aload_n hx hb dX13_lay_7 rfl (lv_at hl 1 rfl) ?_
  have h192_4 : f4 192 = .inr (13, [.ref (b + 193), .ref (b + 194), .ref (b + 195), .int 0, .int 0, .int 0, .ref (b + 196), .ref (b + 197), .int 10, .int 0, .int 0, .int 0, .int 0, .int 0, .int 0, .int (-1), .ref (b + 198), .ref (b + 199), .ref (b + 200), .ref (b + 201), .ref (b + 202), .ref (b + 203), .ref (b + 204), .ref (b + 205), .ref (b + 206), .ref (b + 207), .ref (b + 208), .int 0, .ref (b + 209), .ref (b + 210), .ref (b + 211), .ref (b + 212), .ref (b + 213), .ref (b + 214), .ref (b + 215), .int 0, .int 0, .int 0, .int 0, .ref (b + 216), .ref (b + 217), .ref (b + 218), .ref (b + 219)]) := m_eq ef4
  refine m_get fl_X13_17_X13 C hM (i := 192) (by decide) h192_4 (v := .ref (b + 197)) rfl dX13_lay_8 ?_
  refine lv_aload_n hx hb dX13_lay_11 rfl (lv_at hl 1 rfl) ?_
  refine m_get fl_X13_28_X13 C hM (i := 192) (by decide) h192_4 (v := .int 10) rfl dX13_lay_12 ?_
  refine lv_iload_n hx hb dX13_lay_15 rfl (lv_at hl 2 rfl) ?_
  refine lv_iload_n hx hb dX13_lay_16 rfl (lv_at hl 0 rfl) ?_
  refine lv_ishr hx hb dX13_lay_17 ?_
  refine lv_i2b hx hb dX13_lay_18 rfl ?_
  refine lv_topi (fun x3 ex3 => ?_)
  have h197_3 : f3 197 = .inl (kc 0, 2000, .inl (upd (upd g197 8 x1.toInt8.toInt32) 9 x2.toInt8.toInt32)) := m_eq ef3
  have h197_4 : f4 197 = .inl (kc 0, 2000, .inl (upd (upd g197 8 x1.toInt8.toInt32) 9 x2.toInt8.toInt32)) := m_ne ef4 h197_3 (by decide)
  refine m_bast C hM (j := 197) (by decide) h197_4 (m_in (by decide)) dX13_lay_19 (fun H locs f5 ef5 hM => ?_)
  have ef5 : f5 = va_up f4 197 (.inl (kc 0, 2000, .inl (upd (upd (upd g197 8 x1.toInt8.toInt32) 9 x2.toInt8.toInt32) 10 x3.toInt8.toInt32))) := ef5
  refine lv_aload_n hx hb dX13_lay_20 rfl (lv_at hl 1 rfl) ?_
  refine lv_dup hx hb dX13_lay_21 rfl ?_
  have h192_5 : f5 192 = .inr (13, [.ref (b + 193), .ref (b + 194), .ref (b + 195), .int 0, .int 0, .int 0, .ref (b + 196), .ref (b + 197), .int 10, .int 0, .int 0, .int 0, .int 0, .int 0, .int 0, .int (-1), .ref (b + 198), .ref (b + 199), .ref (b + 200), .ref (b + 201), .ref (b + 202), .ref (b + 203), .ref (b + 204), .ref (b + 205), .ref (b + 206), .ref (b + 207), .ref (b + 208), .int 0, .ref (b + 209), .ref (b + 210), .ref (b + 211), .ref (b + 212), .ref (b + 213), .ref (b + 214), .ref (b + 215), .int 0, .int 0, .int 0, .int 0, .ref (b + 216), .ref (b + 217), .ref (b + 218), .ref (b + 219)]) := m_ne ef5 h192_4 (by decide)
  refine m_get fl_X13_28_X13 C hM (i := 192) (by decide) h192_5 (v := .int 10) rfl dX13_lay_22 ?_
  refine lv_iconst (v := 1) hx hb dX13_lay_25 (by decide) ?_
  refine lv_iadd hx hb dX13_lay_26 ?_
  refine m_vi (y := 11) (by decide) ?_
  refine m_put fl_X13_28_X13 C hM (i := 192) (by decide) h192_5 rfl rfl (Nat.le_of_ble_eq_true rfl) (fs1 := [.ref (b + 193), .ref (b + 194), .ref (b + 195), .int 0, .int 0, .int 0, .ref (b + 196), .ref (b + 197), .int 11, .int 0, .int 0, .int 0, .int 0, .int 0, .int 0, .int (-1), .ref (b + 198), .ref (b + 199), .ref (b + 200), .ref (b + 201), .ref (b + 202), .ref (b + 203), .ref (b + 204), .ref (b + 205), .ref (b + 206), .ref (b + 207), .ref (b + 208), .int 0, .ref (b + 209), .ref (b + 210), .ref (b + 211), .ref (b + 212), .ref (b + 213), .ref (b + 214), .ref (b + 215), .int 0, .int 0, .int 0, .int 0, .ref (b + 216), .ref (b + 217), .ref (b + 218), .ref (b + 219)]) rfl dX13_lay_27 (fun H locs f6 ef6 hM => ?_)
  refine lv_iinc (v := 0) (lv' := [(2, .int 0), (0, .ref (b + 192)), (1, .int a2)]) hx hb dX13_lay_30 hl (k := 0) rfl (by decide) (by decide) rfl (fun ls hl => ?_)
  refine lv_goto (tgt := 3) hx hb dX13_lay_33 (by decide) ?_
  refine lv_iload_n hx hb dX13_lay_3 rfl (lv_at hl 0 rfl) ?_
  refine lv_if_lt (tgt := 36) hx hb dX13_lay_4 (by decide) (fun h => absurd h (by decide)) (fun _ => ?_)
  refine lv_aload_n hx hb dX13_lay_7 rfl (lv_at hl 1 rfl) ?_
  have h192_6 : f6 192 = .inr (13, [.ref (b + 193), .ref (b + 194), .ref (b + 195), .int 0, .int 0, .int 0, .ref (b + 196), .ref (b + 197), .int 11, .int 0, .int 0, .int 0, .int 0, .int 0, .int 0, .int (-1), .ref (b + 198), .ref (b + 199), .ref (b + 200), .ref (b + 201), .ref (b + 202), .ref (b + 203), .ref (b + 204), .ref (b + 205), .ref (b + 206), .ref (b + 207), .ref (b + 208), .int 0, .ref (b + 209), .ref (b + 210), .ref (b + 211), .ref (b + 212), .ref (b + 213), .ref (b + 214), .ref (b + 215), .int 0, .int 0, .int 0, .int 0, .ref (b + 216), .ref (b + 217), .ref (b + 218), .ref (b + 219)]) := m_eq ef6
  refine m_get fl_X13_17_X13 C hM (i := 192) (by decide) h192_6 (v := .ref (b + 197)) rfl dX13_lay_8 ?_
  refine lv_aload_n hx hb dX13_lay_11 rfl (lv_at hl 1 rfl) ?_
  refine m_get fl_X13_28_X13 C hM (i := 192) (by decide) h192_6 (v := .int 11) rfl dX13_lay_12 ?_
  refine lv_iload_n hx hb dX13_lay_15 rfl (lv_at hl 2 rfl) ?_
  refine lv_iload_n hx hb dX13_lay_16 rfl (lv_at hl 0 rfl) ?_
  refine lv_ishr hx hb dX13_lay_17 ?_
  refine lv_i2b hx hb dX13_lay_18 rfl ?_
  refine lv_topi (fun x4 ex4 => ?_)
  have h197_5 : f5 197 = .inl (kc 0, 2000, .inl (upd (upd (upd g197 8 x1.toInt8.toInt32) 9 x2.toInt8.toInt32) 10 x3.toInt8.toInt32)) := m_eq ef5
  have h197_6 : f6 197 = .inl (kc 0, 2000, .inl (upd (upd (upd g197 8 x1.toInt8.toInt32) 9 x2.toInt8.toInt32) 10 x3.toInt8.toInt32)) := m_ne ef6 h197_5 (by decide)
  refine m_bast C hM (j := 197) (by decide) h197_6 (m_in (by decide)) dX13_lay_19 (fun H locs f7 ef7 hM => ?_)
  have ef7 : f7 = va_up f6 197 (.inl (kc 0, 2000, .inl (upd (upd (upd (upd g197 8 x1.toInt8.toInt32) 9 x2.toInt8.toInt32) 10 x3.toInt8.toInt32) 11 x4.toInt8.toInt32))) := ef7
  refine lv_aload_n hx hb dX13_lay_20 rfl (lv_at hl 1 rfl) ?_
  refine lv_dup hx hb dX13_lay_21 rfl ?_
  have h192_7 : f7 192 = .inr (13, [.ref (b + 193), .ref (b + 194), .ref (b + 195), .int 0, .int 0, .int 0, .ref (b + 196), .ref (b + 197), .int 11, .int 0, .int 0, .int 0, .int 0, .int 0, .int 0, .int (-1), .ref (b + 198), .ref (b + 199), .ref (b + 200), .ref (b + 201), .ref (b + 202), .ref (b + 203), .ref (b + 204), .ref (b + 205), .ref (b + 206), .ref (b + 207), .ref (b + 208), .int 0, .ref (b + 209), .ref (b + 210), .ref (b + 211), .ref (b + 212), .ref (b + 213), .ref (b + 214), .ref (b + 215), .int 0, .int 0, .int 0, .int 0, .ref (b + 216), .ref (b + 217), .ref (b + 218), .ref (b + 219)]) := m_ne ef7 h192_6 (by decide)
  refine m_get fl_X13_28_X13 C hM (i := 192) (by decide) h192_7 (v := .int 11) rfl dX13_lay_22 ?_
  refine lv_iconst (v := 1) hx hb dX13_lay_25 (by decide) ?_
  refine lv_iadd hx hb dX13_lay_26 ?_
  refine m_vi (y := 12) (by decide) ?_
  refine m_put fl_X13_28_X13 C hM (i := 192) (by decide) h192_7 rfl rfl (Nat.le_of_ble_eq_true rfl) (fs1 := [.ref (b + 193), .ref (b + 194), .ref (b + 195), .int 0, .int 0, .int 0, .ref (b + 196), .ref (b + 197), .int 12, .int 0, .int 0, .int 0, .int 0, .int 0, .int 0, .int (-1), .ref (b + 198), .ref (b + 199), .ref (b + 200), .ref (b + 201), .ref (b + 202), .ref (b + 203), .ref (b + 204), .ref (b + 205), .ref (b + 206), .ref (b + 207), .ref (b + 208), .int 0, .ref (b + 209), .ref (b + 210), .ref (b + 211), .ref (b + 212), .ref (b + 213), .ref (b + 214), .ref (b + 215), .int 0, .int 0, .int 0, .int 0, .ref (b + 216), .ref (b + 217), .ref (b + 218), .ref (b + 219)]) rfl dX13_lay_27 (fun H locs f8 ef8 hM => ?_)
  refine lv_iinc (v := (-8)) (lv' := [(2, .int (-8)), (0, .ref (b + 192)), (1, .int a2)]) hx hb dX13_lay_30 hl (k := 0) rfl (by decide) (by decide) rfl (fun ls hl => ?_)
  refine lv_goto (tgt := 3) hx hb dX13_lay_33 (by decide) ?_
  refine lv_iload_n hx hb dX13_lay_3 rfl (lv_at hl 0 rfl) ?_
  refine lv_if_lt (tgt := 36) hx hb dX13_lay_4 (by decide) (fun _ => ?_) (fun h => absurd (by decide) h)
  exact m_vret C hr hlk hM (⟨x1, x2, x3, x4, rfl, by rw [ef8, ef7, ef6, ef5, ef4, ef3, ef2, ef1]⟩) dX13_lay_36
set_option maxHeartbeats 4000000 in
set_option maxRecDepth 100000 in
theorem a_X13_lay_3 (l : Launch) (D : va_G) (kc : Nat → ClassId) (b : Nat) (f : Nat → va_E) (a3 : Int32) (g197 : Nat → Int32) (h192 : f 192 = .inr (13, [.ref (b + 193), .ref (b + 194), .ref (b + 195), .int 0, .int 0, .int 0, .ref (b + 196), .ref (b + 197), .int 12, .int 0, .int 0, .int 0, .int 0, .int 0, .int 0, .int (-1), .ref (b + 198), .ref (b + 199), .ref (b + 200), .ref (b + 201), .ref (b + 202), .ref (b + 203), .ref (b + 204), .ref (b + 205), .ref (b + 206), .ref (b + 207), .ref (b + 208), .int 0, .ref (b + 209), .ref (b + 210), .ref (b + 211), .ref (b + 212), .ref (b + 213), .ref (b + 214), .ref (b + 215), .int 0, .int 0, .int 0, .int 0, .ref (b + 216), .ref (b + 217), .ref (b + 218), .ref (b + 219)])) (h197 : f 197 = .inl (kc 0, 2000, .inl (g197))) : mMv l yX13_lay cX13_lay 3 1 0 0 D kc b 220 f [.ref (b + 192), .int a3] (fun u => ∃ (x1 : Int32) (x2 : Int32) (x3 : Int32) (x4 : Int32), u.1 = 220 ∧ u.2 = va_up (va_up (va_up (va_up (va_up (va_up (va_up (va_up f 197 (.inl (kc 0, 2000, .inl (upd g197 12 x1.toInt8.toInt32)))) 192 (.inr (13, [.ref (b + 193), .ref (b + 194), .ref (b + 195), .int 0, .int 0, .int 0, .ref (b + 196), .ref (b + 197), .int 13, .int 0, .int 0, .int 0, .int 0, .int 0, .int 0, .int (-1), .ref (b + 198), .ref (b + 199), .ref (b + 200), .ref (b + 201), .ref (b + 202), .ref (b + 203), .ref (b + 204), .ref (b + 205), .ref (b + 206), .ref (b + 207), .ref (b + 208), .int 0, .ref (b + 209), .ref (b + 210), .ref (b + 211), .ref (b + 212), .ref (b + 213), .ref (b + 214), .ref (b + 215), .int 0, .int 0, .int 0, .int 0, .ref (b + 216), .ref (b + 217), .ref (b + 218), .ref (b + 219)]))) 197 (.inl (kc 0, 2000, .inl (upd (upd g197 12 x1.toInt8.toInt32) 13 x2.toInt8.toInt32)))) 192 (.inr (13, [.ref (b + 193), .ref (b + 194), .ref (b + 195), .int 0, .int 0, .int 0, .ref (b + 196), .ref (b + 197), .int 14, .int 0, .int 0, .int 0, .int 0, .int 0, .int 0, .int (-1), .ref (b + 198), .ref (b + 199), .ref (b + 200), .ref (b + 201), .ref (b + 202), .ref (b + 203), .ref (b + 204), .ref (b + 205), .ref (b + 206), .ref (b + 207), .ref (b + 208), .int 0, .ref (b + 209), .ref (b + 210), .ref (b + 211), .ref (b + 212), .ref (b + 213), .ref (b + 214), .ref (b + 215), .int 0, .int 0, .int 0, .int 0, .ref (b + 216), .ref (b + 217), .ref (b + 218), .ref (b + 219)]))) 197 (.inl (kc 0, 2000, .inl (upd (upd (upd g197 12 x1.toInt8.toInt32) 13 x2.toInt8.toInt32) 14 x3.toInt8.toInt32)))) 192 (.inr (13, [.ref (b + 193), .ref (b + 194), .ref (b + 195), .int 0, .int 0, .int 0, .ref (b + 196), .ref (b + 197), .int 15, .int 0, .int 0, .int 0, .int 0, .int 0, .int 0, .int (-1), .ref (b + 198), .ref (b + 199), .ref (b + 200), .ref (b + 201), .ref (b + 202), .ref (b + 203), .ref (b + 204), .ref (b + 205), .ref (b + 206), .ref (b + 207), .ref (b + 208), .int 0, .ref (b + 209), .ref (b + 210), .ref (b + 211), .ref (b + 212), .ref (b + 213), .ref (b + 214), .ref (b + 215), .int 0, .int 0, .int 0, .int 0, .ref (b + 216), .ref (b + 217), .ref (b + 218), .ref (b + 219)]))) 197 (.inl (kc 0, 2000, .inl (upd (upd (upd (upd g197 12 x1.toInt8.toInt32) 13 x2.toInt8.toInt32) 14 x3.toInt8.toInt32) 15 x4.toInt8.toInt32)))) 192 (.inr (13, [.ref (b + 193), .ref (b + 194), .ref (b + 195), .int 0, .int 0, .int 0, .ref (b + 196), .ref (b + 197), .int 16, .int 0, .int 0, .int 0, .int 0, .int 0, .int 0, .int (-1), .ref (b + 198), .ref (b + 199), .ref (b + 200), .ref (b + 201), .ref (b + 202), .ref (b + 203), .ref (b + 204), .ref (b + 205), .ref (b + 206), .ref (b + 207), .ref (b + 208), .int 0, .ref (b + 209), .ref (b + 210), .ref (b + 211), .ref (b + 212), .ref (b + 213), .ref (b + 214), .ref (b + 215), .int 0, .int 0, .int 0, .int 0, .ref (b + 216), .ref (b + 217), .ref (b + 218), .ref (b + 219)]))) := by
  refine m_start (by decide) (Nat.le_of_ble_eq_true rfl) ?_
  intro p e s m below meth c C hr hlk hnm hM ls hl
  obtain ⟨hx, hb, hml, hown, hts, hE, hbs⟩ := id C
  have hl : lv_has ls 3 [(0, .ref (b + 192)), (1, .int a3)] := hl
  refine lv_bipush (v := 24) hx hb dX13_lay_0 (by decide) ?_
  refine lv_istore_n (lv' := [(2, .int 24), (0, .ref (b + 192)), (1, .int a3)]) hx hb dX13_lay_2 rfl hl (by decide) rfl (fun ls hl => ?_)
  refine lv_iload_n hx hb dX13_lay_3 rfl (lv_at hl 0 rfl) ?_
  refine lv_if_lt (tgt := 36) hx hb dX13_lay_4 (by decide) (fun h => absurd h (by decide)) (fun _ => ?_)
  refine lv_aload_n hx hb dX13_lay_7 rfl (lv_at hl 1 rfl) ?_
  refine m_get fl_X13_17_X13 C hM (i := 192) (by decide) h192 (v := .ref (b + 197)) rfl dX13_lay_8 ?_
  refine lv_aload_n hx hb dX13_lay_11 rfl (lv_at hl 1 rfl) ?_
  refine m_get fl_X13_28_X13 C hM (i := 192) (by decide) h192 (v := .int 12) rfl dX13_lay_12 ?_
  refine lv_iload_n hx hb dX13_lay_15 rfl (lv_at hl 2 rfl) ?_
  refine lv_iload_n hx hb dX13_lay_16 rfl (lv_at hl 0 rfl) ?_
  refine lv_ishr hx hb dX13_lay_17 ?_
  refine lv_i2b hx hb dX13_lay_18 rfl ?_
  refine lv_topi (fun x1 ex1 => ?_)
  refine m_bast C hM (j := 197) (by decide) h197 (m_in (by decide)) dX13_lay_19 (fun H locs f1 ef1 hM => ?_)
  have ef1 : f1 = va_up f 197 (.inl (kc 0, 2000, .inl (upd g197 12 x1.toInt8.toInt32))) := ef1
  refine lv_aload_n hx hb dX13_lay_20 rfl (lv_at hl 1 rfl) ?_
  refine lv_dup hx hb dX13_lay_21 rfl ?_
  have h192_1 : f1 192 = .inr (13, [.ref (b + 193), .ref (b + 194), .ref (b + 195), .int 0, .int 0, .int 0, .ref (b + 196), .ref (b + 197), .int 12, .int 0, .int 0, .int 0, .int 0, .int 0, .int 0, .int (-1), .ref (b + 198), .ref (b + 199), .ref (b + 200), .ref (b + 201), .ref (b + 202), .ref (b + 203), .ref (b + 204), .ref (b + 205), .ref (b + 206), .ref (b + 207), .ref (b + 208), .int 0, .ref (b + 209), .ref (b + 210), .ref (b + 211), .ref (b + 212), .ref (b + 213), .ref (b + 214), .ref (b + 215), .int 0, .int 0, .int 0, .int 0, .ref (b + 216), .ref (b + 217), .ref (b + 218), .ref (b + 219)]) := m_ne ef1 h192 (by decide)
  refine m_get fl_X13_28_X13 C hM (i := 192) (by decide) h192_1 (v := .int 12) rfl dX13_lay_22 ?_
  refine lv_iconst (v := 1) hx hb dX13_lay_25 (by decide) ?_
  refine lv_iadd hx hb dX13_lay_26 ?_
  refine m_vi (y := 13) (by decide) ?_
  refine m_put fl_X13_28_X13 C hM (i := 192) (by decide) h192_1 rfl rfl (Nat.le_of_ble_eq_true rfl) (fs1 := [.ref (b + 193), .ref (b + 194), .ref (b + 195), .int 0, .int 0, .int 0, .ref (b + 196), .ref (b + 197), .int 13, .int 0, .int 0, .int 0, .int 0, .int 0, .int 0, .int (-1), .ref (b + 198), .ref (b + 199), .ref (b + 200), .ref (b + 201), .ref (b + 202), .ref (b + 203), .ref (b + 204), .ref (b + 205), .ref (b + 206), .ref (b + 207), .ref (b + 208), .int 0, .ref (b + 209), .ref (b + 210), .ref (b + 211), .ref (b + 212), .ref (b + 213), .ref (b + 214), .ref (b + 215), .int 0, .int 0, .int 0, .int 0, .ref (b + 216), .ref (b + 217), .ref (b + 218), .ref (b + 219)]) rfl dX13_lay_27 (fun H locs f2 ef2 hM => ?_)
  refine lv_iinc (v := 16) (lv' := [(2, .int 16), (0, .ref (b + 192)), (1, .int a3)]) hx hb dX13_lay_30 hl (k := 0) rfl (by decide) (by decide) rfl (fun ls hl => ?_)
  refine lv_goto (tgt := 3) hx hb dX13_lay_33 (by decide) ?_
  refine lv_iload_n hx hb dX13_lay_3 rfl (lv_at hl 0 rfl) ?_
  refine lv_if_lt (tgt := 36) hx hb dX13_lay_4 (by decide) (fun h => absurd h (by decide)) (fun _ => ?_)
  refine lv_aload_n hx hb dX13_lay_7 rfl (lv_at hl 1 rfl) ?_
  have h192_2 : f2 192 = .inr (13, [.ref (b + 193), .ref (b + 194), .ref (b + 195), .int 0, .int 0, .int 0, .ref (b + 196), .ref (b + 197), .int 13, .int 0, .int 0, .int 0, .int 0, .int 0, .int 0, .int (-1), .ref (b + 198), .ref (b + 199), .ref (b + 200), .ref (b + 201), .ref (b + 202), .ref (b + 203), .ref (b + 204), .ref (b + 205), .ref (b + 206), .ref (b + 207), .ref (b + 208), .int 0, .ref (b + 209), .ref (b + 210), .ref (b + 211), .ref (b + 212), .ref (b + 213), .ref (b + 214), .ref (b + 215), .int 0, .int 0, .int 0, .int 0, .ref (b + 216), .ref (b + 217), .ref (b + 218), .ref (b + 219)]) := m_eq ef2
  refine m_get fl_X13_17_X13 C hM (i := 192) (by decide) h192_2 (v := .ref (b + 197)) rfl dX13_lay_8 ?_
  refine lv_aload_n hx hb dX13_lay_11 rfl (lv_at hl 1 rfl) ?_
  refine m_get fl_X13_28_X13 C hM (i := 192) (by decide) h192_2 (v := .int 13) rfl dX13_lay_12 ?_
  refine lv_iload_n hx hb dX13_lay_15 rfl (lv_at hl 2 rfl) ?_
  refine lv_iload_n hx hb dX13_lay_16 rfl (lv_at hl 0 rfl) ?_
  refine lv_ishr hx hb dX13_lay_17 ?_
  refine lv_i2b hx hb dX13_lay_18 rfl ?_
  refine lv_topi (fun x2 ex2 => ?_)
  have h197_1 : f1 197 = .inl (kc 0, 2000, .inl (upd g197 12 x1.toInt8.toInt32)) := m_eq ef1
  have h197_2 : f2 197 = .inl (kc 0, 2000, .inl (upd g197 12 x1.toInt8.toInt32)) := m_ne ef2 h197_1 (by decide)
  refine m_bast C hM (j := 197) (by decide) h197_2 (m_in (by decide)) dX13_lay_19 (fun H locs f3 ef3 hM => ?_)
  have ef3 : f3 = va_up f2 197 (.inl (kc 0, 2000, .inl (upd (upd g197 12 x1.toInt8.toInt32) 13 x2.toInt8.toInt32))) := ef3
  refine lv_aload_n hx hb dX13_lay_20 rfl (lv_at hl 1 rfl) ?_
  refine lv_dup hx hb dX13_lay_21 rfl ?_
  have h192_3 : f3 192 = .inr (13, [.ref (b + 193), .ref (b + 194), .ref (b + 195), .int 0, .int 0, .int 0, .ref (b + 196), .ref (b + 197), .int 13, .int 0, .int 0, .int 0, .int 0, .int 0, .int 0, .int (-1), .ref (b + 198), .ref (b + 199), .ref (b + 200), .ref (b + 201), .ref (b + 202), .ref (b + 203), .ref (b + 204), .ref (b + 205), .ref (b + 206), .ref (b + 207), .ref (b + 208), .int 0, .ref (b + 209), .ref (b + 210), .ref (b + 211), .ref (b + 212), .ref (b + 213), .ref (b + 214), .ref (b + 215), .int 0, .int 0, .int 0, .int 0, .ref (b + 216), .ref (b + 217), .ref (b + 218), .ref (b + 219)]) := m_ne ef3 h192_2 (by decide)
  refine m_get fl_X13_28_X13 C hM (i := 192) (by decide) h192_3 (v := .int 13) rfl dX13_lay_22 ?_
  refine lv_iconst (v := 1) hx hb dX13_lay_25 (by decide) ?_
  refine lv_iadd hx hb dX13_lay_26 ?_
  refine m_vi (y := 14) (by decide) ?_
  refine m_put fl_X13_28_X13 C hM (i := 192) (by decide) h192_3 rfl rfl (Nat.le_of_ble_eq_true rfl) (fs1 := [.ref (b + 193), .ref (b + 194), .ref (b + 195), .int 0, .int 0, .int 0, .ref (b + 196), .ref (b + 197), .int 14, .int 0, .int 0, .int 0, .int 0, .int 0, .int 0, .int (-1), .ref (b + 198), .ref (b + 199), .ref (b + 200), .ref (b + 201), .ref (b + 202), .ref (b + 203), .ref (b + 204), .ref (b + 205), .ref (b + 206), .ref (b + 207), .ref (b + 208), .int 0, .ref (b + 209), .ref (b + 210), .ref (b + 211), .ref (b + 212), .ref (b + 213), .ref (b + 214), .ref (b + 215), .int 0, .int 0, .int 0, .int 0, .ref (b + 216), .ref (b + 217), .ref (b + 218), .ref (b + 219)]) rfl dX13_lay_27 (fun H locs f4 ef4 hM => ?_)
  refine lv_iinc (v := 8) (lv' := [(2, .int 8), (0, .ref (b + 192)), (1, .int a3)]) hx hb dX13_lay_30 hl (k := 0) rfl (by decide) (by decide) rfl (fun ls hl => ?_)
  refine lv_goto (tgt := 3) hx hb dX13_lay_33 (by decide) ?_
  refine lv_iload_n hx hb dX13_lay_3 rfl (lv_at hl 0 rfl) ?_
  refine lv_if_lt (tgt := 36) hx hb dX13_lay_4 (by decide) (fun h => absurd h (by decide)) (fun _ => ?_)
  refine lv_aload_n hx hb dX13_lay_7 rfl (lv_at hl 1 rfl) ?_
  have h192_4 : f4 192 = .inr (13, [.ref (b + 193), .ref (b + 194), .ref (b + 195), .int 0, .int 0, .int 0, .ref (b + 196), .ref (b + 197), .int 14, .int 0, .int 0, .int 0, .int 0, .int 0, .int 0, .int (-1), .ref (b + 198), .ref (b + 199), .ref (b + 200), .ref (b + 201), .ref (b + 202), .ref (b + 203), .ref (b + 204), .ref (b + 205), .ref (b + 206), .ref (b + 207), .ref (b + 208), .int 0, .ref (b + 209), .ref (b + 210), .ref (b + 211), .ref (b + 212), .ref (b + 213), .ref (b + 214), .ref (b + 215), .int 0, .int 0, .int 0, .int 0, .ref (b + 216), .ref (b + 217), .ref (b + 218), .ref (b + 219)]) := m_eq ef4
  refine m_get fl_X13_17_X13 C hM (i := 192) (by decide) h192_4 (v := .ref (b + 197)) rfl dX13_lay_8 ?_
  refine lv_aload_n hx hb dX13_lay_11 rfl (lv_at hl 1 rfl) ?_
  refine m_get fl_X13_28_X13 C hM (i := 192) (by decide) h192_4 (v := .int 14) rfl dX13_lay_12 ?_
  refine lv_iload_n hx hb dX13_lay_15 rfl (lv_at hl 2 rfl) ?_
  refine lv_iload_n hx hb dX13_lay_16 rfl (lv_at hl 0 rfl) ?_
  refine lv_ishr hx hb dX13_lay_17 ?_
  refine lv_i2b hx hb dX13_lay_18 rfl ?_
  refine lv_topi (fun x3 ex3 => ?_)
  have h197_3 : f3 197 = .inl (kc 0, 2000, .inl (upd (upd g197 12 x1.toInt8.toInt32) 13 x2.toInt8.toInt32)) := m_eq ef3
  have h197_4 : f4 197 = .inl (kc 0, 2000, .inl (upd (upd g197 12 x1.toInt8.toInt32) 13 x2.toInt8.toInt32)) := m_ne ef4 h197_3 (by decide)
  refine m_bast C hM (j := 197) (by decide) h197_4 (m_in (by decide)) dX13_lay_19 (fun H locs f5 ef5 hM => ?_)
  have ef5 : f5 = va_up f4 197 (.inl (kc 0, 2000, .inl (upd (upd (upd g197 12 x1.toInt8.toInt32) 13 x2.toInt8.toInt32) 14 x3.toInt8.toInt32))) := ef5
  refine lv_aload_n hx hb dX13_lay_20 rfl (lv_at hl 1 rfl) ?_
  refine lv_dup hx hb dX13_lay_21 rfl ?_
  have h192_5 : f5 192 = .inr (13, [.ref (b + 193), .ref (b + 194), .ref (b + 195), .int 0, .int 0, .int 0, .ref (b + 196), .ref (b + 197), .int 14, .int 0, .int 0, .int 0, .int 0, .int 0, .int 0, .int (-1), .ref (b + 198), .ref (b + 199), .ref (b + 200), .ref (b + 201), .ref (b + 202), .ref (b + 203), .ref (b + 204), .ref (b + 205), .ref (b + 206), .ref (b + 207), .ref (b + 208), .int 0, .ref (b + 209), .ref (b + 210), .ref (b + 211), .ref (b + 212), .ref (b + 213), .ref (b + 214), .ref (b + 215), .int 0, .int 0, .int 0, .int 0, .ref (b + 216), .ref (b + 217), .ref (b + 218), .ref (b + 219)]) := m_ne ef5 h192_4 (by decide)
  refine m_get fl_X13_28_X13 C hM (i := 192) (by decide) h192_5 (v := .int 14) rfl dX13_lay_22 ?_
  refine lv_iconst (v := 1) hx hb dX13_lay_25 (by decide) ?_
  refine lv_iadd hx hb dX13_lay_26 ?_
  refine m_vi (y := 15) (by decide) ?_
  refine m_put fl_X13_28_X13 C hM (i := 192) (by decide) h192_5 rfl rfl (Nat.le_of_ble_eq_true rfl) (fs1 := [.ref (b + 193), .ref (b + 194), .ref (b + 195), .int 0, .int 0, .int 0, .ref (b + 196), .ref (b + 197), .int 15, .int 0, .int 0, .int 0, .int 0, .int 0, .int 0, .int (-1), .ref (b + 198), .ref (b + 199), .ref (b + 200), .ref (b + 201), .ref (b + 202), .ref (b + 203), .ref (b + 204), .ref (b + 205), .ref (b + 206), .ref (b + 207), .ref (b + 208), .int 0, .ref (b + 209), .ref (b + 210), .ref (b + 211), .ref (b + 212), .ref (b + 213), .ref (b + 214), .ref (b + 215), .int 0, .int 0, .int 0, .int 0, .ref (b + 216), .ref (b + 217), .ref (b + 218), .ref (b + 219)]) rfl dX13_lay_27 (fun H locs f6 ef6 hM => ?_)
  refine lv_iinc (v := 0) (lv' := [(2, .int 0), (0, .ref (b + 192)), (1, .int a3)]) hx hb dX13_lay_30 hl (k := 0) rfl (by decide) (by decide) rfl (fun ls hl => ?_)
  refine lv_goto (tgt := 3) hx hb dX13_lay_33 (by decide) ?_
  refine lv_iload_n hx hb dX13_lay_3 rfl (lv_at hl 0 rfl) ?_
  refine lv_if_lt (tgt := 36) hx hb dX13_lay_4 (by decide) (fun h => absurd h (by decide)) (fun _ => ?_)
  refine lv_aload_n hx hb dX13_lay_7 rfl (lv_at hl 1 rfl) ?_
  have h192_6 : f6 192 = .inr (13, [.ref (b + 193), .ref (b + 194), .ref (b + 195), .int 0, .int 0, .int 0, .ref (b + 196), .ref (b + 197), .int 15, .int 0, .int 0, .int 0, .int 0, .int 0, .int 0, .int (-1), .ref (b + 198), .ref (b + 199), .ref (b + 200), .ref (b + 201), .ref (b + 202), .ref (b + 203), .ref (b + 204), .ref (b + 205), .ref (b + 206), .ref (b + 207), .ref (b + 208), .int 0, .ref (b + 209), .ref (b + 210), .ref (b + 211), .ref (b + 212), .ref (b + 213), .ref (b + 214), .ref (b + 215), .int 0, .int 0, .int 0, .int 0, .ref (b + 216), .ref (b + 217), .ref (b + 218), .ref (b + 219)]) := m_eq ef6
  refine m_get fl_X13_17_X13 C hM (i := 192) (by decide) h192_6 (v := .ref (b + 197)) rfl dX13_lay_8 ?_
  refine lv_aload_n hx hb dX13_lay_11 rfl (lv_at hl 1 rfl) ?_
  refine m_get fl_X13_28_X13 C hM (i := 192) (by decide) h192_6 (v := .int 15) rfl dX13_lay_12 ?_
  refine lv_iload_n hx hb dX13_lay_15 rfl (lv_at hl 2 rfl) ?_
  refine lv_iload_n hx hb dX13_lay_16 rfl (lv_at hl 0 rfl) ?_
  refine lv_ishr hx hb dX13_lay_17 ?_
  refine lv_i2b hx hb dX13_lay_18 rfl ?_
  refine lv_topi (fun x4 ex4 => ?_)
  have h197_5 : f5 197 = .inl (kc 0, 2000, .inl (upd (upd (upd g197 12 x1.toInt8.toInt32) 13 x2.toInt8.toInt32) 14 x3.toInt8.toInt32)) := m_eq ef5
  have h197_6 : f6 197 = .inl (kc 0, 2000, .inl (upd (upd (upd g197 12 x1.toInt8.toInt32) 13 x2.toInt8.toInt32) 14 x3.toInt8.toInt32)) := m_ne ef6 h197_5 (by decide)
  refine m_bast C hM (j := 197) (by decide) h197_6 (m_in (by decide)) dX13_lay_19 (fun H locs f7 ef7 hM => ?_)
  have ef7 : f7 = va_up f6 197 (.inl (kc 0, 2000, .inl (upd (upd (upd (upd g197 12 x1.toInt8.toInt32) 13 x2.toInt8.toInt32) 14 x3.toInt8.toInt32) 15 x4.toInt8.toInt32))) := ef7
  refine lv_aload_n hx hb dX13_lay_20 rfl (lv_at hl 1 rfl) ?_
  refine lv_dup hx hb dX13_lay_21 rfl ?_
  have h192_7 : f7 192 = .inr (13, [.ref (b + 193), .ref (b + 194), .ref (b + 195), .int 0, .int 0, .int 0, .ref (b + 196), .ref (b + 197), .int 15, .int 0, .int 0, .int 0, .int 0, .int 0, .int 0, .int (-1), .ref (b + 198), .ref (b + 199), .ref (b + 200), .ref (b + 201), .ref (b + 202), .ref (b + 203), .ref (b + 204), .ref (b + 205), .ref (b + 206), .ref (b + 207), .ref (b + 208), .int 0, .ref (b + 209), .ref (b + 210), .ref (b + 211), .ref (b + 212), .ref (b + 213), .ref (b + 214), .ref (b + 215), .int 0, .int 0, .int 0, .int 0, .ref (b + 216), .ref (b + 217), .ref (b + 218), .ref (b + 219)]) := m_ne ef7 h192_6 (by decide)
  refine m_get fl_X13_28_X13 C hM (i := 192) (by decide) h192_7 (v := .int 15) rfl dX13_lay_22 ?_
  refine lv_iconst (v := 1) hx hb dX13_lay_25 (by decide) ?_
  refine lv_iadd hx hb dX13_lay_26 ?_
  refine m_vi (y := 16) (by decide) ?_
  refine m_put fl_X13_28_X13 C hM (i := 192) (by decide) h192_7 rfl rfl (Nat.le_of_ble_eq_true rfl) (fs1 := [.ref (b + 193), .ref (b + 194), .ref (b + 195), .int 0, .int 0, .int 0, .ref (b + 196), .ref (b + 197), .int 16, .int 0, .int 0, .int 0, .int 0, .int 0, .int 0, .int (-1), .ref (b + 198), .ref (b + 199), .ref (b + 200), .ref (b + 201), .ref (b + 202), .ref (b + 203), .ref (b + 204), .ref (b + 205), .ref (b + 206), .ref (b + 207), .ref (b + 208), .int 0, .ref (b + 209), .ref (b + 210), .ref (b + 211), .ref (b + 212), .ref (b + 213), .ref (b + 214), .ref (b + 215), .int 0, .int 0, .int 0, .int 0, .ref (b + 216), .ref (b + 217), .ref (b + 218), .ref (b + 219)]) rfl dX13_lay_27 (fun H locs f8 ef8 hM => ?_)
  refine lv_iinc (v := (-8)) (lv' := [(2, .int (-8)), (0, .ref (b + 192)), (1, .int a3)]) hx hb dX13_lay_30 hl (k := 0) rfl (by decide) (by decide) rfl (fun ls hl => ?_)
  refine lv_goto (tgt := 3) hx hb dX13_lay_33 (by decide) ?_
  refine lv_iload_n hx hb dX13_lay_3 rfl (lv_at hl 0 rfl) ?_
  refine lv_if_lt (tgt := 36) hx hb dX13_lay_4 (by decide) (fun _ => ?_) (fun h => absurd (by decide) h)
  exact m_vret C hr hlk hM (⟨x1, x2, x3, x4, rfl, by rw [ef8, ef7, ef6, ef5, ef4, ef3, ef2, ef1]⟩) dX13_lay_36
set_option maxHeartbeats 4000000 in
set_option maxRecDepth 100000 in
theorem a_X13_lay_4 (l : Launch) (D : va_G) (kc : Nat → ClassId) (b : Nat) (f : Nat → va_E) (a4 : Int32) (g197 : Nat → Int32) (h192 : f 192 = .inr (13, [.ref (b + 193), .ref (b + 194), .ref (b + 195), .int 0, .int 0, .int 0, .ref (b + 196), .ref (b + 197), .int 16, .int 0, .int 0, .int 0, .int 0, .int 0, .int 0, .int (-1), .ref (b + 198), .ref (b + 199), .ref (b + 200), .ref (b + 201), .ref (b + 202), .ref (b + 203), .ref (b + 204), .ref (b + 205), .ref (b + 206), .ref (b + 207), .ref (b + 208), .int 0, .ref (b + 209), .ref (b + 210), .ref (b + 211), .ref (b + 212), .ref (b + 213), .ref (b + 214), .ref (b + 215), .int 0, .int 0, .int 0, .int 0, .ref (b + 216), .ref (b + 217), .ref (b + 218), .ref (b + 219)])) (h197 : f 197 = .inl (kc 0, 2000, .inl (g197))) : mMv l yX13_lay cX13_lay 3 1 0 0 D kc b 220 f [.ref (b + 192), .int a4] (fun u => ∃ (x1 : Int32) (x2 : Int32) (x3 : Int32) (x4 : Int32), u.1 = 220 ∧ u.2 = va_up (va_up (va_up (va_up (va_up (va_up (va_up (va_up f 197 (.inl (kc 0, 2000, .inl (upd g197 16 x1.toInt8.toInt32)))) 192 (.inr (13, [.ref (b + 193), .ref (b + 194), .ref (b + 195), .int 0, .int 0, .int 0, .ref (b + 196), .ref (b + 197), .int 17, .int 0, .int 0, .int 0, .int 0, .int 0, .int 0, .int (-1), .ref (b + 198), .ref (b + 199), .ref (b + 200), .ref (b + 201), .ref (b + 202), .ref (b + 203), .ref (b + 204), .ref (b + 205), .ref (b + 206), .ref (b + 207), .ref (b + 208), .int 0, .ref (b + 209), .ref (b + 210), .ref (b + 211), .ref (b + 212), .ref (b + 213), .ref (b + 214), .ref (b + 215), .int 0, .int 0, .int 0, .int 0, .ref (b + 216), .ref (b + 217), .ref (b + 218), .ref (b + 219)]))) 197 (.inl (kc 0, 2000, .inl (upd (upd g197 16 x1.toInt8.toInt32) 17 x2.toInt8.toInt32)))) 192 (.inr (13, [.ref (b + 193), .ref (b + 194), .ref (b + 195), .int 0, .int 0, .int 0, .ref (b + 196), .ref (b + 197), .int 18, .int 0, .int 0, .int 0, .int 0, .int 0, .int 0, .int (-1), .ref (b + 198), .ref (b + 199), .ref (b + 200), .ref (b + 201), .ref (b + 202), .ref (b + 203), .ref (b + 204), .ref (b + 205), .ref (b + 206), .ref (b + 207), .ref (b + 208), .int 0, .ref (b + 209), .ref (b + 210), .ref (b + 211), .ref (b + 212), .ref (b + 213), .ref (b + 214), .ref (b + 215), .int 0, .int 0, .int 0, .int 0, .ref (b + 216), .ref (b + 217), .ref (b + 218), .ref (b + 219)]))) 197 (.inl (kc 0, 2000, .inl (upd (upd (upd g197 16 x1.toInt8.toInt32) 17 x2.toInt8.toInt32) 18 x3.toInt8.toInt32)))) 192 (.inr (13, [.ref (b + 193), .ref (b + 194), .ref (b + 195), .int 0, .int 0, .int 0, .ref (b + 196), .ref (b + 197), .int 19, .int 0, .int 0, .int 0, .int 0, .int 0, .int 0, .int (-1), .ref (b + 198), .ref (b + 199), .ref (b + 200), .ref (b + 201), .ref (b + 202), .ref (b + 203), .ref (b + 204), .ref (b + 205), .ref (b + 206), .ref (b + 207), .ref (b + 208), .int 0, .ref (b + 209), .ref (b + 210), .ref (b + 211), .ref (b + 212), .ref (b + 213), .ref (b + 214), .ref (b + 215), .int 0, .int 0, .int 0, .int 0, .ref (b + 216), .ref (b + 217), .ref (b + 218), .ref (b + 219)]))) 197 (.inl (kc 0, 2000, .inl (upd (upd (upd (upd g197 16 x1.toInt8.toInt32) 17 x2.toInt8.toInt32) 18 x3.toInt8.toInt32) 19 x4.toInt8.toInt32)))) 192 (.inr (13, [.ref (b + 193), .ref (b + 194), .ref (b + 195), .int 0, .int 0, .int 0, .ref (b + 196), .ref (b + 197), .int 20, .int 0, .int 0, .int 0, .int 0, .int 0, .int 0, .int (-1), .ref (b + 198), .ref (b + 199), .ref (b + 200), .ref (b + 201), .ref (b + 202), .ref (b + 203), .ref (b + 204), .ref (b + 205), .ref (b + 206), .ref (b + 207), .ref (b + 208), .int 0, .ref (b + 209), .ref (b + 210), .ref (b + 211), .ref (b + 212), .ref (b + 213), .ref (b + 214), .ref (b + 215), .int 0, .int 0, .int 0, .int 0, .ref (b + 216), .ref (b + 217), .ref (b + 218), .ref (b + 219)]))) := by
  refine m_start (by decide) (Nat.le_of_ble_eq_true rfl) ?_
  intro p e s m below meth c C hr hlk hnm hM ls hl
  obtain ⟨hx, hb, hml, hown, hts, hE, hbs⟩ := id C
  have hl : lv_has ls 3 [(0, .ref (b + 192)), (1, .int a4)] := hl
  refine lv_bipush (v := 24) hx hb dX13_lay_0 (by decide) ?_
  refine lv_istore_n (lv' := [(2, .int 24), (0, .ref (b + 192)), (1, .int a4)]) hx hb dX13_lay_2 rfl hl (by decide) rfl (fun ls hl => ?_)
  refine lv_iload_n hx hb dX13_lay_3 rfl (lv_at hl 0 rfl) ?_
  refine lv_if_lt (tgt := 36) hx hb dX13_lay_4 (by decide) (fun h => absurd h (by decide)) (fun _ => ?_)
  refine lv_aload_n hx hb dX13_lay_7 rfl (lv_at hl 1 rfl) ?_
  refine m_get fl_X13_17_X13 C hM (i := 192) (by decide) h192 (v := .ref (b + 197)) rfl dX13_lay_8 ?_
  refine lv_aload_n hx hb dX13_lay_11 rfl (lv_at hl 1 rfl) ?_
  refine m_get fl_X13_28_X13 C hM (i := 192) (by decide) h192 (v := .int 16) rfl dX13_lay_12 ?_
  refine lv_iload_n hx hb dX13_lay_15 rfl (lv_at hl 2 rfl) ?_
  refine lv_iload_n hx hb dX13_lay_16 rfl (lv_at hl 0 rfl) ?_
  refine lv_ishr hx hb dX13_lay_17 ?_
  refine lv_i2b hx hb dX13_lay_18 rfl ?_
  refine lv_topi (fun x1 ex1 => ?_)
  refine m_bast C hM (j := 197) (by decide) h197 (m_in (by decide)) dX13_lay_19 (fun H locs f1 ef1 hM => ?_)
  have ef1 : f1 = va_up f 197 (.inl (kc 0, 2000, .inl (upd g197 16 x1.toInt8.toInt32))) := ef1
  refine lv_aload_n hx hb dX13_lay_20 rfl (lv_at hl 1 rfl) ?_
  refine lv_dup hx hb dX13_lay_21 rfl ?_
  have h192_1 : f1 192 = .inr (13, [.ref (b + 193), .ref (b + 194), .ref (b + 195), .int 0, .int 0, .int 0, .ref (b + 196), .ref (b + 197), .int 16, .int 0, .int 0, .int 0, .int 0, .int 0, .int 0, .int (-1), .ref (b + 198), .ref (b + 199), .ref (b + 200), .ref (b + 201), .ref (b + 202), .ref (b + 203), .ref (b + 204), .ref (b + 205), .ref (b + 206), .ref (b + 207), .ref (b + 208), .int 0, .ref (b + 209), .ref (b + 210), .ref (b + 211), .ref (b + 212), .ref (b + 213), .ref (b + 214), .ref (b + 215), .int 0, .int 0, .int 0, .int 0, .ref (b + 216), .ref (b + 217), .ref (b + 218), .ref (b + 219)]) := m_ne ef1 h192 (by decide)
  refine m_get fl_X13_28_X13 C hM (i := 192) (by decide) h192_1 (v := .int 16) rfl dX13_lay_22 ?_
  refine lv_iconst (v := 1) hx hb dX13_lay_25 (by decide) ?_
  refine lv_iadd hx hb dX13_lay_26 ?_
  refine m_vi (y := 17) (by decide) ?_
  refine m_put fl_X13_28_X13 C hM (i := 192) (by decide) h192_1 rfl rfl (Nat.le_of_ble_eq_true rfl) (fs1 := [.ref (b + 193), .ref (b + 194), .ref (b + 195), .int 0, .int 0, .int 0, .ref (b + 196), .ref (b + 197), .int 17, .int 0, .int 0, .int 0, .int 0, .int 0, .int 0, .int (-1), .ref (b + 198), .ref (b + 199), .ref (b + 200), .ref (b + 201), .ref (b + 202), .ref (b + 203), .ref (b + 204), .ref (b + 205), .ref (b + 206), .ref (b + 207), .ref (b + 208), .int 0, .ref (b + 209), .ref (b + 210), .ref (b + 211), .ref (b + 212), .ref (b + 213), .ref (b + 214), .ref (b + 215), .int 0, .int 0, .int 0, .int 0, .ref (b + 216), .ref (b + 217), .ref (b + 218), .ref (b + 219)]) rfl dX13_lay_27 (fun H locs f2 ef2 hM => ?_)
  refine lv_iinc (v := 16) (lv' := [(2, .int 16), (0, .ref (b + 192)), (1, .int a4)]) hx hb dX13_lay_30 hl (k := 0) rfl (by decide) (by decide) rfl (fun ls hl => ?_)
  refine lv_goto (tgt := 3) hx hb dX13_lay_33 (by decide) ?_
  refine lv_iload_n hx hb dX13_lay_3 rfl (lv_at hl 0 rfl) ?_
  refine lv_if_lt (tgt := 36) hx hb dX13_lay_4 (by decide) (fun h => absurd h (by decide)) (fun _ => ?_)
  refine lv_aload_n hx hb dX13_lay_7 rfl (lv_at hl 1 rfl) ?_
  have h192_2 : f2 192 = .inr (13, [.ref (b + 193), .ref (b + 194), .ref (b + 195), .int 0, .int 0, .int 0, .ref (b + 196), .ref (b + 197), .int 17, .int 0, .int 0, .int 0, .int 0, .int 0, .int 0, .int (-1), .ref (b + 198), .ref (b + 199), .ref (b + 200), .ref (b + 201), .ref (b + 202), .ref (b + 203), .ref (b + 204), .ref (b + 205), .ref (b + 206), .ref (b + 207), .ref (b + 208), .int 0, .ref (b + 209), .ref (b + 210), .ref (b + 211), .ref (b + 212), .ref (b + 213), .ref (b + 214), .ref (b + 215), .int 0, .int 0, .int 0, .int 0, .ref (b + 216), .ref (b + 217), .ref (b + 218), .ref (b + 219)]) := m_eq ef2
  refine m_get fl_X13_17_X13 C hM (i := 192) (by decide) h192_2 (v := .ref (b + 197)) rfl dX13_lay_8 ?_
  refine lv_aload_n hx hb dX13_lay_11 rfl (lv_at hl 1 rfl) ?_
  refine m_get fl_X13_28_X13 C hM (i := 192) (by decide) h192_2 (v := .int 17) rfl dX13_lay_12 ?_
  refine lv_iload_n hx hb dX13_lay_15 rfl (lv_at hl 2 rfl) ?_
  refine lv_iload_n hx hb dX13_lay_16 rfl (lv_at hl 0 rfl) ?_
  refine lv_ishr hx hb dX13_lay_17 ?_
  refine lv_i2b hx hb dX13_lay_18 rfl ?_
  refine lv_topi (fun x2 ex2 => ?_)
  have h197_1 : f1 197 = .inl (kc 0, 2000, .inl (upd g197 16 x1.toInt8.toInt32)) := m_eq ef1
  have h197_2 : f2 197 = .inl (kc 0, 2000, .inl (upd g197 16 x1.toInt8.toInt32)) := m_ne ef2 h197_1 (by decide)
  refine m_bast C hM (j := 197) (by decide) h197_2 (m_in (by decide)) dX13_lay_19 (fun H locs f3 ef3 hM => ?_)
  have ef3 : f3 = va_up f2 197 (.inl (kc 0, 2000, .inl (upd (upd g197 16 x1.toInt8.toInt32) 17 x2.toInt8.toInt32))) := ef3
  refine lv_aload_n hx hb dX13_lay_20 rfl (lv_at hl 1 rfl) ?_
  refine lv_dup hx hb dX13_lay_21 rfl ?_
  have h192_3 : f3 192 = .inr (13, [.ref (b + 193), .ref (b + 194), .ref (b + 195), .int 0, .int 0, .int 0, .ref (b + 196), .ref (b + 197), .int 17, .int 0, .int 0, .int 0, .int 0, .int 0, .int 0, .int (-1), .ref (b + 198), .ref (b + 199), .ref (b + 200), .ref (b + 201), .ref (b + 202), .ref (b + 203), .ref (b + 204), .ref (b + 205), .ref (b + 206), .ref (b + 207), .ref (b + 208), .int 0, .ref (b + 209), .ref (b + 210), .ref (b + 211), .ref (b + 212), .ref (b + 213), .ref (b + 214), .ref (b + 215), .int 0, .int 0, .int 0, .int 0, .ref (b + 216), .ref (b + 217), .ref (b + 218), .ref (b + 219)]) := m_ne ef3 h192_2 (by decide)
  refine m_get fl_X13_28_X13 C hM (i := 192) (by decide) h192_3 (v := .int 17) rfl dX13_lay_22 ?_
  refine lv_iconst (v := 1) hx hb dX13_lay_25 (by decide) ?_
  refine lv_iadd hx hb dX13_lay_26 ?_
  refine m_vi (y := 18) (by decide) ?_
  refine m_put fl_X13_28_X13 C hM (i := 192) (by decide) h192_3 rfl rfl (Nat.le_of_ble_eq_true rfl) (fs1 := [.ref (b + 193), .ref (b + 194), .ref (b + 195), .int 0, .int 0, .int 0, .ref (b + 196), .ref (b + 197), .int 18, .int 0, .int 0, .int 0, .int 0, .int 0, .int 0, .int (-1), .ref (b + 198), .ref (b + 199), .ref (b + 200), .ref (b + 201), .ref (b + 202), .ref (b + 203), .ref (b + 204), .ref (b + 205), .ref (b + 206), .ref (b + 207), .ref (b + 208), .int 0, .ref (b + 209), .ref (b + 210), .ref (b + 211), .ref (b + 212), .ref (b + 213), .ref (b + 214), .ref (b + 215), .int 0, .int 0, .int 0, .int 0, .ref (b + 216), .ref (b + 217), .ref (b + 218), .ref (b + 219)]) rfl dX13_lay_27 (fun H locs f4 ef4 hM => ?_)
  refine lv_iinc (v := 8) (lv' := [(2, .int 8), (0, .ref (b + 192)), (1, .int a4)]) hx hb dX13_lay_30 hl (k := 0) rfl (by decide) (by decide) rfl (fun ls hl => ?_)
  refine lv_goto (tgt := 3) hx hb dX13_lay_33 (by decide) ?_
  refine lv_iload_n hx hb dX13_lay_3 rfl (lv_at hl 0 rfl) ?_
  refine lv_if_lt (tgt := 36) hx hb dX13_lay_4 (by decide) (fun h => absurd h (by decide)) (fun _ => ?_)
  refine lv_aload_n hx hb dX13_lay_7 rfl (lv_at hl 1 rfl) ?_
  have h192_4 : f4 192 = .inr (13, [.ref (b + 193), .ref (b + 194), .ref (b + 195), .int 0, .int 0, .int 0, .ref (b + 196), .ref (b + 197), .int 18, .int 0, .int 0, .int 0, .int 0, .int 0, .int 0, .int (-1), .ref (b + 198), .ref (b + 199), .ref (b + 200), .ref (b + 201), .ref (b + 202), .ref (b + 203), .ref (b + 204), .ref (b + 205), .ref (b + 206), .ref (b + 207), .ref (b + 208), .int 0, .ref (b + 209), .ref (b + 210), .ref (b + 211), .ref (b + 212), .ref (b + 213), .ref (b + 214), .ref (b + 215), .int 0, .int 0, .int 0, .int 0, .ref (b + 216), .ref (b + 217), .ref (b + 218), .ref (b + 219)]) := m_eq ef4
  refine m_get fl_X13_17_X13 C hM (i := 192) (by decide) h192_4 (v := .ref (b + 197)) rfl dX13_lay_8 ?_
  refine lv_aload_n hx hb dX13_lay_11 rfl (lv_at hl 1 rfl) ?_
  refine m_get fl_X13_28_X13 C hM (i := 192) (by decide) h192_4 (v := .int 18) rfl dX13_lay_12 ?_
  refine lv_iload_n hx hb dX13_lay_15 rfl (lv_at hl 2 rfl) ?_
  refine lv_iload_n hx hb dX13_lay_16 rfl (lv_at hl 0 rfl) ?_
  refine lv_ishr hx hb dX13_lay_17 ?_
  refine lv_i2b hx hb dX13_lay_18 rfl ?_
  refine lv_topi (fun x3 ex3 => ?_)
  have h197_3 : f3 197 = .inl (kc 0, 2000, .inl (upd (upd g197 16 x1.toInt8.toInt32) 17 x2.toInt8.toInt32)) := m_eq ef3
  have h197_4 : f4 197 = .inl (kc 0, 2000, .inl (upd (upd g197 16 x1.toInt8.toInt32) 17 x2.toInt8.toInt32)) := m_ne ef4 h197_3 (by decide)
  refine m_bast C hM (j := 197) (by decide) h197_4 (m_in (by decide)) dX13_lay_19 (fun H locs f5 ef5 hM => ?_)
  have ef5 : f5 = va_up f4 197 (.inl (kc 0, 2000, .inl (upd (upd (upd g197 16 x1.toInt8.toInt32) 17 x2.toInt8.toInt32) 18 x3.toInt8.toInt32))) := ef5
  refine lv_aload_n hx hb dX13_lay_20 rfl (lv_at hl 1 rfl) ?_
  refine lv_dup hx hb dX13_lay_21 rfl ?_
  have h192_5 : f5 192 = .inr (13, [.ref (b + 193), .ref (b + 194), .ref (b + 195), .int 0, .int 0, .int 0, .ref (b + 196), .ref (b + 197), .int 18, .int 0, .int 0, .int 0, .int 0, .int 0, .int 0, .int (-1), .ref (b + 198), .ref (b + 199), .ref (b + 200), .ref (b + 201), .ref (b + 202), .ref (b + 203), .ref (b + 204), .ref (b + 205), .ref (b + 206), .ref (b + 207), .ref (b + 208), .int 0, .ref (b + 209), .ref (b + 210), .ref (b + 211), .ref (b + 212), .ref (b + 213), .ref (b + 214), .ref (b + 215), .int 0, .int 0, .int 0, .int 0, .ref (b + 216), .ref (b + 217), .ref (b + 218), .ref (b + 219)]) := m_ne ef5 h192_4 (by decide)
  refine m_get fl_X13_28_X13 C hM (i := 192) (by decide) h192_5 (v := .int 18) rfl dX13_lay_22 ?_
  refine lv_iconst (v := 1) hx hb dX13_lay_25 (by decide) ?_
  refine lv_iadd hx hb dX13_lay_26 ?_
  refine m_vi (y := 19) (by decide) ?_
  refine m_put fl_X13_28_X13 C hM (i := 192) (by decide) h192_5 rfl rfl (Nat.le_of_ble_eq_true rfl) (fs1 := [.ref (b + 193), .ref (b + 194), .ref (b + 195), .int 0, .int 0, .int 0, .ref (b + 196), .ref (b + 197), .int 19, .int 0, .int 0, .int 0, .int 0, .int 0, .int 0, .int (-1), .ref (b + 198), .ref (b + 199), .ref (b + 200), .ref (b + 201), .ref (b + 202), .ref (b + 203), .ref (b + 204), .ref (b + 205), .ref (b + 206), .ref (b + 207), .ref (b + 208), .int 0, .ref (b + 209), .ref (b + 210), .ref (b + 211), .ref (b + 212), .ref (b + 213), .ref (b + 214), .ref (b + 215), .int 0, .int 0, .int 0, .int 0, .ref (b + 216), .ref (b + 217), .ref (b + 218), .ref (b + 219)]) rfl dX13_lay_27 (fun H locs f6 ef6 hM => ?_)
  refine lv_iinc (v := 0) (lv' := [(2, .int 0), (0, .ref (b + 192)), (1, .int a4)]) hx hb dX13_lay_30 hl (k := 0) rfl (by decide) (by decide) rfl (fun ls hl => ?_)
  refine lv_goto (tgt := 3) hx hb dX13_lay_33 (by decide) ?_
  refine lv_iload_n hx hb dX13_lay_3 rfl (lv_at hl 0 rfl) ?_
  refine lv_if_lt (tgt := 36) hx hb dX13_lay_4 (by decide) (fun h => absurd h (by decide)) (fun _ => ?_)
  refine lv_aload_n hx hb dX13_lay_7 rfl (lv_at hl 1 rfl) ?_
  have h192_6 : f6 192 = .inr (13, [.ref (b + 193), .ref (b + 194), .ref (b + 195), .int 0, .int 0, .int 0, .ref (b + 196), .ref (b + 197), .int 19, .int 0, .int 0, .int 0, .int 0, .int 0, .int 0, .int (-1), .ref (b + 198), .ref (b + 199), .ref (b + 200), .ref (b + 201), .ref (b + 202), .ref (b + 203), .ref (b + 204), .ref (b + 205), .ref (b + 206), .ref (b + 207), .ref (b + 208), .int 0, .ref (b + 209), .ref (b + 210), .ref (b + 211), .ref (b + 212), .ref (b + 213), .ref (b + 214), .ref (b + 215), .int 0, .int 0, .int 0, .int 0, .ref (b + 216), .ref (b + 217), .ref (b + 218), .ref (b + 219)]) := m_eq ef6
  refine m_get fl_X13_17_X13 C hM (i := 192) (by decide) h192_6 (v := .ref (b + 197)) rfl dX13_lay_8 ?_
  refine lv_aload_n hx hb dX13_lay_11 rfl (lv_at hl 1 rfl) ?_
  refine m_get fl_X13_28_X13 C hM (i := 192) (by decide) h192_6 (v := .int 19) rfl dX13_lay_12 ?_
  refine lv_iload_n hx hb dX13_lay_15 rfl (lv_at hl 2 rfl) ?_
  refine lv_iload_n hx hb dX13_lay_16 rfl (lv_at hl 0 rfl) ?_
  refine lv_ishr hx hb dX13_lay_17 ?_
  refine lv_i2b hx hb dX13_lay_18 rfl ?_
  refine lv_topi (fun x4 ex4 => ?_)
  have h197_5 : f5 197 = .inl (kc 0, 2000, .inl (upd (upd (upd g197 16 x1.toInt8.toInt32) 17 x2.toInt8.toInt32) 18 x3.toInt8.toInt32)) := m_eq ef5
  have h197_6 : f6 197 = .inl (kc 0, 2000, .inl (upd (upd (upd g197 16 x1.toInt8.toInt32) 17 x2.toInt8.toInt32) 18 x3.toInt8.toInt32)) := m_ne ef6 h197_5 (by decide)
  refine m_bast C hM (j := 197) (by decide) h197_6 (m_in (by decide)) dX13_lay_19 (fun H locs f7 ef7 hM => ?_)
  have ef7 : f7 = va_up f6 197 (.inl (kc 0, 2000, .inl (upd (upd (upd (upd g197 16 x1.toInt8.toInt32) 17 x2.toInt8.toInt32) 18 x3.toInt8.toInt32) 19 x4.toInt8.toInt32))) := ef7
  refine lv_aload_n hx hb dX13_lay_20 rfl (lv_at hl 1 rfl) ?_
  refine lv_dup hx hb dX13_lay_21 rfl ?_
  have h192_7 : f7 192 = .inr (13, [.ref (b + 193), .ref (b + 194), .ref (b + 195), .int 0, .int 0, .int 0, .ref (b + 196), .ref (b + 197), .int 19, .int 0, .int 0, .int 0, .int 0, .int 0, .int 0, .int (-1), .ref (b + 198), .ref (b + 199), .ref (b + 200), .ref (b + 201), .ref (b + 202), .ref (b + 203), .ref (b + 204), .ref (b + 205), .ref (b + 206), .ref (b + 207), .ref (b + 208), .int 0, .ref (b + 209), .ref (b + 210), .ref (b + 211), .ref (b + 212), .ref (b + 213), .ref (b + 214), .ref (b + 215), .int 0, .int 0, .int 0, .int 0, .ref (b + 216), .ref (b + 217), .ref (b + 218), .ref (b + 219)]) := m_ne ef7 h192_6 (by decide)
  refine m_get fl_X13_28_X13 C hM (i := 192) (by decide) h192_7 (v := .int 19) rfl dX13_lay_22 ?_
  refine lv_iconst (v := 1) hx hb dX13_lay_25 (by decide) ?_
  refine lv_iadd hx hb dX13_lay_26 ?_
  refine m_vi (y := 20) (by decide) ?_
  refine m_put fl_X13_28_X13 C hM (i := 192) (by decide) h192_7 rfl rfl (Nat.le_of_ble_eq_true rfl) (fs1 := [.ref (b + 193), .ref (b + 194), .ref (b + 195), .int 0, .int 0, .int 0, .ref (b + 196), .ref (b + 197), .int 20, .int 0, .int 0, .int 0, .int 0, .int 0, .int 0, .int (-1), .ref (b + 198), .ref (b + 199), .ref (b + 200), .ref (b + 201), .ref (b + 202), .ref (b + 203), .ref (b + 204), .ref (b + 205), .ref (b + 206), .ref (b + 207), .ref (b + 208), .int 0, .ref (b + 209), .ref (b + 210), .ref (b + 211), .ref (b + 212), .ref (b + 213), .ref (b + 214), .ref (b + 215), .int 0, .int 0, .int 0, .int 0, .ref (b + 216), .ref (b + 217), .ref (b + 218), .ref (b + 219)]) rfl dX13_lay_27 (fun H locs f8 ef8 hM => ?_)
  refine lv_iinc (v := (-8)) (lv' := [(2, .int (-8)), (0, .ref (b + 192)), (1, .int a4)]) hx hb dX13_lay_30 hl (k := 0) rfl (by decide) (by decide) rfl (fun ls hl => ?_)
  refine lv_goto (tgt := 3) hx hb dX13_lay_33 (by decide) ?_
  refine lv_iload_n hx hb dX13_lay_3 rfl (lv_at hl 0 rfl) ?_
  refine lv_if_lt (tgt := 36) hx hb dX13_lay_4 (by decide) (fun _ => ?_) (fun h => absurd (by decide) h)
  exact m_vret C hr hlk hM (⟨x1, x2, x3, x4, rfl, by rw [ef8, ef7, ef6, ef5, ef4, ef3, ef2, ef1]⟩) dX13_lay_36
