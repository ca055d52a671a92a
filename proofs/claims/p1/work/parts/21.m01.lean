set_option maxHeartbeats 4000000 in
set_option maxRecDepth 100000 in
theorem k_m_feed (l : Launch) (D : va_G) (kc : Nat → ClassId) (b : Nat) (f : Nat → va_E) (a0 : Int32) (a1 : Int32) (a2 : Int32) (a3 : Int32) (a4 : Int32) (h192 : f 192 = .inr (13, [.ref (b + 193), .ref (b + 194), .ref (b + 195), .int 0, .int 0, .int 0, .ref (b + 196), .ref (b + 197), .int 0, .int 0, .int 0, .int 0, .int 0, .int 0, .int 0, .int (-1), .ref (b + 198), .ref (b + 199), .ref (b + 200), .ref (b + 201), .ref (b + 202), .ref (b + 203), .ref (b + 204), .ref (b + 205), .ref (b + 206), .ref (b + 207), .ref (b + 208), .int 0, .ref (b + 209), .ref (b + 210), .ref (b + 211), .ref (b + 212), .ref (b + 213), .ref (b + 214), .ref (b + 215), .int 0, .int 0, .int 0, .int 0, .ref (b + 216), .ref (b + 217), .ref (b + 218), .ref (b + 219)])) (h197 : f 197 = .inl (kc 0, 2000, .inl (fun _ => 0))) : mMi l yX13_feed cX13_feed 6 .int 2 0 0 D kc b 220 f [.ref (b + 192), .int a0, .int a1, .int a2, .int a3, .int a4] (fun r u => r = 20) := by
  refine m_start (by decide) (Nat.le_of_ble_eq_true rfl) ?_
  intro p e s m below meth c C hr hlk hnm hM ls hl
  obtain ⟨hx, hb, hml, hown, hts, hE, hbs⟩ := id C
  have hl : lv_has ls 6 [(0, .ref (b + 192)), (1, .int a0), (2, .int a1), (3, .int a2), (4, .int a3), (5, .int a4)] := hl
  refine lv_aload_n hx hb dX13_feed_0 rfl (lv_at hl 0 rfl) ?_
  refine m_get fl_X13_28_X13 C hM (i := 192) (by decide) h192 (v := .int 0) rfl dX13_feed_1 ?_
  refine lv_bipush (v := 20) hx hb dX13_feed_4 (by decide) ?_
  refine lv_iadd hx hb dX13_feed_6 ?_
  refine m_vi (y := 20) (by decide) ?_
  refine lv_sipush (v := 2000) hx hb dX13_feed_7 (by decide) ?_
  refine lv_icmp_le (tgt := 16) hx hb dX13_feed_10 (by decide) (fun _ => ?_) (fun h => absurd (by decide) h)
  refine lv_aload_n hx hb dX13_feed_16 rfl (lv_at hl 0 rfl) ?_
  refine lv_iload_n hx hb dX13_feed_17 rfl (lv_at hl 1 rfl) ?_
  refine m_gov (m_runV calV_X13_lay wd_1213 (a_X13_lay_0 l D kc b f a0 (fun _ => 0) h192 h197) C hM (by decide) h192 rfl hl.1 rfl rfl (Nat.le_of_ble_eq_true rfl) dX13_feed_18 ⟨Nat.le_of_ble_eq_true rfl, Nat.le_of_ble_eq_true rfl⟩ ⟨Nat.le_of_ble_eq_true rfl, Nat.le_of_ble_eq_true rfl⟩) hM (fun n6 f1 H locs hp hM => ?_)
  have hp : ∃ (x1 : Int32) (x2 : Int32) (x3 : Int32) (x4 : Int32), n6 = 220 ∧ f1 = va_up (va_up (va_up (va_up (va_up (va_up (va_up (va_up f 197 (.inl (kc 0, 2000, .inl (upd (fun _ => 0) 0 x1.toInt8.toInt32)))) 192 (.inr (13, [.ref (b + 193), .ref (b + 194), .ref (b + 195), .int 0, .int 0, .int 0, .ref (b + 196), .ref (b + 197), .int 1, .int 0, .int 0, .int 0, .int 0, .int 0, .int 0, .int (-1), .ref (b + 198), .ref (b + 199), .ref (b + 200), .ref (b + 201), .ref (b + 202), .ref (b + 203), .ref (b + 204), .ref (b + 205), .ref (b + 206), .ref (b + 207), .ref (b + 208), .int 0, .ref (b + 209), .ref (b + 210), .ref (b + 211), .ref (b + 212), .ref (b + 213), .ref (b + 214), .ref (b + 215), .int 0, .int 0, .int 0, .int 0, .ref (b + 216), .ref (b + 217), .ref (b + 218), .ref (b + 219)]))) 197 (.inl (kc 0, 2000, .inl (upd (upd (fun _ => 0) 0 x1.toInt8.toInt32) 1 x2.toInt8.toInt32)))) 192 (.inr (13, [.ref (b + 193), .ref (b + 194), .ref (b + 195), .int 0, .int 0, .int 0, .ref (b + 196), .ref (b + 197), .int 2, .int 0, .int 0, .int 0, .int 0, .int 0, .int 0, .int (-1), .ref (b + 198), .ref (b + 199), .ref (b + 200), .ref (b + 201), .ref (b + 202), .ref (b + 203), .ref (b + 204), .ref (b + 205), .ref (b + 206), .ref (b + 207), .ref (b + 208), .int 0, .ref (b + 209), .ref (b + 210), .ref (b + 211), .ref (b + 212), .ref (b + 213), .ref (b + 214), .ref (b + 215), .int 0, .int 0, .int 0, .int 0, .ref (b + 216), .ref (b + 217), .ref (b + 218), .ref (b + 219)]))) 197 (.inl (kc 0, 2000, .inl (upd (upd (upd (fun _ => 0) 0 x1.toInt8.toInt32) 1 x2.toInt8.toInt32) 2 x3.toInt8.toInt32)))) 192 (.inr (13, [.ref (b + 193), .ref (b + 194), .ref (b + 195), .int 0, .int 0, .int 0, .ref (b + 196), .ref (b + 197), .int 3, .int 0, .int 0, .int 0, .int 0, .int 0, .int 0, .int (-1), .ref (b + 198), .ref (b + 199), .ref (b + 200), .ref (b + 201), .ref (b + 202), .ref (b + 203), .ref (b + 204), .ref (b + 205), .ref (b + 206), .ref (b + 207), .ref (b + 208), .int 0, .ref (b + 209), .ref (b + 210), .ref (b + 211), .ref (b + 212), .ref (b + 213), .ref (b + 214), .ref (b + 215), .int 0, .int 0, .int 0, .int 0, .ref (b + 216), .ref (b + 217), .ref (b + 218), .ref (b + 219)]))) 197 (.inl (kc 0, 2000, .inl (upd (upd (upd (upd (fun _ => 0) 0 x1.toInt8.toInt32) 1 x2.toInt8.toInt32) 2 x3.toInt8.toInt32) 3 x4.toInt8.toInt32)))) 192 (.inr (13, [.ref (b + 193), .ref (b + 194), .ref (b + 195), .int 0, .int 0, .int 0, .ref (b + 196), .ref (b + 197), .int 4, .int 0, .int 0, .int 0, .int 0, .int 0, .int 0, .int (-1), .ref (b + 198), .ref (b + 199), .ref (b + 200), .ref (b + 201), .ref (b + 202), .ref (b + 203), .ref (b + 204), .ref (b + 205), .ref (b + 206), .ref (b + 207), .ref (b + 208), .int 0, .ref (b + 209), .ref (b + 210), .ref (b + 211), .ref (b + 212), .ref (b + 213), .ref (b + 214), .ref (b + 215), .int 0, .int 0, .int 0, .int 0, .ref (b + 216), .ref (b + 217), .ref (b + 218), .ref (b + 219)])) := hp
  obtain ⟨x1, x2, x3, x4, rfl, ef1⟩ := hp
  refine lv_aload_n hx hb dX13_feed_21 rfl (lv_at hl 0 rfl) ?_
  refine lv_iload_n hx hb dX13_feed_22 rfl (lv_at hl 2 rfl) ?_
  have h192_1 : f1 192 = .inr (13, [.ref (b + 193), .ref (b + 194), .ref (b + 195), .int 0, .int 0, .int 0, .ref (b + 196), .ref (b + 197), .int 4, .int 0, .int 0, .int 0, .int 0, .int 0, .int 0, .int (-1), .ref (b + 198), .ref (b + 199), .ref (b + 200), .ref (b + 201), .ref (b + 202), .ref (b + 203), .ref (b + 204), .ref (b + 205), .ref (b + 206), .ref (b + 207), .ref (b + 208), .int 0, .ref (b + 209), .ref (b + 210), .ref (b + 211), .ref (b + 212), .ref (b + 213), .ref (b + 214), .ref (b + 215), .int 0, .int 0, .int 0, .int 0, .ref (b + 216), .ref (b + 217), .ref (b + 218), .ref (b + 219)]) := m_eq ef1
  have h197_1 : f1 197 = .inl (kc 0, 2000, .inl (upd (upd (upd (upd (fun _ => 0) 0 x1.toInt8.toInt32) 1 x2.toInt8.toInt32) 2 x3.toInt8.toInt32) 3 x4.toInt8.toInt32)) := m_ne ef1 (m_eq rfl) (by decide)
  refine m_gov (m_runV calV_X13_lay wd_1213 (a_X13_lay_1 l D kc b f1 a1 (upd (upd (upd (upd (fun _ => 0) 0 x1.toInt8.toInt32) 1 x2.toInt8.toInt32) 2 x3.toInt8.toInt32) 3 x4.toInt8.toInt32) h192_1 h197_1) C hM (by decide) h192_1 rfl hl.1 rfl rfl (Nat.le_of_ble_eq_true rfl) dX13_feed_23 ⟨Nat.le_of_ble_eq_true rfl, Nat.le_of_ble_eq_true rfl⟩ ⟨Nat.le_of_ble_eq_true rfl, Nat.le_of_ble_eq_true rfl⟩) hM (fun n12 f2 H locs hp hM => ?_)
  have hp : ∃ (x7 : Int32) (x8 : Int32) (x9 : Int32) (x10 : Int32), n12 = 220 ∧ f2 = va_up (va_up (va_up (va_up (va_up (va_up (va_up (va_up f1 197 (.inl (kc 0, 2000, .inl (upd (upd (upd (upd (upd (fun _ => 0) 0 x1.toInt8.toInt32) 1 x2.toInt8.toInt32) 2 x3.toInt8.toInt32) 3 x4.toInt8.toInt32) 4 x7.toInt8.toInt32)))) 192 (.inr (13, [.ref (b + 193), .ref (b + 194), .ref (b + 195), .int 0, .int 0, .int 0, .ref (b + 196), .ref (b + 197), .int 5, .int 0, .int 0, .int 0, .int 0, .int 0, .int 0, .int (-1), .ref (b + 198), .ref (b + 199), .ref (b + 200), .ref (b + 201), .ref (b + 202), .ref (b + 203), .ref (b + 204), .ref (b + 205), .ref (b + 206), .ref (b + 207), .ref (b + 208), .int 0, .ref (b + 209), .ref (b + 210), .ref (b + 211), .ref (b + 212), .ref (b + 213), .ref (b + 214), .ref (b + 215), .int 0, .int 0, .int 0, .int 0, .ref (b + 216), .ref (b + 217), .ref (b + 218), .ref (b + 219)]))) 197 (.inl (kc 0, 2000, .inl (upd (upd (upd (upd (upd (upd (fun _ => 0) 0 x1.toInt8.toInt32) 1 x2.toInt8.toInt32) 2 x3.toInt8.toInt32) 3 x4.toInt8.toInt32) 4 x7.toInt8.toInt32) 5 x8.toInt8.toInt32)))) 192 (.inr (13, [.ref (b + 193), .ref (b + 194), .ref (b + 195), .int 0, .int 0, .int 0, .ref (b + 196), .ref (b + 197), .int 6, .int 0, .int 0, .int 0, .int 0, .int 0, .int 0, .int (-1), .ref (b + 198), .ref (b + 199), .ref (b + 200), .ref (b + 201), .ref (b + 202), .ref (b + 203), .ref (b + 204), .ref (b + 205), .ref (b + 206), .ref (b + 207), .ref (b + 208), .int 0, .ref (b + 209), .ref (b + 210), .ref (b + 211), .ref (b + 212), .ref (b + 213), .ref (b + 214), .ref (b + 215), .int 0, .int 0, .int 0, .int 0, .ref (b + 216), .ref (b + 217), .ref (b + 218), .ref (b + 219)]))) 197 (.inl (kc 0, 2000, .inl (upd (upd (upd (upd (upd (upd (upd (fun _ => 0) 0 x1.toInt8.toInt32) 1 x2.toInt8.toInt32) 2 x3.toInt8.toInt32) 3 x4.toInt8.toInt32) 4 x7.toInt8.toInt32) 5 x8.toInt8.toInt32) 6 x9.toInt8.toInt32)))) 192 (.inr (13, [.ref (b + 193), .ref (b + 194), .ref (b + 195), .int 0, .int 0, .int 0, .ref (b + 196), .ref (b + 197), .int 7, .int 0, .int 0, .int 0, .int 0, .int 0, .int 0, .int (-1), .ref (b + 198), .ref (b + 199), .ref (b + 200), .ref (b + 201), .ref (b + 202), .ref (b + 203), .ref (b + 204), .ref (b + 205), .ref (b + 206), .ref (b + 207), .ref (b + 208), .int 0, .ref (b + 209), .ref (b + 210), .ref (b + 211), .ref (b + 212), .ref (b + 213), .ref (b + 214), .ref (b + 215), .int 0, .int 0, .int 0, .int 0, .ref (b + 216), .ref (b + 217), .ref (b + 218), .ref (b + 219)]))) 197 (.inl (kc 0, 2000, .inl (upd (upd (upd (upd (upd (upd (upd (upd (fun _ => 0) 0 x1.toInt8.toInt32) 1 x2.toInt8.toInt32) 2 x3.toInt8.toInt32) 3 x4.toInt8.toInt32) 4 x7.toInt8.toInt32) 5 x8.toInt8.toInt32) 6 x9.toInt8.toInt32) 7 x10.toInt8.toInt32)))) 192 (.inr (13, [.ref (b + 193), .ref (b + 194), .ref (b + 195), .int 0, .int 0, .int 0, .ref (b + 196), .ref (b + 197), .int 8, .int 0, .int 0, .int 0, .int 0, .int 0, .int 0, .int (-1), .ref (b + 198), .ref (b + 199), .ref (b + 200), .ref (b + 201), .ref (b + 202), .ref (b + 203), .ref (b + 204), .ref (b + 205), .ref (b + 206), .ref (b + 207), .ref (b + 208), .int 0, .ref (b + 209), .ref (b + 210), .ref (b + 211), .ref (b + 212), .ref (b + 213), .ref (b + 214), .ref (b + 215), .int 0, .int 0, .int 0, .int 0, .ref (b + 216), .ref (b + 217), .ref (b + 218), .ref (b + 219)])) := hp
  obtain ⟨x7, x8, x9, x10, rfl, ef2⟩ := hp
  refine lv_aload_n hx hb dX13_feed_26 rfl (lv_at hl 0 rfl) ?_
  refine lv_iload_n hx hb dX13_feed_27 rfl (lv_at hl 3 rfl) ?_
  have h192_2 : f2 192 = .inr (13, [.ref (b + 193), .ref (b + 194), .ref (b + 195), .int 0, .int 0, .int 0, .ref (b + 196), .ref (b + 197), .int 8, .int 0, .int 0, .int 0, .int 0, .int 0, .int 0, .int (-1), .ref (b + 198), .ref (b + 199), .ref (b + 200), .ref (b + 201), .ref (b + 202), .ref (b + 203), .ref (b + 204), .ref (b + 205), .ref (b + 206), .ref (b + 207), .ref (b + 208), .int 0, .ref (b + 209), .ref (b + 210), .ref (b + 211), .ref (b + 212), .ref (b + 213), .ref (b + 214), .ref (b + 215), .int 0, .int 0, .int 0, .int 0, .ref (b + 216), .ref (b + 217), .ref (b + 218), .ref (b + 219)]) := m_eq ef2
  have h197_2 : f2 197 = .inl (kc 0, 2000, .inl (upd (upd (upd (upd (upd (upd (upd (upd (fun _ => 0) 0 x1.toInt8.toInt32) 1 x2.toInt8.toInt32) 2 x3.toInt8.toInt32) 3 x4.toInt8.toInt32) 4 x7.toInt8.toInt32) 5 x8.toInt8.toInt32) 6 x9.toInt8.toInt32) 7 x10.toInt8.toInt32)) := m_ne ef2 (m_eq rfl) (by decide)
  refine m_gov (m_runV calV_X13_lay wd_1213 (a_X13_lay_2 l D kc b f2 a2 (upd (upd (upd (upd (upd (upd (upd (upd (fun _ => 0) 0 x1.toInt8.toInt32) 1 x2.toInt8.toInt32) 2 x3.toInt8.toInt32) 3 x4.toInt8.toInt32) 4 x7.toInt8.toInt32) 5 x8.toInt8.toInt32) 6 x9.toInt8.toInt32) 7 x10.toInt8.toInt32) h192_2 h197_2) C hM (by decide) h192_2 rfl hl.1 rfl rfl (Nat.le_of_ble_eq_true rfl) dX13_feed_28 ⟨Nat.le_of_ble_eq_true rfl, Nat.le_of_ble_eq_true rfl⟩ ⟨Nat.le_of_ble_eq_true rfl, Nat.le_of_ble_eq_true rfl⟩) hM (fun n18 f3 H locs hp hM => ?_)
  have hp : ∃ (x13 : Int32) (x14 : Int32) (x15 : Int32) (x16 : Int32), n18 = 220 ∧ f3 = va_up (va_up (va_up (va_up (va_up (va_up (va_up (va_up f2 197 (.inl (kc 0, 2000, .inl (upd (upd (upd (upd (upd (upd (upd (upd (upd (fun _ => 0) 0 x1.toInt8.toInt32) 1 x2.toInt8.toInt32) 2 x3.toInt8.toInt32) 3 x4.toInt8.toInt32) 4 x7.toInt8.toInt32) 5 x8.toInt8.toInt32) 6 x9.toInt8.toInt32) 7 x10.toInt8.toInt32) 8 x13.toInt8.toInt32)))) 192 (.inr (13, [.ref (b + 193), .ref (b + 194), .ref (b + 195), .int 0, .int 0, .int 0, .ref (b + 196), .ref (b + 197), .int 9, .int 0, .int 0, .int 0, .int 0, .int 0, .int 0, .int (-1), .ref (b + 198), .ref (b + 199), .ref (b + 200), .ref (b + 201), .ref (b + 202), .ref (b + 203), .ref (b + 204), .ref (b + 205), .ref (b + 206), .ref (b + 207), .ref (b + 208), .int 0, .ref (b + 209), .ref (b + 210), .ref (b + 211), .ref (b + 212), .ref (b + 213), .ref (b + 214), .ref (b + 215), .int 0, .int 0, .int 0, .int 0, .ref (b + 216), .ref (b + 217), .ref (b + 218), .ref (b + 219)]))) 197 (.inl (kc 0, 2000, .inl (upd (upd (upd (upd (upd (upd (upd (upd (upd (upd (fun _ => 0) 0 x1.toInt8.toInt32) 1 x2.toInt8.toInt32) 2 x3.toInt8.toInt32) 3 x4.toInt8.toInt32) 4 x7.toInt8.toInt32) 5 x8.toInt8.toInt32) 6 x9.toInt8.toInt32) 7 x10.toInt8.toInt32) 8 x13.toInt8.toInt32) 9 x14.toInt8.toInt32)))) 192 (.inr (13, [.ref (b + 193), .ref (b + 194), .ref (b + 195), .int 0, .int 0, .int 0, .ref (b + 196), .ref (b + 197), .int 10, .int 0, .int 0, .int 0, .int 0, .int 0, .int 0, .int (-1), .ref (b + 198), .ref (b + 199), .ref (b + 200), .ref (b + 201), .ref (b + 202), .ref (b + 203), .ref (b + 204), .ref (b + 205), .ref (b + 206), .ref (b + 207), .ref (b + 208), .int 0, .ref (b + 209), .ref (b + 210), .ref (b + 211), .ref (b + 212), .ref (b + 213), .ref (b + 214), .ref (b + 215), .int 0, .int 0, .int 0, .int 0, .ref (b + 216), .ref (b + 217), .ref (b + 218), .ref (b + 219)]))) 197 (.inl (kc 0, 2000, .inl (upd (upd (upd (upd (upd (upd (upd (upd (upd (upd (upd (fun _ => 0) 0 x1.toInt8.toInt32) 1 x2.toInt8.toInt32) 2 x3.toInt8.toInt32) 3 x4.toInt8.toInt32) 4 x7.toInt8.toInt32) 5 x8.toInt8.toInt32) 6 x9.toInt8.toInt32) 7 x10.toInt8.toInt32) 8 x13.toInt8.toInt32) 9 x14.toInt8.toInt32) 10 x15.toInt8.toInt32)))) 192 (.inr (13, [.ref (b + 193), .ref (b + 194), .ref (b + 195), .int 0, .int 0, .int 0, .ref (b + 196), .ref (b + 197), .int 11, .int 0, .int 0, .int 0, .int 0, .int 0, .int 0, .int (-1), .ref (b + 198), .ref (b + 199), .ref (b + 200), .ref (b + 201), .ref (b + 202), .ref (b + 203), .ref (b + 204), .ref (b + 205), .ref (b + 206), .ref (b + 207), .ref (b + 208), .int 0, .ref (b + 209), .ref (b + 210), .ref (b + 211), .ref (b + 212), .ref (b + 213), .ref (b + 214), .ref (b + 215), .int 0, .int 0, .int 0, .int 0, .ref (b + 216), .ref (b + 217), .ref (b + 218), .ref (b + 219)]))) 197 (.inl (kc 0, 2000, .inl (upd (upd (upd (upd (upd (upd (upd (upd (upd (upd (upd (upd (fun _ => 0) 0 x1.toInt8.toInt32) 1 x2.toInt8.toInt32) 2 x3.toInt8.toInt32) 3 x4.toInt8.toInt32) 4 x7.toInt8.toInt32) 5 x8.toInt8.toInt32) 6 x9.toInt8.toInt32) 7 x10.toInt8.toInt32) 8 x13.toInt8.toInt32) 9 x14.toInt8.toInt32) 10 x15.toInt8.toInt32) 11 x16.toInt8.toInt32)))) 192 (.inr (13, [.ref (b + 193), .ref (b + 194), .ref (b + 195), .int 0, .int 0, .int 0, .ref (b + 196), .ref (b + 197), .int 12, .int 0, .int 0, .int 0, .int 0, .int 0, .int 0, .int (-1), .ref (b + 198), .ref (b + 199), .ref (b + 200), .ref (b + 201), .ref (b + 202), .ref (b + 203), .ref (b + 204), .ref (b + 205), .ref (b + 206), .ref (b + 207), .ref (b + 208), .int 0, .ref (b + 209), .ref (b + 210), .ref (b + 211), .ref (b + 212), .ref (b + 213), .ref (b + 214), .ref (b + 215), .int 0, .int 0, .int 0, .int 0, .ref (b + 216), .ref (b + 217), .ref (b + 218), .ref (b + 219)])) := hp
  obtain ⟨x13, x14, x15, x16, rfl, ef3⟩ := hp
  refine lv_aload_n hx hb dX13_feed_31 rfl (lv_at hl 0 rfl) ?_
  refine lv_iload hx hb dX13_feed_32 (lv_at hl 4 rfl) ?_
  have h192_3 : f3 192 = .inr (13, [.ref (b + 193), .ref (b + 194), .ref (b + 195), .int 0, .int 0, .int 0, .ref (b + 196), .ref (b + 197), .int 12, .int 0, .int 0, .int 0, .int 0, .int 0, .int 0, .int (-1), .ref (b + 198), .ref (b + 199), .ref (b + 200), .ref (b + 201), .ref (b + 202), .ref (b + 203), .ref (b + 204), .ref (b + 205), .ref (b + 206), .ref (b + 207), .ref (b + 208), .int 0, .ref (b + 209), .ref (b + 210), .ref (b + 211), .ref (b + 212), .ref (b + 213), .ref (b + 214), .ref (b + 215), .int 0, .int 0, .int 0, .int 0, .ref (b + 216), .ref (b + 217), .ref (b + 218), .ref (b + 219)]) := m_eq ef3
  have h197_3 : f3 197 = .inl (kc 0, 2000, .inl (upd (upd (upd (upd (upd (upd (upd (upd (upd (upd (upd (upd (fun _ => 0) 0 x1.toInt8.toInt32) 1 x2.toInt8.toInt32) 2 x3.toInt8.toInt32) 3 x4.toInt8.toInt32) 4 x7.toInt8.toInt32) 5 x8.toInt8.toInt32) 6 x9.toInt8.toInt32) 7 x10.toInt8.toInt32) 8 x13.toInt8.toInt32) 9 x14.toInt8.toInt32) 10 x15.toInt8.toInt32) 11 x16.toInt8.toInt32)) := m_ne ef3 (m_eq rfl) (by decide)
  refine m_gov (m_runV calV_X13_lay wd_1213 (a_X13_lay_3 l D kc b f3 a3 (upd (upd (upd (upd (upd (upd (upd (upd (upd (upd (upd (upd (fun _ => 0) 0 x1.toInt8.toInt32) 1 x2.toInt8.toInt32) 2 x3.toInt8.toInt32) 3 x4.toInt8.toInt32) 4 x7.toInt8.toInt32) 5 x8.toInt8.toInt32) 6 x9.toInt8.toInt32) 7 x10.toInt8.toInt32) 8 x13.toInt8.toInt32) 9 x14.toInt8.toInt32) 10 x15.toInt8.toInt32) 11 x16.toInt8.toInt32) h192_3 h197_3) C hM (by decide) h192_3 rfl hl.1 rfl rfl (Nat.le_of_ble_eq_true rfl) dX13_feed_34 ⟨Nat.le_of_ble_eq_true rfl, Nat.le_of_ble_eq_true rfl⟩ ⟨Nat.le_of_ble_eq_true rfl, Nat.le_of_ble_eq_true rfl⟩) hM (fun n24 f4 H locs hp hM => ?_)
  have hp : ∃ (x19 : Int32) (x20 : Int32) (x21 : Int32) (x22 : Int32), n24 = 220 ∧ f4 = va_up (va_up (va_up (va_up (va_up (va_up (va_up (va_up f3 197 (.inl (kc 0, 2000, .inl (upd (upd (upd (upd (upd (upd (upd (upd (upd (upd (upd (upd (upd (fun _ => 0) 0 x1.toInt8.toInt32) 1 x2.toInt8.toInt32) 2 x3.toInt8.toInt32) 3 x4.toInt8.toInt32) 4 x7.toInt8.toInt32) 5 x8.toInt8.toInt32) 6 x9.toInt8.toInt32) 7 x10.toInt8.toInt32) 8 x13.toInt8.toInt32) 9 x14.toInt8.toInt32) 10 x15.toInt8.toInt32) 11 x16.toInt8.toInt32) 12 x19.toInt8.toInt32)))) 192 (.inr (13, [.ref (b + 193), .ref (b + 194), .ref (b + 195), .int 0, .int 0, .int 0, .ref (b + 196), .ref (b + 197), .int 13, .int 0, .int 0, .int 0, .int 0, .int 0, .int 0, .int (-1), .ref (b + 198), .ref (b + 199), .ref (b + 200), .ref (b + 201), .ref (b + 202), .ref (b + 203), .ref (b + 204), .ref (b + 205), .ref (b + 206), .ref (b + 207), .ref (b + 208), .int 0, .ref (b + 209), .ref (b + 210), .ref (b + 211), .ref (b + 212), .ref (b + 213), .ref (b + 214), .ref (b + 215), .int 0, .int 0, .int 0, .int 0, .ref (b + 216), .ref (b + 217), .ref (b + 218), .ref (b + 219)]))) 197 (.inl (kc 0, 2000, .inl (upd (upd (upd (upd (upd (upd (upd (upd (upd (upd (upd (upd (upd (upd (fun _ => 0) 0 x1.toInt8.toInt32) 1 x2.toInt8.toInt32) 2 x3.toInt8.toInt32) 3 x4.toInt8.toInt32) 4 x7.toInt8.toInt32) 5 x8.toInt8.toInt32) 6 x9.toInt8.toInt32) 7 x10.toInt8.toInt32) 8 x13.toInt8.toInt32) 9 x14.toInt8.toInt32) 10 x15.toInt8.toInt32) 11 x16.toInt8.toInt32) 12 x19.toInt8.toInt32) 13 x20.toInt8.toInt32)))) 192 (.inr (13, [.ref (b + 193), .ref (b + 194), .ref (b + 195), .int 0, .int 0, .int 0, .ref (b + 196), .ref (b + 197), .int 14, .int 0, .int 0, .int 0, .int 0, .int 0, .int 0, .int (-1), .ref (b + 198), .ref (b + 199), .ref (b + 200), .ref (b + 201), .ref (b + 202), .ref (b + 203), .ref (b + 204), .ref (b + 205), .ref (b + 206), .ref (b + 207), .ref (b + 208), .int 0, .ref (b + 209), .ref (b + 210), .ref (b + 211), .ref (b + 212), .ref (b + 213), .ref (b + 214), .ref (b + 215), .int 0, .int 0, .int 0, .int 0, .ref (b + 216), .ref (b + 217), .ref (b + 218), .ref (b + 219)]))) 197 (.inl (kc 0, 2000, .inl (upd (upd (upd (upd (upd (upd (upd (upd (upd (upd (upd (upd (upd (upd (upd (fun _ => 0) 0 x1.toInt8.toInt32) 1 x2.toInt8.toInt32) 2 x3.toInt8.toInt32) 3 x4.toInt8.toInt32) 4 x7.toInt8.toInt32) 5 x8.toInt8.toInt32) 6 x9.toInt8.toInt32) 7 x10.toInt8.toInt32) 8 x13.toInt8.toInt32) 9 x14.toInt8.toInt32) 10 x15.toInt8.toInt32) 11 x16.toInt8.toInt32) 12 x19.toInt8.toInt32) 13 x20.toInt8.toInt32) 14 x21.toInt8.toInt32)))) 192 (.inr (13, [.ref (b + 193), .ref (b + 194), .ref (b + 195), .int 0, .int 0, .int 0, .ref (b + 196), .ref (b + 197), .int 15, .int 0, .int 0, .int 0, .int 0, .int 0, .int 0, .int (-1), .ref (b + 198), .ref (b + 199), .ref (b + 200), .ref (b + 201), .ref (b + 202), .ref (b + 203), .ref (b + 204), .ref (b + 205), .ref (b + 206), .ref (b + 207), .ref (b + 208), .int 0, .ref (b + 209), .ref (b + 210), .ref (b + 211), .ref (b + 212), .ref (b + 213), .ref (b + 214), .ref (b + 215), .int 0, .int 0, .int 0, .int 0, .ref (b + 216), .ref (b + 217), .ref (b + 218), .ref (b + 219)]))) 197 (.inl (kc 0, 2000, .inl (upd (upd (upd (upd (upd (upd (upd (upd (upd (upd (upd (upd (upd (upd (upd (upd (fun _ => 0) 0 x1.toInt8.toInt32) 1 x2.toInt8.toInt32) 2 x3.toInt8.toInt32) 3 x4.toInt8.toInt32) 4 x7.toInt8.toInt32) 5 x8.toInt8.toInt32) 6 x9.toInt8.toInt32) 7 x10.toInt8.toInt32) 8 x13.toInt8.toInt32) 9 x14.toInt8.toInt32) 10 x15.toInt8.toInt32) 11 x16.toInt8.toInt32) 12 x19.toInt8.toInt32) 13 x20.toInt8.toInt32) 14 x21.toInt8.toInt32) 15 x22.toInt8.toInt32)))) 192 (.inr (13, [.ref (b + 193), .ref (b + 194), .ref (b + 195), .int 0, .int 0, .int 0, .ref (b + 196), .ref (b + 197), .int 16, .int 0, .int 0, .int 0, .int 0, .int 0, .int 0, .int (-1), .ref (b + 198), .ref (b + 199), .ref (b + 200), .ref (b + 201), .ref (b + 202), .ref (b + 203), .ref (b + 204), .ref (b + 205), .ref (b + 206), .ref (b + 207), .ref (b + 208), .int 0, .ref (b + 209), .ref (b + 210), .ref (b + 211), .ref (b + 212), .ref (b + 213), .ref (b + 214), .ref (b + 215), .int 0, .int 0, .int 0, .int 0, .ref (b + 216), .ref (b + 217), .ref (b + 218), .ref (b + 219)])) := hp
  obtain ⟨x19, x20, x21, x22, rfl, ef4⟩ := hp
  refine lv_aload_n hx hb dX13_feed_37 rfl (lv_at hl 0 rfl) ?_
  refine lv_iload hx hb dX13_feed_38 (lv_at hl 5 rfl) ?_
  have h192_4 : f4 192 = .inr (13, [.ref (b + 193), .ref (b + 194), .ref (b + 195), .int 0, .int 0, .int 0, .ref (b + 196), .ref (b + 197), .int 16, .int 0, .int 0, .int 0, .int 0, .int 0, .int 0, .int (-1), .ref (b + 198), .ref (b + 199), .ref (b + 200), .ref (b + 201), .ref (b + 202), .ref (b + 203), .ref (b + 204), .ref (b + 205), .ref (b + 206), .ref (b + 207), .ref (b + 208), .int 0, .ref (b + 209), .ref (b + 210), .ref (b + 211), .ref (b + 212), .ref (b + 213), .ref (b + 214), .ref (b + 215), .int 0, .int 0, .int 0, .int 0, .ref (b + 216), .ref (b + 217), .ref (b + 218), .ref (b + 219)]) := m_eq ef4
  have h197_4 : f4 197 = .inl (kc 0, 2000, .inl (upd (upd (upd (upd (upd (upd (upd (upd (upd (upd (upd (upd (upd (upd (upd (upd (fun _ => 0) 0 x1.toInt8.toInt32) 1 x2.toInt8.toInt32) 2 x3.toInt8.toInt32) 3 x4.toInt8.toInt32) 4 x7.toInt8.toInt32) 5 x8.toInt8.toInt32) 6 x9.toInt8.toInt32) 7 x10.toInt8.toInt32) 8 x13.toInt8.toInt32) 9 x14.toInt8.toInt32) 10 x15.toInt8.toInt32) 11 x16.toInt8.toInt32) 12 x19.toInt8.toInt32) 13 x20.toInt8.toInt32) 14 x21.toInt8.toInt32) 15 x22.toInt8.toInt32)) := m_ne ef4 (m_eq rfl) (by decide)
  refine m_gov (m_runV calV_X13_lay wd_1213 (a_X13_lay_4 l D kc b f4 a4 (upd (upd (upd (upd (upd (upd (upd (upd (upd (upd (upd (upd (upd (upd (upd (upd (fun _ => 0) 0 x1.toInt8.toInt32) 1 x2.toInt8.toInt32) 2 x3.toInt8.toInt32) 3 x4.toInt8.toInt32) 4 x7.toInt8.toInt32) 5 x8.toInt8.toInt32) 6 x9.toInt8.toInt32) 7 x10.toInt8.toInt32) 8 x13.toInt8.toInt32) 9 x14.toInt8.toInt32) 10 x15.toInt8.toInt32) 11 x16.toInt8.toInt32) 12 x19.toInt8.toInt32) 13 x20.toInt8.toInt32) 14 x21.toInt8.toInt32) 15 x22.toInt8.toInt32) h192_4 h197_4) C hM (by decide) h192_4 rfl hl.1 rfl rfl (Nat.le_of_ble_eq_true rfl) dX13_feed_40 ⟨Nat.le_of_ble_eq_true rfl, Nat.le_of_ble_eq_true rfl⟩ ⟨Nat.le_of_ble_eq_true rfl, Nat.le_of_ble_eq_true rfl⟩) hM (fun n30 f5 H locs hp hM => ?_)
  have hp : ∃ (x25 : Int32) (x26 : Int32) (x27 : Int32) (x28 : Int32), n30 = 220 ∧ f5 = va_up (va_up (va_up (va_up (va_up (va_up (va_up (va_up f4 197 (.inl (kc 0, 2000, .inl (upd (upd (upd (upd (upd (upd (upd (upd (upd (upd (upd (upd (upd (upd (upd (upd (upd (fun _ => 0) 0 x1.toInt8.toInt32) 1 x2.toInt8.toInt32) 2 x3.toInt8.toInt32) 3 x4.toInt8.toInt32) 4 x7.toInt8.toInt32) 5 x8.toInt8.toInt32) 6 x9.toInt8.toInt32) 7 x10.toInt8.toInt32) 8 x13.toInt8.toInt32) 9 x14.toInt8.toInt32) 10 x15.toInt8.toInt32) 11 x16.toInt8.toInt32) 12 x19.toInt8.toInt32) 13 x20.toInt8.toInt32) 14 x21.toInt8.toInt32) 15 x22.toInt8.toInt32) 16 x25.toInt8.toInt32)))) 192 (.inr (13, [.ref (b + 193), .ref (b + 194), .ref (b + 195), .int 0, .int 0, .int 0, .ref (b + 196), .ref (b + 197), .int 17, .int 0, .int 0, .int 0, .int 0, .int 0, .int 0, .int (-1), .ref (b + 198), .ref (b + 199), .ref (b + 200), .ref (b + 201), .ref (b + 202), .ref (b + 203), .ref (b + 204), .ref (b + 205), .ref (b + 206), .ref (b + 207), .ref (b + 208), .int 0, .ref (b + 209), .ref (b + 210), .ref (b + 211), .ref (b + 212), .ref (b + 213), .ref (b + 214), .ref (b + 215), .int 0, .int 0, .int 0, .int 0, .ref (b + 216), .ref (b + 217), .ref (b + 218), .ref (b + 219)]))) 197 (.inl (kc 0, 2000, .inl (upd (upd (upd (upd (upd (upd (upd (upd (upd (upd (upd (upd (upd (upd (upd (upd (upd (upd (fun _ => 0) 0 x1.toInt8.toInt32) 1 x2.toInt8.toInt32) 2 x3.toInt8.toInt32) 3 x4.toInt8.toInt32) 4 x7.toInt8.toInt32) 5 x8.toInt8.toInt32) 6 x9.toInt8.toInt32) 7 x10.toInt8.toInt32) 8 x13.toInt8.toInt32) 9 x14.toInt8.toInt32) 10 x15.toInt8.toInt32) 11 x16.toInt8.toInt32) 12 x19.toInt8.toInt32) 13 x20.toInt8.toInt32) 14 x21.toInt8.toInt32) 15 x22.toInt8.toInt32) 16 x25.toInt8.toInt32) 17 x26.toInt8.toInt32)))) 192 (.inr (13, [.ref (b + 193), .ref (b + 194), .ref (b + 195), .int 0, .int 0, .int 0, .ref (b + 196), .ref (b + 197), .int 18, .int 0, .int 0, .int 0, .int 0, .int 0, .int 0, .int (-1), .ref (b + 198), .ref (b + 199), .ref (b + 200), .ref (b + 201), .ref (b + 202), .ref (b + 203), .ref (b + 204), .ref (b + 205), .ref (b + 206), .ref (b + 207), .ref (b + 208), .int 0, .ref (b + 209), .ref (b + 210), .ref (b + 211), .ref (b + 212), .ref (b + 213), .ref (b + 214), .ref (b + 215), .int 0, .int 0, .int 0, .int 0, .ref (b + 216), .ref (b + 217), .ref (b + 218), .ref (b + 219)]))) 197 (.inl (kc 0, 2000, .inl (upd (upd (upd (upd (upd (upd (upd (upd (upd (upd (upd (upd (upd (upd (upd (upd (upd (upd (upd (fun _ => 0) 0 x1.toInt8.toInt32) 1 x2.toInt8.toInt32) 2 x3.toInt8.toInt32) 3 x4.toInt8.toInt32) 4 x7.toInt8.toInt32) 5 x8.toInt8.toInt32) 6 x9.toInt8.toInt32) 7 x10.toInt8.toInt32) 8 x13.toInt8.toInt32) 9 x14.toInt8.toInt32) 10 x15.toInt8.toInt32) 11 x16.toInt8.toInt32) 12 x19.toInt8.toInt32) 13 x20.toInt8.toInt32) 14 x21.toInt8.toInt32) 15 x22.toInt8.toInt32) 16 x25.toInt8.toInt32) 17 x26.toInt8.toInt32) 18 x27.toInt8.toInt32)))) 192 (.inr (13, [.ref (b + 193), .ref (b + 194), .ref (b + 195), .int 0, .int 0, .int 0, .ref (b + 196), .ref (b + 197), .int 19, .int 0, .int 0, .int 0, .int 0, .int 0, .int 0, .int (-1), .ref (b + 198), .ref (b + 199), .ref (b + 200), .ref (b + 201), .ref (b + 202), .ref (b + 203), .ref (b + 204), .ref (b + 205), .ref (b + 206), .ref (b + 207), .ref (b + 208), .int 0, .ref (b + 209), .ref (b + 210), .ref (b + 211), .ref (b + 212), .ref (b + 213), .ref (b + 214), .ref (b + 215), .int 0, .int 0, .int 0, .int 0, .ref (b + 216), .ref (b + 217), .ref (b + 218), .ref (b + 219)]))) 197 (.inl (kc 0, 2000, .inl (upd (upd (upd (upd (upd (upd (upd (upd (upd (upd (upd (upd (upd (upd (upd (upd (upd (upd (upd (upd (fun _ => 0) 0 x1.toInt8.toInt32) 1 x2.toInt8.toInt32) 2 x3.toInt8.toInt32) 3 x4.toInt8.toInt32) 4 x7.toInt8.toInt32) 5 x8.toInt8.toInt32) 6 x9.toInt8.toInt32) 7 x10.toInt8.toInt32) 8 x13.toInt8.toInt32) 9 x14.toInt8.toInt32) 10 x15.toInt8.toInt32) 11 x16.toInt8.toInt32) 12 x19.toInt8.toInt32) 13 x20.toInt8.toInt32) 14 x21.toInt8.toInt32) 15 x22.toInt8.toInt32) 16 x25.toInt8.toInt32) 17 x26.toInt8.toInt32) 18 x27.toInt8.toInt32) 19 x28.toInt8.toInt32)))) 192 (.inr (13, [.ref (b + 193), .ref (b + 194), .ref (b + 195), .int 0, .int 0, .int 0, .ref (b + 196), .ref (b + 197), .int 20, .int 0, .int 0, .int 0, .int 0, .int 0, .int 0, .int (-1), .ref (b + 198), .ref (b + 199), .ref (b + 200), .ref (b + 201), .ref (b + 202), .ref (b + 203), .ref (b + 204), .ref (b + 205), .ref (b + 206), .ref (b + 207), .ref (b + 208), .int 0, .ref (b + 209), .ref (b + 210), .ref (b + 211), .ref (b + 212), .ref (b + 213), .ref (b + 214), .ref (b + 215), .int 0, .int 0, .int 0, .int 0, .ref (b + 216), .ref (b + 217), .ref (b + 218), .ref (b + 219)])) := hp
  obtain ⟨x25, x26, x27, x28, rfl, ef5⟩ := hp
  refine lv_aload_n hx hb dX13_feed_43 rfl (lv_at hl 0 rfl) ?_
  have h192_5 : f5 192 = .inr (13, [.ref (b + 193), .ref (b + 194), .ref (b + 195), .int 0, .int 0, .int 0, .ref (b + 196), .ref (b + 197), .int 20, .int 0, .int 0, .int 0, .int 0, .int 0, .int 0, .int (-1), .ref (b + 198), .ref (b + 199), .ref (b + 200), .ref (b + 201), .ref (b + 202), .ref (b + 203), .ref (b + 204), .ref (b + 205), .ref (b + 206), .ref (b + 207), .ref (b + 208), .int 0, .ref (b + 209), .ref (b + 210), .ref (b + 211), .ref (b + 212), .ref (b + 213), .ref (b + 214), .ref (b + 215), .int 0, .int 0, .int 0, .int 0, .ref (b + 216), .ref (b + 217), .ref (b + 218), .ref (b + 219)]) := m_eq ef5
  refine m_get fl_X13_28_X13 C hM (i := 192) (by decide) h192_5 (v := .int 20) rfl dX13_feed_44 ?_
  exact m_iret C hr hlk hM (rfl) dX13_feed_47
set_option maxHeartbeats 4000000 in
set_option maxRecDepth 100000 in
theorem k_m_end (l : Launch) (D : va_G) (kc : Nat → ClassId) (b : Nat) (f : Nat → va_E) (a0 : Int32) (h192 : f 192 = .inr (13, [.ref (b + 193), .ref (b + 194), .ref (b + 195), .int 0, .int 0, .int 0, .ref (b + 196), .ref (b + 197), .int 0, .int 0, .int 0, .int 0, .int 0, .int 0, .int 0, .int (-1), .ref (b + 198), .ref (b + 199), .ref (b + 200), .ref (b + 201), .ref (b + 202), .ref (b + 203), .ref (b + 204), .ref (b + 205), .ref (b + 206), .ref (b + 207), .ref (b + 208), .int 0, .ref (b + 209), .ref (b + 210), .ref (b + 211), .ref (b + 212), .ref (b + 213), .ref (b + 214), .ref (b + 215), .int 0, .int 0, .int 0, .int 0, .ref (b + 216), .ref (b + 217), .ref (b + 218), .ref (b + 219)])) : mMi l yX13_end cX13_end 2 .int 2 0 0 D kc b 220 f [.ref (b + 192), .int a0] (fun r u => r = p_end a0) := by
  refine m_start (by decide) (Nat.le_of_ble_eq_true rfl) ?_
  intro p e s m below meth c C hr hlk hnm hM ls hl
  obtain ⟨hx, hb, hml, hown, hts, hE, hbs⟩ := id C
  have hl : lv_has ls 2 [(0, .ref (b + 192)), (1, .int a0)] := hl
  refine lv_iload_n hx hb dX13_end_0 rfl (lv_at hl 1 rfl) ?_
  refine lv_i2l hx hb dX13_end_1 rfl ?_
  refine lv_lconst (v := 0) hx hb dX13_end_2 (by decide) ?_
  refine lv_aload_n hx hb dX13_end_3 rfl (lv_at hl 0 rfl) ?_
  refine m_get fl_X13_28_X13 C hM (i := 192) (by decide) h192 (v := .int 0) rfl dX13_end_4 ?_
  refine lv_i2l (v := 0) hx hb dX13_end_7 (by decide) ?_
  by_cases q1 : a0 < 0
  · refine m_goi (m_runS calS_X13_in wd_1221 (k_in0 l D kc b 220 f a0.toInt64 0 0 (by revert q1; rw [m_inI (a := 0) (b := 0) (by decide) (by decide)]; simp only [Int32.lt_iff_toInt_lt, Int32.le_iff_toInt_le, m_lits]; omega)) C hM hl.1 rfl rfl (Nat.le_of_ble_eq_true rfl) dX13_end_8 ⟨Nat.le_of_ble_eq_true rfl, Nat.le_of_ble_eq_true rfl⟩ ⟨Nat.le_of_ble_eq_true rfl, Nat.le_of_ble_eq_true rfl⟩) hM (fun r2 n3 f1 H locs hp hM => ?_)
    obtain ⟨rfl, rfl, ef1⟩ : r2 = 0 ∧ n3 = 220 ∧ f1 = f := hp
    refine lv_if_ne (tgt := 16) hx hb dX13_end_11 (by decide) (fun h => absurd (by decide) h) (fun _ => ?_)
    refine lv_iconst (v := (-1)) hx hb dX13_end_14 (by decide) ?_
    exact m_iret C hr hlk hM (by unfold p_end; rw [if_neg (by revert q1; simp only [Int32.lt_iff_toInt_lt, Int32.le_iff_toInt_le, m_lits]; omega)]) dX13_end_15
  by_cases q4 : 0 < a0
  · refine m_goi (m_runS calS_X13_in wd_1221 (k_in0 l D kc b 220 f a0.toInt64 0 0 (by revert q4; rw [m_inI (a := 0) (b := 0) (by decide) (by decide)]; simp only [Int32.lt_iff_toInt_lt, Int32.le_iff_toInt_le, m_lits]; omega)) C hM hl.1 rfl rfl (Nat.le_of_ble_eq_true rfl) dX13_end_8 ⟨Nat.le_of_ble_eq_true rfl, Nat.le_of_ble_eq_true rfl⟩ ⟨Nat.le_of_ble_eq_true rfl, Nat.le_of_ble_eq_true rfl⟩) hM (fun r5 n6 f1 H locs hp hM => ?_)
    obtain ⟨rfl, rfl, ef1⟩ : r5 = 0 ∧ n6 = 220 ∧ f1 = f := hp
    refine lv_if_ne (tgt := 16) hx hb dX13_end_11 (by decide) (fun h => absurd (by decide) h) (fun _ => ?_)
    refine lv_iconst (v := (-1)) hx hb dX13_end_14 (by decide) ?_
    exact m_iret C hr hlk hM (by unfold p_end; rw [if_neg (by revert q1 q4; simp only [Int32.lt_iff_toInt_lt, Int32.le_iff_toInt_le, m_lits]; omega)]) dX13_end_15
  refine m_goi (m_runS calS_X13_in wd_1221 (k_in1 l D kc b 220 f a0.toInt64 0 0 (by revert q1 q4; rw [m_inI (a := 0) (b := 0) (by decide) (by decide)]; simp only [Int32.lt_iff_toInt_lt, Int32.le_iff_toInt_le, m_lits]; omega)) C hM hl.1 rfl rfl (Nat.le_of_ble_eq_true rfl) dX13_end_8 ⟨Nat.le_of_ble_eq_true rfl, Nat.le_of_ble_eq_true rfl⟩ ⟨Nat.le_of_ble_eq_true rfl, Nat.le_of_ble_eq_true rfl⟩) hM (fun r7 n8 f1 H locs hp hM => ?_)
  obtain ⟨rfl, rfl, ef1⟩ : r7 = 1 ∧ n8 = 220 ∧ f1 = f := hp
  refine lv_if_ne (tgt := 16) hx hb dX13_end_11 (by decide) (fun _ => ?_) (fun h => absurd h (by decide))
  refine lv_aload_n hx hb dX13_end_16 rfl (lv_at hl 0 rfl) ?_
  refine lv_iload_n hx hb dX13_end_17 rfl (lv_at hl 1 rfl) ?_
  have h192_1 : f1 192 = .inr (13, [.ref (b + 193), .ref (b + 194), .ref (b + 195), .int 0, .int 0, .int 0, .ref (b + 196), .ref (b + 197), .int 0, .int 0, .int 0, .int 0, .int 0, .int 0, .int 0, .int (-1), .ref (b + 198), .ref (b + 199), .ref (b + 200), .ref (b + 201), .ref (b + 202), .ref (b + 203), .ref (b + 204), .ref (b + 205), .ref (b + 206), .ref (b + 207), .ref (b + 208), .int 0, .ref (b + 209), .ref (b + 210), .ref (b + 211), .ref (b + 212), .ref (b + 213), .ref (b + 214), .ref (b + 215), .int 0, .int 0, .int 0, .int 0, .ref (b + 216), .ref (b + 217), .ref (b + 218), .ref (b + 219)]) := m_sm ef1 h192
  refine m_put fl_X13_28_X13 C hM (i := 192) (by decide) h192_1 rfl rfl (Nat.le_of_ble_eq_true rfl) (fs1 := [.ref (b + 193), .ref (b + 194), .ref (b + 195), .int 0, .int 0, .int 0, .ref (b + 196), .ref (b + 197), .int a0, .int 0, .int 0, .int 0, .int 0, .int 0, .int 0, .int (-1), .ref (b + 198), .ref (b + 199), .ref (b + 200), .ref (b + 201), .ref (b + 202), .ref (b + 203), .ref (b + 204), .ref (b + 205), .ref (b + 206), .ref (b + 207), .ref (b + 208), .int 0, .ref (b + 209), .ref (b + 210), .ref (b + 211), .ref (b + 212), .ref (b + 213), .ref (b + 214), .ref (b + 215), .int 0, .int 0, .int 0, .int 0, .ref (b + 216), .ref (b + 217), .ref (b + 218), .ref (b + 219)]) rfl dX13_end_18 (fun H locs f2 ef2 hM => ?_)
  refine lv_iload_n hx hb dX13_end_21 rfl (lv_at hl 1 rfl) ?_
  exact m_iret C hr hlk hM (by unfold p_end; rw [if_pos (by revert q1 q4; simp only [Int32.lt_iff_toInt_lt, Int32.le_iff_toInt_le, m_lits]; omega)]) dX13_end_22
set_option maxHeartbeats 4000000 in
set_option maxRecDepth 100000 in
theorem a_X13_begin_0 (l : Launch) (D : va_G) (kc : Nat → ClassId) (b : Nat) (f : Nat → va_E) (h192 : f 192 = .inr (13, [.ref (b + 193), .ref (b + 194), .ref (b + 195), .int 0, .int 0, .int 0, .ref (b + 196), .ref (b + 197), .int 0, .int 0, .int 0, .int 0, .int 0, .int 0, .int 0, .int (-1), .ref (b + 198), .ref (b + 199), .ref (b + 200), .ref (b + 201), .ref (b + 202), .ref (b + 203), .ref (b + 204), .ref (b + 205), .ref (b + 206), .ref (b + 207), .ref (b + 208), .int 0, .ref (b + 209), .ref (b + 210), .ref (b + 211), .ref (b + 212), .ref (b + 213), .ref (b + 214), .ref (b + 215), .int 0, .int 0, .int 0, .int 0, .ref (b + 216), .ref (b + 217), .ref (b + 218), .ref (b + 219)])) : mMv l yX13_begin cX13_begin 1 1 0 0 D kc b 220 f [.ref (b + 192)] (fun u => u.1 = 220 ∧ u.2 = va_up f 192 (.inr (13, [.ref (b + 193), .ref (b + 194), .ref (b + 195), .int 0, .int 0, .int 0, .ref (b + 196), .ref (b + 197), .int 0, .int 0, .int 0, .int 0, .int 0, .int 0, .int 0, .int (-1), .ref (b + 198), .ref (b + 199), .ref (b + 200), .ref (b + 201), .ref (b + 202), .ref (b + 203), .ref (b + 204), .ref (b + 205), .ref (b + 206), .ref (b + 207), .ref (b + 208), .int 0, .ref (b + 209), .ref (b + 210), .ref (b + 211), .ref (b + 212), .ref (b + 213), .ref (b + 214), .ref (b + 215), .int 0, .int 0, .int 0, .int 0, .ref (b + 216), .ref (b + 217), .ref (b + 218), .ref (b + 219)]))) := by
  refine m_start (by decide) (Nat.le_of_ble_eq_true rfl) ?_
  intro p e s m below meth c C hr hlk hnm hM ls hl
  obtain ⟨hx, hb, hml, hown, hts, hE, hbs⟩ := id C
  have hl : lv_has ls 1 [(0, .ref (b + 192))] := hl
  refine lv_aload_n hx hb dX13_begin_0 rfl (lv_at hl 0 rfl) ?_
  refine lv_aload_n hx hb dX13_begin_1 rfl (lv_at hl 0 rfl) ?_
  refine m_get fl_X13_28_X13 C hM (i := 192) (by decide) h192 (v := .int 0) rfl dX13_begin_2 ?_
  refine m_put fl_X13_14_X13 C hM (i := 192) (by decide) h192 rfl rfl (Nat.le_of_ble_eq_true rfl) (fs1 := [.ref (b + 193), .ref (b + 194), .ref (b + 195), .int 0, .int 0, .int 0, .ref (b + 196), .ref (b + 197), .int 0, .int 0, .int 0, .int 0, .int 0, .int 0, .int 0, .int (-1), .ref (b + 198), .ref (b + 199), .ref (b + 200), .ref (b + 201), .ref (b + 202), .ref (b + 203), .ref (b + 204), .ref (b + 205), .ref (b + 206), .ref (b + 207), .ref (b + 208), .int 0, .ref (b + 209), .ref (b + 210), .ref (b + 211), .ref (b + 212), .ref (b + 213), .ref (b + 214), .ref (b + 215), .int 0, .int 0, .int 0, .int 0, .ref (b + 216), .ref (b + 217), .ref (b + 218), .ref (b + 219)]) rfl dX13_begin_5 (fun H locs f1 ef1 hM => ?_)
  refine lv_aload_n hx hb dX13_begin_8 rfl (lv_at hl 0 rfl) ?_
  refine lv_iconst (v := 0) hx hb dX13_begin_9 (by decide) ?_
  have h192_1 : f1 192 = .inr (13, [.ref (b + 193), .ref (b + 194), .ref (b + 195), .int 0, .int 0, .int 0, .ref (b + 196), .ref (b + 197), .int 0, .int 0, .int 0, .int 0, .int 0, .int 0, .int 0, .int (-1), .ref (b + 198), .ref (b + 199), .ref (b + 200), .ref (b + 201), .ref (b + 202), .ref (b + 203), .ref (b + 204), .ref (b + 205), .ref (b + 206), .ref (b + 207), .ref (b + 208), .int 0, .ref (b + 209), .ref (b + 210), .ref (b + 211), .ref (b + 212), .ref (b + 213), .ref (b + 214), .ref (b + 215), .int 0, .int 0, .int 0, .int 0, .ref (b + 216), .ref (b + 217), .ref (b + 218), .ref (b + 219)]) := m_eq ef1
  refine m_put fl_X13_28_X13 C hM (i := 192) (by decide) h192_1 rfl rfl (Nat.le_of_ble_eq_true rfl) (fs1 := [.ref (b + 193), .ref (b + 194), .ref (b + 195), .int 0, .int 0, .int 0, .ref (b + 196), .ref (b + 197), .int 0, .int 0, .int 0, .int 0, .int 0, .int 0, .int 0, .int (-1), .ref (b + 198), .ref (b + 199), .ref (b + 200), .ref (b + 201), .ref (b + 202), .ref (b + 203), .ref (b + 204), .ref (b + 205), .ref (b + 206), .ref (b + 207), .ref (b + 208), .int 0, .ref (b + 209), .ref (b + 210), .ref (b + 211), .ref (b + 212), .ref (b + 213), .ref (b + 214), .ref (b + 215), .int 0, .int 0, .int 0, .int 0, .ref (b + 216), .ref (b + 217), .ref (b + 218), .ref (b + 219)]) rfl dX13_begin_10 (fun H locs f2 ef2 hM => ?_)
  refine lv_aload_n hx hb dX13_begin_13 rfl (lv_at hl 0 rfl) ?_
  refine lv_iconst (v := 0) hx hb dX13_begin_14 (by decide) ?_
  have h192_2 : f2 192 = .inr (13, [.ref (b + 193), .ref (b + 194), .ref (b + 195), .int 0, .int 0, .int 0, .ref (b + 196), .ref (b + 197), .int 0, .int 0, .int 0, .int 0, .int 0, .int 0, .int 0, .int (-1), .ref (b + 198), .ref (b + 199), .ref (b + 200), .ref (b + 201), .ref (b + 202), .ref (b + 203), .ref (b + 204), .ref (b + 205), .ref (b + 206), .ref (b + 207), .ref (b + 208), .int 0, .ref (b + 209), .ref (b + 210), .ref (b + 211), .ref (b + 212), .ref (b + 213), .ref (b + 214), .ref (b + 215), .int 0, .int 0, .int 0, .int 0, .ref (b + 216), .ref (b + 217), .ref (b + 218), .ref (b + 219)]) := m_eq ef2
  refine m_put fl_X13_31_X13 C hM (i := 192) (by decide) h192_2 rfl rfl (Nat.le_of_ble_eq_true rfl) (fs1 := [.ref (b + 193), .ref (b + 194), .ref (b + 195), .int 0, .int 0, .int 0, .ref (b + 196), .ref (b + 197), .int 0, .int 0, .int 0, .int 0, .int 0, .int 0, .int 0, .int (-1), .ref (b + 198), .ref (b + 199), .ref (b + 200), .ref (b + 201), .ref (b + 202), .ref (b + 203), .ref (b + 204), .ref (b + 205), .ref (b + 206), .ref (b + 207), .ref (b + 208), .int 0, .ref (b + 209), .ref (b + 210), .ref (b + 211), .ref (b + 212), .ref (b + 213), .ref (b + 214), .ref (b + 215), .int 0, .int 0, .int 0, .int 0, .ref (b + 216), .ref (b + 217), .ref (b + 218), .ref (b + 219)]) rfl dX13_begin_15 (fun H locs f3 ef3 hM => ?_)
  refine lv_aload_n hx hb dX13_begin_18 rfl (lv_at hl 0 rfl) ?_
  refine lv_iconst (v := 0) hx hb dX13_begin_19 (by decide) ?_
  have h192_3 : f3 192 = .inr (13, [.ref (b + 193), .ref (b + 194), .ref (b + 195), .int 0, .int 0, .int 0, .ref (b + 196), .ref (b + 197), .int 0, .int 0, .int 0, .int 0, .int 0, .int 0, .int 0, .int (-1), .ref (b + 198), .ref (b + 199), .ref (b + 200), .ref (b + 201), .ref (b + 202), .ref (b + 203), .ref (b + 204), .ref (b + 205), .ref (b + 206), .ref (b + 207), .ref (b + 208), .int 0, .ref (b + 209), .ref (b + 210), .ref (b + 211), .ref (b + 212), .ref (b + 213), .ref (b + 214), .ref (b + 215), .int 0, .int 0, .int 0, .int 0, .ref (b + 216), .ref (b + 217), .ref (b + 218), .ref (b + 219)]) := m_eq ef3
  refine m_put fl_X13_1_X13 C hM (i := 192) (by decide) h192_3 rfl rfl (Nat.le_of_ble_eq_true rfl) (fs1 := [.ref (b + 193), .ref (b + 194), .ref (b + 195), .int 0, .int 0, .int 0, .ref (b + 196), .ref (b + 197), .int 0, .int 0, .int 0, .int 0, .int 0, .int 0, .int 0, .int (-1), .ref (b + 198), .ref (b + 199), .ref (b + 200), .ref (b + 201), .ref (b + 202), .ref (b + 203), .ref (b + 204), .ref (b + 205), .ref (b + 206), .ref (b + 207), .ref (b + 208), .int 0, .ref (b + 209), .ref (b + 210), .ref (b + 211), .ref (b + 212), .ref (b + 213), .ref (b + 214), .ref (b + 215), .int 0, .int 0, .int 0, .int 0, .ref (b + 216), .ref (b + 217), .ref (b + 218), .ref (b + 219)]) rfl dX13_begin_20 (fun H locs f4 ef4 hM => ?_)
  refine lv_aload_n hx hb dX13_begin_23 rfl (lv_at hl 0 rfl) ?_
  refine lv_iconst (v := (-1)) hx hb dX13_begin_24 (by decide) ?_
  have h192_4 : f4 192 = .inr (13, [.ref (b + 193), .ref (b + 194), .ref (b + 195), .int 0, .int 0, .int 0, .ref (b + 196), .ref (b + 197), .int 0, .int 0, .int 0, .int 0, .int 0, .int 0, .int 0, .int (-1), .ref (b + 198), .ref (b + 199), .ref (b + 200), .ref (b + 201), .ref (b + 202), .ref (b + 203), .ref (b + 204), .ref (b + 205), .ref (b + 206), .ref (b + 207), .ref (b + 208), .int 0, .ref (b + 209), .ref (b + 210), .ref (b + 211), .ref (b + 212), .ref (b + 213), .ref (b + 214), .ref (b + 215), .int 0, .int 0, .int 0, .int 0, .ref (b + 216), .ref (b + 217), .ref (b + 218), .ref (b + 219)]) := m_eq ef4
  refine m_put fl_X13_7_X13 C hM (i := 192) (by decide) h192_4 rfl rfl (Nat.le_of_ble_eq_true rfl) (fs1 := [.ref (b + 193), .ref (b + 194), .ref (b + 195), .int 0, .int 0, .int 0, .ref (b + 196), .ref (b + 197), .int 0, .int 0, .int 0, .int 0, .int 0, .int 0, .int 0, .int (-1), .ref (b + 198), .ref (b + 199), .ref (b + 200), .ref (b + 201), .ref (b + 202), .ref (b + 203), .ref (b + 204), .ref (b + 205), .ref (b + 206), .ref (b + 207), .ref (b + 208), .int 0, .ref (b + 209), .ref (b + 210), .ref (b + 211), .ref (b + 212), .ref (b + 213), .ref (b + 214), .ref (b + 215), .int 0, .int 0, .int 0, .int 0, .ref (b + 216), .ref (b + 217), .ref (b + 218), .ref (b + 219)]) rfl dX13_begin_25 (fun H locs f5 ef5 hM => ?_)
  exact m_vret C hr hlk hM (⟨rfl, by rw [ef5, ef4, ef3, ef2, ef1]; simp only [bx_uu]⟩) dX13_begin_28
set_option maxHeartbeats 4000000 in
set_option maxRecDepth 100000 in
theorem a_X13_readProof_0 (l : Launch) (D : va_G) (kc : Nat → ClassId) (b : Nat) (f : Nat → va_E) (h192 : f 192 = .inr (13, [.ref (b + 193), .ref (b + 194), .ref (b + 195), .int 0, .int 0, .int 0, .ref (b + 196), .ref (b + 197), .int 0, .int 0, .int 0, .int 0, .int 0, .int 0, .int 0, .int (-1), .ref (b + 198), .ref (b + 199), .ref (b + 200), .ref (b + 201), .ref (b + 202), .ref (b + 203), .ref (b + 204), .ref (b + 205), .ref (b + 206), .ref (b + 207), .ref (b + 208), .int 0, .ref (b + 209), .ref (b + 210), .ref (b + 211), .ref (b + 212), .ref (b + 213), .ref (b + 214), .ref (b + 215), .int 0, .int 0, .int 0, .int 0, .ref (b + 216), .ref (b + 217), .ref (b + 218), .ref (b + 219)])) : mMi l yX13_readProof cX13_readProof 6 .int 1 0 0 D kc b 220 f [.ref (b + 192), .int 60] (fun r u => r = 0 ∧ u.1 = 220 ∧ u.2 = f) := by
  refine m_start (by decide) (Nat.le_of_ble_eq_true rfl) ?_
  intro p e s m below meth c C hr hlk hnm hM ls hl
  obtain ⟨hx, hb, hml, hown, hts, hE, hbs⟩ := id C
  have hl : lv_has ls 6 [(0, .ref (b + 192)), (1, .int 60)] := hl
  refine lv_iconst (v := 0) hx hb dX13_readProof_0 (by decide) ?_
  refine lv_istore_n (lv' := [(2, .int 0), (0, .ref (b + 192)), (1, .int 60)]) hx hb dX13_readProof_1 rfl hl (by decide) rfl (fun ls hl => ?_)
  refine lv_iconst (v := 0) hx hb dX13_readProof_2 (by decide) ?_
  refine lv_istore_n (lv' := [(3, .int 0), (2, .int 0), (0, .ref (b + 192)), (1, .int 60)]) hx hb dX13_readProof_3 rfl hl (by decide) rfl (fun ls hl => ?_)
  refine lv_iconst (v := 0) hx hb dX13_readProof_4 (by decide) ?_
  refine lv_istore (lv' := [(4, .int 0), (3, .int 0), (2, .int 0), (0, .ref (b + 192)), (1, .int 60)]) hx hb dX13_readProof_5 hl (by decide) rfl (fun ls hl => ?_)
  refine lv_iload hx hb dX13_readProof_7 (lv_at hl 0 rfl) ?_
  refine lv_aload_n hx hb dX13_readProof_9 rfl (lv_at hl 3 rfl) ?_
  refine m_get fl_X13_14_X13 C hM (i := 192) (by decide) h192 (v := .int 0) rfl dX13_readProof_10 ?_
  refine lv_icmp_ge (tgt := 118) hx hb dX13_readProof_13 (by decide) (fun _ => ?_) (fun h => absurd (by decide) h)
  refine lv_iload_n hx hb dX13_readProof_118 rfl (lv_at hl 2 rfl) ?_
  exact m_iret C hr hlk hM (⟨rfl, rfl, rfl⟩) dX13_readProof_119
set_option maxHeartbeats 4000000 in
set_option maxRecDepth 100000 in
theorem k_m_first (l : Launch) (D : va_G) (kc : Nat → ClassId) (b : Nat) (f : Nat → va_E) (h192 : f 192 = .inr (13, [.ref (b + 193), .ref (b + 194), .ref (b + 195), .int 0, .int 0, .int 0, .ref (b + 196), .ref (b + 197), .int 0, .int 0, .int 0, .int 0, .int 0, .int 0, .int 0, .int (-1), .ref (b + 198), .ref (b + 199), .ref (b + 200), .ref (b + 201), .ref (b + 202), .ref (b + 203), .ref (b + 204), .ref (b + 205), .ref (b + 206), .ref (b + 207), .ref (b + 208), .int 0, .ref (b + 209), .ref (b + 210), .ref (b + 211), .ref (b + 212), .ref (b + 213), .ref (b + 214), .ref (b + 215), .int 0, .int 0, .int 0, .int 0, .ref (b + 216), .ref (b + 217), .ref (b + 218), .ref (b + 219)])) : mMw l yX13_first cX13_first 3 .int [((4 : Nat), (11 : Nat), (14 : Nat), (67 : Nat))] 2 0 0 D kc b 220 f [.ref (b + 192)] (fun r u => r = 0) := by
  refine m_startW (by decide) (Nat.le_of_ble_eq_true rfl) ?_
  intro p e s m below meth c C hr hlk hnm hM ls hl
  obtain ⟨hx, hb, hml, hown, hts, hE, hbs⟩ := id C
  have hl : lv_has ls 3 [(0, .ref (b + 192))] := hl
  refine lv_aload_n hx hb dX13_first_0 rfl (lv_at hl 0 rfl) ?_
  refine m_gov (m_runV calV_X13_begin wd_1228 (a_X13_begin_0 l D kc b f h192) C hM (by decide) h192 rfl hl.1 rfl rfl (Nat.le_of_ble_eq_true rfl) dX13_first_1 ⟨Nat.le_of_ble_eq_true rfl, Nat.le_of_ble_eq_true rfl⟩ ⟨Nat.le_of_ble_eq_true rfl, Nat.le_of_ble_eq_true rfl⟩) hM (fun n2 f1 H locs hp hM => ?_)
  have hp : n2 = 220 ∧ f1 = va_up f 192 (.inr (13, [.ref (b + 193), .ref (b + 194), .ref (b + 195), .int 0, .int 0, .int 0, .ref (b + 196), .ref (b + 197), .int 0, .int 0, .int 0, .int 0, .int 0, .int 0, .int 0, .int (-1), .ref (b + 198), .ref (b + 199), .ref (b + 200), .ref (b + 201), .ref (b + 202), .ref (b + 203), .ref (b + 204), .ref (b + 205), .ref (b + 206), .ref (b + 207), .ref (b + 208), .int 0, .ref (b + 209), .ref (b + 210), .ref (b + 211), .ref (b + 212), .ref (b + 213), .ref (b + 214), .ref (b + 215), .int 0, .int 0, .int 0, .int 0, .ref (b + 216), .ref (b + 217), .ref (b + 218), .ref (b + 219)])) := hp
  obtain ⟨rfl, ef1⟩ := hp
  refine lv_aload_n hx hb dX13_first_4 rfl (lv_at hl 0 rfl) ?_
  refine lv_bipush (v := 60) hx hb dX13_first_5 (by decide) ?_
  have h192_1 : f1 192 = .inr (13, [.ref (b + 193), .ref (b + 194), .ref (b + 195), .int 0, .int 0, .int 0, .ref (b + 196), .ref (b + 197), .int 0, .int 0, .int 0, .int 0, .int 0, .int 0, .int 0, .int (-1), .ref (b + 198), .ref (b + 199), .ref (b + 200), .ref (b + 201), .ref (b + 202), .ref (b + 203), .ref (b + 204), .ref (b + 205), .ref (b + 206), .ref (b + 207), .ref (b + 208), .int 0, .ref (b + 209), .ref (b + 210), .ref (b + 211), .ref (b + 212), .ref (b + 213), .ref (b + 214), .ref (b + 215), .int 0, .int 0, .int 0, .int 0, .ref (b + 216), .ref (b + 217), .ref (b + 218), .ref (b + 219)]) := m_eq ef1
  refine m_goi (m_runV calV_X13_readProof wd_1232 (a_X13_readProof_0 l D kc b f1 h192_1) C hM (by decide) h192_1 rfl hl.1 rfl rfl (Nat.le_of_ble_eq_true rfl) dX13_first_7 ⟨Nat.le_of_ble_eq_true rfl, Nat.le_of_ble_eq_true rfl⟩ ⟨Nat.le_of_ble_eq_true rfl, Nat.le_of_ble_eq_true rfl⟩) hM (fun r3 n4 f2 H locs hp hM => ?_)
  have hp : r3 = 0 ∧ n4 = 220 ∧ f2 = f1 := hp
  obtain ⟨rfl, rfl, ef2⟩ := hp
  refine lv_istore_n (lv' := [(1, .int 0), (0, .ref (b + 192))]) hx hb dX13_first_10 rfl hl (by decide) rfl (fun ls hl => ?_)
  refine lv_goto (tgt := 17) hx hb dX13_first_11 (by decide) ?_
  refine lv_iconst (v := 0) hx hb dX13_first_17 (by decide) ?_
  refine lv_istore_n (lv' := [(2, .int 0), (1, .int 0), (0, .ref (b + 192))]) hx hb dX13_first_18 rfl hl (by decide) rfl (fun ls hl => ?_)
  refine lv_iload_n hx hb dX13_first_19 rfl (lv_at hl 0 rfl) ?_
  refine lv_iload_n hx hb dX13_first_20 rfl (lv_at hl 1 rfl) ?_
  refine lv_icmp_ge (tgt := 42) hx hb dX13_first_21 (by decide) (fun _ => ?_) (fun h => absurd (by decide) h)
  refine lv_aload_n hx hb dX13_first_42 rfl (lv_at hl 2 rfl) ?_
  refine lv_iload_n hx hb dX13_first_43 rfl (lv_at hl 1 rfl) ?_
  have h192_2 : f2 192 = .inr (13, [.ref (b + 193), .ref (b + 194), .ref (b + 195), .int 0, .int 0, .int 0, .ref (b + 196), .ref (b + 197), .int 0, .int 0, .int 0, .int 0, .int 0, .int 0, .int 0, .int (-1), .ref (b + 198), .ref (b + 199), .ref (b + 200), .ref (b + 201), .ref (b + 202), .ref (b + 203), .ref (b + 204), .ref (b + 205), .ref (b + 206), .ref (b + 207), .ref (b + 208), .int 0, .ref (b + 209), .ref (b + 210), .ref (b + 211), .ref (b + 212), .ref (b + 213), .ref (b + 214), .ref (b + 215), .int 0, .int 0, .int 0, .int 0, .ref (b + 216), .ref (b + 217), .ref (b + 218), .ref (b + 219)]) := m_sm ef2 h192_1
  refine m_put fl_X13_150_X13 C hM (i := 192) (by decide) h192_2 rfl rfl (Nat.le_of_ble_eq_true rfl) (fs1 := [.ref (b + 193), .ref (b + 194), .ref (b + 195), .int 0, .int 0, .int 0, .ref (b + 196), .ref (b + 197), .int 0, .int 0, .int 0, .int 0, .int 0, .int 0, .int 0, .int (-1), .ref (b + 198), .ref (b + 199), .ref (b + 200), .ref (b + 201), .ref (b + 202), .ref (b + 203), .ref (b + 204), .ref (b + 205), .ref (b + 206), .ref (b + 207), .ref (b + 208), .int 0, .ref (b + 209), .ref (b + 210), .ref (b + 211), .ref (b + 212), .ref (b + 213), .ref (b + 214), .ref (b + 215), .int 0, .int 0, .int 0, .int 0, .ref (b + 216), .ref (b + 217), .ref (b + 218), .ref (b + 219)]) rfl dX13_first_44 (fun H locs f3 ef3 hM => ?_)
  refine lv_aload_n hx hb dX13_first_47 rfl (lv_at hl 2 rfl) ?_
  refine lv_iconst (v := 0) hx hb dX13_first_48 (by decide) ?_
  have h192_3 : f3 192 = .inr (13, [.ref (b + 193), .ref (b + 194), .ref (b + 195), .int 0, .int 0, .int 0, .ref (b + 196), .ref (b + 197), .int 0, .int 0, .int 0, .int 0, .int 0, .int 0, .int 0, .int (-1), .ref (b + 198), .ref (b + 199), .ref (b + 200), .ref (b + 201), .ref (b + 202), .ref (b + 203), .ref (b + 204), .ref (b + 205), .ref (b + 206), .ref (b + 207), .ref (b + 208), .int 0, .ref (b + 209), .ref (b + 210), .ref (b + 211), .ref (b + 212), .ref (b + 213), .ref (b + 214), .ref (b + 215), .int 0, .int 0, .int 0, .int 0, .ref (b + 216), .ref (b + 217), .ref (b + 218), .ref (b + 219)]) := m_eq ef3
  refine m_put fl_X13_153_X13 C hM (i := 192) (by decide) h192_3 rfl rfl (Nat.le_of_ble_eq_true rfl) (fs1 := [.ref (b + 193), .ref (b + 194), .ref (b + 195), .int 0, .int 0, .int 0, .ref (b + 196), .ref (b + 197), .int 0, .int 0, .int 0, .int 0, .int 0, .int 0, .int 0, .int (-1), .ref (b + 198), .ref (b + 199), .ref (b + 200), .ref (b + 201), .ref (b + 202), .ref (b + 203), .ref (b + 204), .ref (b + 205), .ref (b + 206), .ref (b + 207), .ref (b + 208), .int 0, .ref (b + 209), .ref (b + 210), .ref (b + 211), .ref (b + 212), .ref (b + 213), .ref (b + 214), .ref (b + 215), .int 0, .int 0, .int 0, .int 0, .ref (b + 216), .ref (b + 217), .ref (b + 218), .ref (b + 219)]) rfl dX13_first_49 (fun H locs f4 ef4 hM => ?_)
  refine lv_iload_n hx hb dX13_first_52 rfl (lv_at hl 1 rfl) ?_
  exact m_iret C hr hlk hM (rfl) dX13_first_53
set_option maxHeartbeats 4000000 in
set_option maxRecDepth 100000 in
theorem a_X13_readProof_1 (l : Launch) (D : va_G) (kc : Nat → ClassId) (b : Nat) (f : Nat → va_E) (h192 : f 192 = .inr (13, [.ref (b + 193), .ref (b + 194), .ref (b + 195), .int 0, .int 0, .int 0, .ref (b + 196), .ref (b + 197), .int 0, .int 0, .int 0, .int 0, .int 0, .int 0, .int 0, .int (-1), .ref (b + 198), .ref (b + 199), .ref (b + 200), .ref (b + 201), .ref (b + 202), .ref (b + 203), .ref (b + 204), .ref (b + 205), .ref (b + 206), .ref (b + 207), .ref (b + 208), .int 0, .ref (b + 209), .ref (b + 210), .ref (b + 211), .ref (b + 212), .ref (b + 213), .ref (b + 214), .ref (b + 215), .int 0, .int 0, .int 0, .int 0, .ref (b + 216), .ref (b + 217), .ref (b + 218), .ref (b + 219)])) : mMi l yX13_readProof cX13_readProof 6 .int 1 0 0 D kc b 220 f [.ref (b + 192), .int 150] (fun r u => r = 0 ∧ u.1 = 220 ∧ u.2 = f) := by
  refine m_start (by decide) (Nat.le_of_ble_eq_true rfl) ?_
  intro p e s m below meth c C hr hlk hnm hM ls hl
  obtain ⟨hx, hb, hml, hown, hts, hE, hbs⟩ := id C
  have hl : lv_has ls 6 [(0, .ref (b + 192)), (1, .int 150)] := hl
  refine lv_iconst (v := 0) hx hb dX13_readProof_0 (by decide) ?_
  refine lv_istore_n (lv' := [(2, .int 0), (0, .ref (b + 192)), (1, .int 150)]) hx hb dX13_readProof_1 rfl hl (by decide) rfl (fun ls hl => ?_)
  refine lv_iconst (v := 0) hx hb dX13_readProof_2 (by decide) ?_
  refine lv_istore_n (lv' := [(3, .int 0), (2, .int 0), (0, .ref (b + 192)), (1, .int 150)]) hx hb dX13_readProof_3 rfl hl (by decide) rfl (fun ls hl => ?_)
  refine lv_iconst (v := 0) hx hb dX13_readProof_4 (by decide) ?_
  refine lv_istore (lv' := [(4, .int 0), (3, .int 0), (2, .int 0), (0, .ref (b + 192)), (1, .int 150)]) hx hb dX13_readProof_5 hl (by decide) rfl (fun ls hl => ?_)
  refine lv_iload hx hb dX13_readProof_7 (lv_at hl 0 rfl) ?_
  refine lv_aload_n hx hb dX13_readProof_9 rfl (lv_at hl 3 rfl) ?_
  refine m_get fl_X13_14_X13 C hM (i := 192) (by decide) h192 (v := .int 0) rfl dX13_readProof_10 ?_
  refine lv_icmp_ge (tgt := 118) hx hb dX13_readProof_13 (by decide) (fun _ => ?_) (fun h => absurd (by decide) h)
  refine lv_iload_n hx hb dX13_readProof_118 rfl (lv_at hl 2 rfl) ?_
  exact m_iret C hr hlk hM (⟨rfl, rfl, rfl⟩) dX13_readProof_119
set_option maxHeartbeats 4000000 in
set_option maxRecDepth 100000 in
theorem k_m_second (l : Launch) (D : va_G) (kc : Nat → ClassId) (b : Nat) (f : Nat → va_E) (h192 : f 192 = .inr (13, [.ref (b + 193), .ref (b + 194), .ref (b + 195), .int 0, .int 0, .int 0, .ref (b + 196), .ref (b + 197), .int 0, .int 0, .int 0, .int 0, .int 0, .int 0, .int 0, .int (-1), .ref (b + 198), .ref (b + 199), .ref (b + 200), .ref (b + 201), .ref (b + 202), .ref (b + 203), .ref (b + 204), .ref (b + 205), .ref (b + 206), .ref (b + 207), .ref (b + 208), .int 0, .ref (b + 209), .ref (b + 210), .ref (b + 211), .ref (b + 212), .ref (b + 213), .ref (b + 214), .ref (b + 215), .int 0, .int 0, .int 0, .int 0, .ref (b + 216), .ref (b + 217), .ref (b + 218), .ref (b + 219)])) : mMw l yX13_second cX13_second 3 .int [((4 : Nat), (12 : Nat), (15 : Nat), (67 : Nat))] 2 0 0 D kc b 220 f [.ref (b + 192)] (fun r u => r = 0) := by
  refine m_startW (by decide) (Nat.le_of_ble_eq_true rfl) ?_
  intro p e s m below meth c C hr hlk hnm hM ls hl
  obtain ⟨hx, hb, hml, hown, hts, hE, hbs⟩ := id C
  have hl : lv_has ls 3 [(0, .ref (b + 192))] := hl
  refine lv_aload_n hx hb dX13_second_0 rfl (lv_at hl 0 rfl) ?_
  refine m_gov (m_runV calV_X13_begin wd_1228 (a_X13_begin_0 l D kc b f h192) C hM (by decide) h192 rfl hl.1 rfl rfl (Nat.le_of_ble_eq_true rfl) dX13_second_1 ⟨Nat.le_of_ble_eq_true rfl, Nat.le_of_ble_eq_true rfl⟩ ⟨Nat.le_of_ble_eq_true rfl, Nat.le_of_ble_eq_true rfl⟩) hM (fun n2 f1 H locs hp hM => ?_)
  have hp : n2 = 220 ∧ f1 = va_up f 192 (.inr (13, [.ref (b + 193), .ref (b + 194), .ref (b + 195), .int 0, .int 0, .int 0, .ref (b + 196), .ref (b + 197), .int 0, .int 0, .int 0, .int 0, .int 0, .int 0, .int 0, .int (-1), .ref (b + 198), .ref (b + 199), .ref (b + 200), .ref (b + 201), .ref (b + 202), .ref (b + 203), .ref (b + 204), .ref (b + 205), .ref (b + 206), .ref (b + 207), .ref (b + 208), .int 0, .ref (b + 209), .ref (b + 210), .ref (b + 211), .ref (b + 212), .ref (b + 213), .ref (b + 214), .ref (b + 215), .int 0, .int 0, .int 0, .int 0, .ref (b + 216), .ref (b + 217), .ref (b + 218), .ref (b + 219)])) := hp
  obtain ⟨rfl, ef1⟩ := hp
  refine lv_aload_n hx hb dX13_second_4 rfl (lv_at hl 0 rfl) ?_
  refine lv_sipush (v := 150) hx hb dX13_second_5 (by decide) ?_
  have h192_1 : f1 192 = .inr (13, [.ref (b + 193), .ref (b + 194), .ref (b + 195), .int 0, .int 0, .int 0, .ref (b + 196), .ref (b + 197), .int 0, .int 0, .int 0, .int 0, .int 0, .int 0, .int 0, .int (-1), .ref (b + 198), .ref (b + 199), .ref (b + 200), .ref (b + 201), .ref (b + 202), .ref (b + 203), .ref (b + 204), .ref (b + 205), .ref (b + 206), .ref (b + 207), .ref (b + 208), .int 0, .ref (b + 209), .ref (b + 210), .ref (b + 211), .ref (b + 212), .ref (b + 213), .ref (b + 214), .ref (b + 215), .int 0, .int 0, .int 0, .int 0, .ref (b + 216), .ref (b + 217), .ref (b + 218), .ref (b + 219)]) := m_eq ef1
  refine m_goi (m_runV calV_X13_readProof wd_1232 (a_X13_readProof_1 l D kc b f1 h192_1) C hM (by decide) h192_1 rfl hl.1 rfl rfl (Nat.le_of_ble_eq_true rfl) dX13_second_8 ⟨Nat.le_of_ble_eq_true rfl, Nat.le_of_ble_eq_true rfl⟩ ⟨Nat.le_of_ble_eq_true rfl, Nat.le_of_ble_eq_true rfl⟩) hM (fun r3 n4 f2 H locs hp hM => ?_)
  have hp : r3 = 0 ∧ n4 = 220 ∧ f2 = f1 := hp
  obtain ⟨rfl, rfl, ef2⟩ := hp
  refine lv_istore_n (lv' := [(1, .int 0), (0, .ref (b + 192))]) hx hb dX13_second_11 rfl hl (by decide) rfl (fun ls hl => ?_)
  refine lv_goto (tgt := 18) hx hb dX13_second_12 (by decide) ?_
  refine lv_iconst (v := 0) hx hb dX13_second_18 (by decide) ?_
  refine lv_istore_n (lv' := [(2, .int 0), (1, .int 0), (0, .ref (b + 192))]) hx hb dX13_second_19 rfl hl (by decide) rfl (fun ls hl => ?_)
  refine lv_iload_n hx hb dX13_second_20 rfl (lv_at hl 0 rfl) ?_
  refine lv_iload_n hx hb dX13_second_21 rfl (lv_at hl 1 rfl) ?_
  refine lv_icmp_ge (tgt := 43) hx hb dX13_second_22 (by decide) (fun _ => ?_) (fun h => absurd (by decide) h)
  refine lv_aload_n hx hb dX13_second_43 rfl (lv_at hl 2 rfl) ?_
  refine lv_iload_n hx hb dX13_second_44 rfl (lv_at hl 1 rfl) ?_
  have h192_2 : f2 192 = .inr (13, [.ref (b + 193), .ref (b + 194), .ref (b + 195), .int 0, .int 0, .int 0, .ref (b + 196), .ref (b + 197), .int 0, .int 0, .int 0, .int 0, .int 0, .int 0, .int 0, .int (-1), .ref (b + 198), .ref (b + 199), .ref (b + 200), .ref (b + 201), .ref (b + 202), .ref (b + 203), .ref (b + 204), .ref (b + 205), .ref (b + 206), .ref (b + 207), .ref (b + 208), .int 0, .ref (b + 209), .ref (b + 210), .ref (b + 211), .ref (b + 212), .ref (b + 213), .ref (b + 214), .ref (b + 215), .int 0, .int 0, .int 0, .int 0, .ref (b + 216), .ref (b + 217), .ref (b + 218), .ref (b + 219)]) := m_sm ef2 h192_1
  refine m_put fl_X13_156_X13 C hM (i := 192) (by decide) h192_2 rfl rfl (Nat.le_of_ble_eq_true rfl) (fs1 := [.ref (b + 193), .ref (b + 194), .ref (b + 195), .int 0, .int 0, .int 0, .ref (b + 196), .ref (b + 197), .int 0, .int 0, .int 0, .int 0, .int 0, .int 0, .int 0, .int (-1), .ref (b + 198), .ref (b + 199), .ref (b + 200), .ref (b + 201), .ref (b + 202), .ref (b + 203), .ref (b + 204), .ref (b + 205), .ref (b + 206), .ref (b + 207), .ref (b + 208), .int 0, .ref (b + 209), .ref (b + 210), .ref (b + 211), .ref (b + 212), .ref (b + 213), .ref (b + 214), .ref (b + 215), .int 0, .int 0, .int 0, .int 0, .ref (b + 216), .ref (b + 217), .ref (b + 218), .ref (b + 219)]) rfl dX13_second_45 (fun H locs f3 ef3 hM => ?_)
  refine lv_iload_n hx hb dX13_second_48 rfl (lv_at hl 1 rfl) ?_
  exact m_iret C hr hlk hM (rfl) dX13_second_49
set_option maxHeartbeats 4000000 in
set_option maxRecDepth 100000 in
theorem a_X13_byteAt_0 (l : Launch) (D : va_G) (kc : Nat → ClassId) (b : Nat) (f : Nat → va_E) (h192 : f 192 = .inr (13, [.ref (b + 193), .ref (b + 194), .ref (b + 195), .int 0, .int 0, .int 0, .ref (b + 196), .ref (b + 197), .int 0, .int 0, .int 0, .int 0, .int 0, .int 0, .int 0, .int (-1), .ref (b + 198), .ref (b + 199), .ref (b + 200), .ref (b + 201), .ref (b + 202), .ref (b + 203), .ref (b + 204), .ref (b + 205), .ref (b + 206), .ref (b + 207), .ref (b + 208), .int 0, .ref (b + 209), .ref (b + 210), .ref (b + 211), .ref (b + 212), .ref (b + 213), .ref (b + 214), .ref (b + 215), .int 0, .int 0, .int 0, .int 0, .ref (b + 216), .ref (b + 217), .ref (b + 218), .ref (b + 219)])) : mMi l yX13_byteAt cX13_byteAt 2 .int 1 0 0 D kc b 220 f [.ref (b + 192), .int 0] (fun r u => r = 0 ∧ u.1 = 220 ∧ u.2 = f) := by
  refine m_start (by decide) (Nat.le_of_ble_eq_true rfl) ?_
  intro p e s m below meth c C hr hlk hnm hM ls hl
  obtain ⟨hx, hb, hml, hown, hts, hE, hbs⟩ := id C
  have hl : lv_has ls 2 [(0, .ref (b + 192)), (1, .int 0)] := hl
  refine lv_iload_n hx hb dX13_byteAt_0 rfl (lv_at hl 1 rfl) ?_
  refine lv_aload_n hx hb dX13_byteAt_1 rfl (lv_at hl 0 rfl) ?_
  refine m_get fl_X13_14_X13 C hM (i := 192) (by decide) h192 (v := .int 0) rfl dX13_byteAt_2 ?_
  refine lv_icmp_ge (tgt := 21) hx hb dX13_byteAt_5 (by decide) (fun _ => ?_) (fun h => absurd (by decide) h)
  refine lv_iconst (v := 0) hx hb dX13_byteAt_21 (by decide) ?_
  exact m_iret C hr hlk hM (⟨rfl, rfl, rfl⟩) dX13_byteAt_22
set_option maxHeartbeats 4000000 in
set_option maxRecDepth 100000 in
theorem a_X13_scan_0 (l : Launch) (D : va_G) (kc : Nat → ClassId) (b : Nat) (f : Nat → va_E) (h192 : f 192 = .inr (13, [.ref (b + 193), .ref (b + 194), .ref (b + 195), .int 0, .int 0, .int 0, .ref (b + 196), .ref (b + 197), .int 0, .int 0, .int 0, .int 0, .int 0, .int 0, .int 0, .int (-1), .ref (b + 198), .ref (b + 199), .ref (b + 200), .ref (b + 201), .ref (b + 202), .ref (b + 203), .ref (b + 204), .ref (b + 205), .ref (b + 206), .ref (b + 207), .ref (b + 208), .int 0, .ref (b + 209), .ref (b + 210), .ref (b + 211), .ref (b + 212), .ref (b + 213), .ref (b + 214), .ref (b + 215), .int 0, .int 0, .int 0, .int 0, .ref (b + 216), .ref (b + 217), .ref (b + 218), .ref (b + 219)])) : mMv l yX13_scan cX13_scan 2 2 0 0 D kc b 220 f [.ref (b + 192)] (fun u => u.1 = 220 ∧ u.2 = va_up f 192 (.inr (13, [.ref (b + 193), .ref (b + 194), .ref (b + 195), .int 0, .int 0, .int 0, .ref (b + 196), .ref (b + 197), .int 0, .int 0, .int 0, .int 0, .int 0, .int 0, .int 0, .int (-1), .ref (b + 198), .ref (b + 199), .ref (b + 200), .ref (b + 201), .ref (b + 202), .ref (b + 203), .ref (b + 204), .ref (b + 205), .ref (b + 206), .ref (b + 207), .ref (b + 208), .int 0, .ref (b + 209), .ref (b + 210), .ref (b + 211), .ref (b + 212), .ref (b + 213), .ref (b + 214), .ref (b + 215), .int 0, .int 0, .int 0, .int 0, .ref (b + 216), .ref (b + 217), .ref (b + 218), .ref (b + 219)]))) := by
  refine m_start (by decide) (Nat.le_of_ble_eq_true rfl) ?_
  intro p e s m below meth c C hr hlk hnm hM ls hl
  obtain ⟨hx, hb, hml, hown, hts, hE, hbs⟩ := id C
  have hl : lv_has ls 2 [(0, .ref (b + 192))] := hl
  refine lv_aload_n hx hb dX13_scan_0 rfl (lv_at hl 0 rfl) ?_
  refine m_get fl_X13_31_X13 C hM (i := 192) (by decide) h192 (v := .int 0) rfl dX13_scan_1 ?_
  refine lv_aload_n hx hb dX13_scan_4 rfl (lv_at hl 0 rfl) ?_
  refine m_get fl_X13_14_X13 C hM (i := 192) (by decide) h192 (v := .int 0) rfl dX13_scan_5 ?_
  refine lv_icmp_ge (tgt := 38) hx hb dX13_scan_8 (by decide) (fun _ => ?_) (fun h => absurd (by decide) h)
  refine lv_aload_n hx hb dX13_scan_38 rfl (lv_at hl 0 rfl) ?_
  refine lv_aload_n hx hb dX13_scan_39 rfl (lv_at hl 0 rfl) ?_
  refine m_get fl_X13_31_X13 C hM (i := 192) (by decide) h192 (v := .int 0) rfl dX13_scan_40 ?_
  refine m_put fl_X13_159_X13 C hM (i := 192) (by decide) h192 rfl rfl (Nat.le_of_ble_eq_true rfl) (fs1 := [.ref (b + 193), .ref (b + 194), .ref (b + 195), .int 0, .int 0, .int 0, .ref (b + 196), .ref (b + 197), .int 0, .int 0, .int 0, .int 0, .int 0, .int 0, .int 0, .int (-1), .ref (b + 198), .ref (b + 199), .ref (b + 200), .ref (b + 201), .ref (b + 202), .ref (b + 203), .ref (b + 204), .ref (b + 205), .ref (b + 206), .ref (b + 207), .ref (b + 208), .int 0, .ref (b + 209), .ref (b + 210), .ref (b + 211), .ref (b + 212), .ref (b + 213), .ref (b + 214), .ref (b + 215), .int 0, .int 0, .int 0, .int 0, .ref (b + 216), .ref (b + 217), .ref (b + 218), .ref (b + 219)]) rfl dX13_scan_43 (fun H locs f1 ef1 hM => ?_)
  refine lv_aload_n hx hb dX13_scan_46 rfl (lv_at hl 0 rfl) ?_
  refine lv_aload_n hx hb dX13_scan_47 rfl (lv_at hl 0 rfl) ?_
  have h192_1 : f1 192 = .inr (13, [.ref (b + 193), .ref (b + 194), .ref (b + 195), .int 0, .int 0, .int 0, .ref (b + 196), .ref (b + 197), .int 0, .int 0, .int 0, .int 0, .int 0, .int 0, .int 0, .int (-1), .ref (b + 198), .ref (b + 199), .ref (b + 200), .ref (b + 201), .ref (b + 202), .ref (b + 203), .ref (b + 204), .ref (b + 205), .ref (b + 206), .ref (b + 207), .ref (b + 208), .int 0, .ref (b + 209), .ref (b + 210), .ref (b + 211), .ref (b + 212), .ref (b + 213), .ref (b + 214), .ref (b + 215), .int 0, .int 0, .int 0, .int 0, .ref (b + 216), .ref (b + 217), .ref (b + 218), .ref (b + 219)]) := m_eq ef1
  refine m_get fl_X13_159_X13 C hM (i := 192) (by decide) h192_1 (v := .int 0) rfl dX13_scan_48 ?_
  refine m_goi (m_runV calV_X13_byteAt wd_1236 (a_X13_byteAt_0 l D kc b f1 h192_1) C hM (by decide) h192_1 rfl hl.1 rfl rfl (Nat.le_of_ble_eq_true rfl) dX13_scan_51 ⟨Nat.le_of_ble_eq_true rfl, Nat.le_of_ble_eq_true rfl⟩ ⟨Nat.le_of_ble_eq_true rfl, Nat.le_of_ble_eq_true rfl⟩) hM (fun r1 n2 f2 H locs hp hM => ?_)
  have hp : r1 = 0 ∧ n2 = 220 ∧ f2 = f1 := hp
  obtain ⟨rfl, rfl, ef2⟩ := hp
  refine lv_istore_n (lv' := [(1, .int 0), (0, .ref (b + 192))]) hx hb dX13_scan_54 rfl hl (by decide) rfl (fun ls hl => ?_)
  refine lv_aload_n hx hb dX13_scan_55 rfl (lv_at hl 1 rfl) ?_
  have h192_2 : f2 192 = .inr (13, [.ref (b + 193), .ref (b + 194), .ref (b + 195), .int 0, .int 0, .int 0, .ref (b + 196), .ref (b + 197), .int 0, .int 0, .int 0, .int 0, .int 0, .int 0, .int 0, .int (-1), .ref (b + 198), .ref (b + 199), .ref (b + 200), .ref (b + 201), .ref (b + 202), .ref (b + 203), .ref (b + 204), .ref (b + 205), .ref (b + 206), .ref (b + 207), .ref (b + 208), .int 0, .ref (b + 209), .ref (b + 210), .ref (b + 211), .ref (b + 212), .ref (b + 213), .ref (b + 214), .ref (b + 215), .int 0, .int 0, .int 0, .int 0, .ref (b + 216), .ref (b + 217), .ref (b + 218), .ref (b + 219)]) := m_sm ef2 h192_1
  refine m_get fl_X13_159_X13 C hM (i := 192) (by decide) h192_2 (v := .int 0) rfl dX13_scan_56 ?_
  refine lv_aload_n hx hb dX13_scan_59 rfl (lv_at hl 1 rfl) ?_
  refine m_get fl_X13_14_X13 C hM (i := 192) (by decide) h192_2 (v := .int 0) rfl dX13_scan_60 ?_
  refine lv_icmp_ne (tgt := 74) hx hb dX13_scan_63 (by decide) (fun h => absurd (by decide) h) (fun _ => ?_)
  refine lv_aload_n hx hb dX13_scan_66 rfl (lv_at hl 1 rfl) ?_
  refine lv_iconst (v := 0) hx hb dX13_scan_67 (by decide) ?_
  refine m_put fl_X13_162_X13 C hM (i := 192) (by decide) h192_2 rfl rfl (Nat.le_of_ble_eq_true rfl) (fs1 := [.ref (b + 193), .ref (b + 194), .ref (b + 195), .int 0, .int 0, .int 0, .ref (b + 196), .ref (b + 197), .int 0, .int 0, .int 0, .int 0, .int 0, .int 0, .int 0, .int (-1), .ref (b + 198), .ref (b + 199), .ref (b + 200), .ref (b + 201), .ref (b + 202), .ref (b + 203), .ref (b + 204), .ref (b + 205), .ref (b + 206), .ref (b + 207), .ref (b + 208), .int 0, .ref (b + 209), .ref (b + 210), .ref (b + 211), .ref (b + 212), .ref (b + 213), .ref (b + 214), .ref (b + 215), .int 0, .int 0, .int 0, .int 0, .ref (b + 216), .ref (b + 217), .ref (b + 218), .ref (b + 219)]) rfl dX13_scan_68 (fun H locs f3 ef3 hM => ?_)
  refine lv_goto (tgt := 253) hx hb dX13_scan_71 (by decide) ?_
  exact m_vret C hr hlk hM (⟨rfl, by rw [ef3, ef2, ef1]; simp only [bx_uu]⟩) dX13_scan_253
set_option maxHeartbeats 4000000 in
set_option maxRecDepth 100000 in
theorem k_m_marks (l : Launch) (D : va_G) (kc : Nat → ClassId) (b : Nat) (f : Nat → va_E) (h192 : f 192 = .inr (13, [.ref (b + 193), .ref (b + 194), .ref (b + 195), .int 0, .int 0, .int 0, .ref (b + 196), .ref (b + 197), .int 0, .int 0, .int 0, .int 0, .int 0, .int 0, .int 0, .int (-1), .ref (b + 198), .ref (b + 199), .ref (b + 200), .ref (b + 201), .ref (b + 202), .ref (b + 203), .ref (b + 204), .ref (b + 205), .ref (b + 206), .ref (b + 207), .ref (b + 208), .int 0, .ref (b + 209), .ref (b + 210), .ref (b + 211), .ref (b + 212), .ref (b + 213), .ref (b + 214), .ref (b + 215), .int 0, .int 0, .int 0, .int 0, .ref (b + 216), .ref (b + 217), .ref (b + 218), .ref (b + 219)])) : mMw l yX13_marks cX13_marks 3 .int [((9 : Nat), (31 : Nat), (34 : Nat), (67 : Nat))] 3 0 0 D kc b 220 f [.ref (b + 192)] (fun r u => r = 0) := by
  refine m_startW (by decide) (Nat.le_of_ble_eq_true rfl) ?_
  intro p e s m below meth c C hr hlk hnm hM ls hl
  obtain ⟨hx, hb, hml, hown, hts, hE, hbs⟩ := id C
  have hl : lv_has ls 3 [(0, .ref (b + 192))] := hl
  refine lv_aload_n hx hb dX13_marks_0 rfl (lv_at hl 0 rfl) ?_
  refine m_gov (m_runV calV_X13_begin wd_1228 (a_X13_begin_0 l D kc b f h192) C hM (by decide) h192 rfl hl.1 rfl rfl (Nat.le_of_ble_eq_true rfl) dX13_marks_1 ⟨Nat.le_of_ble_eq_true rfl, Nat.le_of_ble_eq_true rfl⟩ ⟨Nat.le_of_ble_eq_true rfl, Nat.le_of_ble_eq_true rfl⟩) hM (fun n2 f1 H locs hp hM => ?_)
  have hp : n2 = 220 ∧ f1 = va_up f 192 (.inr (13, [.ref (b + 193), .ref (b + 194), .ref (b + 195), .int 0, .int 0, .int 0, .ref (b + 196), .ref (b + 197), .int 0, .int 0, .int 0, .int 0, .int 0, .int 0, .int 0, .int (-1), .ref (b + 198), .ref (b + 199), .ref (b + 200), .ref (b + 201), .ref (b + 202), .ref (b + 203), .ref (b + 204), .ref (b + 205), .ref (b + 206), .ref (b + 207), .ref (b + 208), .int 0, .ref (b + 209), .ref (b + 210), .ref (b + 211), .ref (b + 212), .ref (b + 213), .ref (b + 214), .ref (b + 215), .int 0, .int 0, .int 0, .int 0, .ref (b + 216), .ref (b + 217), .ref (b + 218), .ref (b + 219)])) := hp
  obtain ⟨rfl, ef1⟩ := hp
  refine lv_aload_n hx hb dX13_marks_4 rfl (lv_at hl 0 rfl) ?_
  have h192_1 : f1 192 = .inr (13, [.ref (b + 193), .ref (b + 194), .ref (b + 195), .int 0, .int 0, .int 0, .ref (b + 196), .ref (b + 197), .int 0, .int 0, .int 0, .int 0, .int 0, .int 0, .int 0, .int (-1), .ref (b + 198), .ref (b + 199), .ref (b + 200), .ref (b + 201), .ref (b + 202), .ref (b + 203), .ref (b + 204), .ref (b + 205), .ref (b + 206), .ref (b + 207), .ref (b + 208), .int 0, .ref (b + 209), .ref (b + 210), .ref (b + 211), .ref (b + 212), .ref (b + 213), .ref (b + 214), .ref (b + 215), .int 0, .int 0, .int 0, .int 0, .ref (b + 216), .ref (b + 217), .ref (b + 218), .ref (b + 219)]) := m_eq ef1
  refine m_get fl_X13_153_X13 C hM (i := 192) (by decide) h192_1 (v := .int 0) rfl dX13_marks_5 ?_
  refine lv_istore_n (lv' := [(1, .int 0), (0, .ref (b + 192))]) hx hb dX13_marks_8 rfl hl (by decide) rfl (fun ls hl => ?_)
  refine lv_aload_n hx hb dX13_marks_9 rfl (lv_at hl 1 rfl) ?_
  refine m_gov (m_runV calV_X13_scan wd_1264 (a_X13_scan_0 l D kc b f1 h192_1) C hM (by decide) h192_1 rfl hl.1 rfl rfl (Nat.le_of_ble_eq_true rfl) dX13_marks_10 ⟨Nat.le_of_ble_eq_true rfl, Nat.le_of_ble_eq_true rfl⟩ ⟨Nat.le_of_ble_eq_true rfl, Nat.le_of_ble_eq_true rfl⟩) hM (fun n4 f2 H locs hp hM => ?_)
  have hp : n4 = 220 ∧ f2 = va_up f1 192 (.inr (13, [.ref (b + 193), .ref (b + 194), .ref (b + 195), .int 0, .int 0, .int 0, .ref (b + 196), .ref (b + 197), .int 0, .int 0, .int 0, .int 0, .int 0, .int 0, .int 0, .int (-1), .ref (b + 198), .ref (b + 199), .ref (b + 200), .ref (b + 201), .ref (b + 202), .ref (b + 203), .ref (b + 204), .ref (b + 205), .ref (b + 206), .ref (b + 207), .ref (b + 208), .int 0, .ref (b + 209), .ref (b + 210), .ref (b + 211), .ref (b + 212), .ref (b + 213), .ref (b + 214), .ref (b + 215), .int 0, .int 0, .int 0, .int 0, .ref (b + 216), .ref (b + 217), .ref (b + 218), .ref (b + 219)])) := hp
  obtain ⟨rfl, ef2⟩ := hp
  refine lv_aload_n hx hb dX13_marks_13 rfl (lv_at hl 1 rfl) ?_
  have h192_2 : f2 192 = .inr (13, [.ref (b + 193), .ref (b + 194), .ref (b + 195), .int 0, .int 0, .int 0, .ref (b + 196), .ref (b + 197), .int 0, .int 0, .int 0, .int 0, .int 0, .int 0, .int 0, .int (-1), .ref (b + 198), .ref (b + 199), .ref (b + 200), .ref (b + 201), .ref (b + 202), .ref (b + 203), .ref (b + 204), .ref (b + 205), .ref (b + 206), .ref (b + 207), .ref (b + 208), .int 0, .ref (b + 209), .ref (b + 210), .ref (b + 211), .ref (b + 212), .ref (b + 213), .ref (b + 214), .ref (b + 215), .int 0, .int 0, .int 0, .int 0, .ref (b + 216), .ref (b + 217), .ref (b + 218), .ref (b + 219)]) := m_eq ef2
  refine m_get fl_X13_162_X13 C hM (i := 192) (by decide) h192_2 (v := .int 0) rfl dX13_marks_14 ?_
  refine lv_if_eq (tgt := 31) hx hb dX13_marks_17 (by decide) (fun _ => ?_) (fun h => absurd (by decide) h)
  refine lv_goto (tgt := 37) hx hb dX13_marks_31 (by decide) ?_
  refine lv_iload_n hx hb dX13_marks_37 rfl (lv_at hl 0 rfl) ?_
  refine lv_aload_n hx hb dX13_marks_38 rfl (lv_at hl 1 rfl) ?_
  refine m_get fl_X13_153_X13 C hM (i := 192) (by decide) h192_2 (v := .int 0) rfl dX13_marks_39 ?_
  refine lv_isub hx hb dX13_marks_42 ?_
  refine m_vi (y := 0) (by decide) ?_
  refine lv_istore_n (lv' := [(2, .int 0), (1, .int 0), (0, .ref (b + 192))]) hx hb dX13_marks_43 rfl hl (by decide) rfl (fun ls hl => ?_)
  refine lv_aload_n hx hb dX13_marks_44 rfl (lv_at hl 2 rfl) ?_
  refine lv_iload_n hx hb dX13_marks_45 rfl (lv_at hl 1 rfl) ?_
  refine m_put fl_X13_153_X13 C hM (i := 192) (by decide) h192_2 rfl rfl (Nat.le_of_ble_eq_true rfl) (fs1 := [.ref (b + 193), .ref (b + 194), .ref (b + 195), .int 0, .int 0, .int 0, .ref (b + 196), .ref (b + 197), .int 0, .int 0, .int 0, .int 0, .int 0, .int 0, .int 0, .int (-1), .ref (b + 198), .ref (b + 199), .ref (b + 200), .ref (b + 201), .ref (b + 202), .ref (b + 203), .ref (b + 204), .ref (b + 205), .ref (b + 206), .ref (b + 207), .ref (b + 208), .int 0, .ref (b + 209), .ref (b + 210), .ref (b + 211), .ref (b + 212), .ref (b + 213), .ref (b + 214), .ref (b + 215), .int 0, .int 0, .int 0, .int 0, .ref (b + 216), .ref (b + 217), .ref (b + 218), .ref (b + 219)]) rfl dX13_marks_46 (fun H locs f3 ef3 hM => ?_)
  refine lv_iload_n hx hb dX13_marks_49 rfl (lv_at hl 0 rfl) ?_
  exact m_iret C hr hlk hM (rfl) dX13_marks_50
set_option maxHeartbeats 4000000 in
set_option maxRecDepth 100000 in
theorem k_m_fault (l : Launch) (D : va_G) (kc : Nat → ClassId) (b : Nat) (f : Nat → va_E) (a0 : Int32) (h192 : f 192 = .inr (13, [.ref (b + 193), .ref (b + 194), .ref (b + 195), .int 0, .int 0, .int 0, .ref (b + 196), .ref (b + 197), .int 0, .int 0, .int 0, .int 0, .int 0, .int 0, .int 0, .int (-1), .ref (b + 198), .ref (b + 199), .ref (b + 200), .ref (b + 201), .ref (b + 202), .ref (b + 203), .ref (b + 204), .ref (b + 205), .ref (b + 206), .ref (b + 207), .ref (b + 208), .int 0, .ref (b + 209), .ref (b + 210), .ref (b + 211), .ref (b + 212), .ref (b + 213), .ref (b + 214), .ref (b + 215), .int 0, .int 0, .int 0, .int 0, .ref (b + 216), .ref (b + 217), .ref (b + 218), .ref (b + 219)])) : mMi l yX13_fault cX13_fault 2 .int 1 0 0 D kc b 220 f [.ref (b + 192), .int a0] (fun r u => r = p_fault a0) := by
  refine m_start (by decide) (Nat.le_of_ble_eq_true rfl) ?_
  intro p e s m below meth c C hr hlk hnm hM ls hl
  obtain ⟨hx, hb, hml, hown, hts, hE, hbs⟩ := id C
  have hl : lv_has ls 2 [(0, .ref (b + 192)), (1, .int a0)] := hl
  refine lv_iload_n hx hb dX13_fault_0 rfl (lv_at hl 1 rfl) ?_
  refine lv_if_ne (tgt := 11) hx hb dX13_fault_1 (by decide) (fun c1 => ?_) (fun c1 => ?_)
  · refine lv_iload_n hx hb dX13_fault_11 rfl (lv_at hl 1 rfl) ?_
    refine lv_iconst (v := 1) hx hb dX13_fault_12 (by decide) ?_
    refine lv_icmp_ne (tgt := 23) hx hb dX13_fault_13 (by decide) (fun c2 => ?_) (fun c2 => ?_)
    · refine lv_iconst (v := (-1)) hx hb dX13_fault_23 (by decide) ?_
      exact m_iret C hr hlk hM (by simp [p_fault, c1, c2]) dX13_fault_24
    · refine lv_aload_n hx hb dX13_fault_16 rfl (lv_at hl 0 rfl) ?_
      refine m_get fl_X13_7_X13 C hM (i := 192) (by decide) h192 (v := .int (-1)) rfl dX13_fault_17 ?_
      refine lv_goto (tgt := 24) hx hb dX13_fault_20 (by decide) ?_
      exact m_iret C hr hlk hM (by simp [p_fault, c1, c2]) dX13_fault_24
  · refine lv_aload_n hx hb dX13_fault_4 rfl (lv_at hl 0 rfl) ?_
    refine m_get fl_X13_1_X13 C hM (i := 192) (by decide) h192 (v := .int 0) rfl dX13_fault_5 ?_
    refine lv_goto (tgt := 24) hx hb dX13_fault_8 (by decide) ?_
    exact m_iret C hr hlk hM (by simp [p_fault, c1]) dX13_fault_24
set_option maxHeartbeats 4000000 in
set_option maxRecDepth 100000 in
theorem a_X13_isText_0 (l : Launch) (D : va_G) (kc : Nat → ClassId) (b : Nat) (f : Nat → va_E) (a0 : Int32) (z1 : a0 < 0) : mMi l yX13_isText cX13_isText 1 .boolean 2 0 0 D kc b 220 f [.int a0] (fun r u => r = 0 ∧ u.1 = 220 ∧ u.2 = f) := by
  refine m_start (by decide) (Nat.le_of_ble_eq_true rfl) ?_
  intro p e s m below meth c C hr hlk hnm hM ls hl
  obtain ⟨hx, hb, hml, hown, hts, hE, hbs⟩ := id C
  have hl : lv_has ls 1 [(0, .int a0)] := hl
  refine lv_iload_n hx hb dX13_isText_0 rfl (lv_at hl 0 rfl) ?_
  refine lv_i2l hx hb dX13_isText_1 rfl ?_
  refine lv_lconst (v := 0) hx hb dX13_isText_2 (by decide) ?_
  refine lv_ldc2 (v := 2) hx hb hown (hts _ wd_1368) dX13_isText_3 ?_
  refine m_goi (m_runS calS_X13_in wd_1221 (k_in0 l D kc b 220 f a0.toInt64 0 2 (by revert z1; rw [m_inI (a := 0) (b := 2) (by decide) (by decide)]; simp only [Int32.lt_iff_toInt_lt, Int32.le_iff_toInt_le, m_lits]; omega)) C hM hl.1 rfl rfl (Nat.le_of_ble_eq_true rfl) dX13_isText_6 ⟨Nat.le_of_ble_eq_true rfl, Nat.le_of_ble_eq_true rfl⟩ ⟨Nat.le_of_ble_eq_true rfl, Nat.le_of_ble_eq_true rfl⟩) hM (fun r1 n2 f1 H locs hp hM => ?_)
  obtain ⟨rfl, rfl, ef1⟩ : r1 = 0 ∧ n2 = 220 ∧ f1 = f := hp
  exact m_zret C hr hlk hM rfl (⟨rfl, rfl, by rw [ef1]⟩) dX13_isText_9
set_option maxHeartbeats 4000000 in
set_option maxRecDepth 100000 in
theorem a_X13_isText_1 (l : Launch) (D : va_G) (kc : Nat → ClassId) (b : Nat) (f : Nat → va_E) (a0 : Int32) (z1 : ¬ a0 < 0) (z2 : 2 < a0) : mMi l yX13_isText cX13_isText 1 .boolean 2 0 0 D kc b 220 f [.int a0] (fun r u => r = 0 ∧ u.1 = 220 ∧ u.2 = f) := by
  refine m_start (by decide) (Nat.le_of_ble_eq_true rfl) ?_
  intro p e s m below meth c C hr hlk hnm hM ls hl
  obtain ⟨hx, hb, hml, hown, hts, hE, hbs⟩ := id C
  have hl : lv_has ls 1 [(0, .int a0)] := hl
  refine lv_iload_n hx hb dX13_isText_0 rfl (lv_at hl 0 rfl) ?_
  refine lv_i2l hx hb dX13_isText_1 rfl ?_
  refine lv_lconst (v := 0) hx hb dX13_isText_2 (by decide) ?_
  refine lv_ldc2 (v := 2) hx hb hown (hts _ wd_1368) dX13_isText_3 ?_
  refine m_goi (m_runS calS_X13_in wd_1221 (k_in0 l D kc b 220 f a0.toInt64 0 2 (by revert z1 z2; rw [m_inI (a := 0) (b := 2) (by decide) (by decide)]; simp only [Int32.lt_iff_toInt_lt, Int32.le_iff_toInt_le, m_lits]; omega)) C hM hl.1 rfl rfl (Nat.le_of_ble_eq_true rfl) dX13_isText_6 ⟨Nat.le_of_ble_eq_true rfl, Nat.le_of_ble_eq_true rfl⟩ ⟨Nat.le_of_ble_eq_true rfl, Nat.le_of_ble_eq_true rfl⟩) hM (fun r1 n2 f1 H locs hp hM => ?_)
  obtain ⟨rfl, rfl, ef1⟩ : r1 = 0 ∧ n2 = 220 ∧ f1 = f := hp
  exact m_zret C hr hlk hM rfl (⟨rfl, rfl, by rw [ef1]⟩) dX13_isText_9
set_option maxHeartbeats 4000000 in
set_option maxRecDepth 100000 in
theorem a_X13_in_0 (l : Launch) (D : va_G) (kc : Nat → ClassId) (b : Nat) (f : Nat → va_E) : mMi l yX13_in cX13_in 6 .boolean 1 0 0 D kc b 220 f [.long 0, .long 0, .long 2] (fun r u => r = 1 ∧ u.1 = 220 ∧ u.2 = f) := by
  refine m_start (by decide) (Nat.le_of_ble_eq_true rfl) ?_
  intro p e s m below meth c C hr hlk hnm hM ls hl
  obtain ⟨hx, hb, hml, hown, hts, hE, hbs⟩ := id C
  have hl : lv_has ls 6 [(0, .long 0), (2, .long 0), (4, .long 2)] := hl
  refine lv_lload_n hx hb dX13_in_0 rfl (lv_at hl 0 rfl) ?_
  refine lv_lload_n hx hb dX13_in_1 rfl (lv_at hl 1 rfl) ?_
  refine W.lcmp hx hb dX13_in_2 ?_
  refine m_vi (y := 0) (by decide) ?_
  refine lv_if_lt (tgt := 17) hx hb dX13_in_3 (by decide) (fun h => absurd h (by decide)) (fun _ => ?_)
  refine lv_lload_n hx hb dX13_in_6 rfl (lv_at hl 0 rfl) ?_
  refine lv_lload hx hb dX13_in_7 (lv_at hl 2 rfl) ?_
  refine W.lcmp hx hb dX13_in_9 ?_
  refine m_vi (y := (-1)) (by decide) ?_
  refine lv_if_gt (tgt := 17) hx hb dX13_in_10 (by decide) (fun h => absurd h (by decide)) (fun _ => ?_)
  refine lv_iconst (v := 1) hx hb dX13_in_13 (by decide) ?_
  refine lv_goto (tgt := 18) hx hb dX13_in_14 (by decide) ?_
  exact m_zret C hr hlk hM rfl (⟨rfl, rfl, rfl⟩) dX13_in_18
set_option maxHeartbeats 4000000 in
set_option maxRecDepth 100000 in
theorem a_X13_isText_2 (l : Launch) (D : va_G) (kc : Nat → ClassId) (b : Nat) (f : Nat → va_E) : mMi l yX13_isText cX13_isText 1 .boolean 2 0 0 D kc b 220 f [.int 0] (fun r u => r = 1 ∧ u.1 = 220 ∧ u.2 = f) := by
  refine m_start (by decide) (Nat.le_of_ble_eq_true rfl) ?_
  intro p e s m below meth c C hr hlk hnm hM ls hl
  obtain ⟨hx, hb, hml, hown, hts, hE, hbs⟩ := id C
  have hl : lv_has ls 1 [(0, .int 0)] := hl
  refine lv_iload_n hx hb dX13_isText_0 rfl (lv_at hl 0 rfl) ?_
  refine lv_i2l (v := 0) hx hb dX13_isText_1 (by decide) ?_
  refine lv_lconst (v := 0) hx hb dX13_isText_2 (by decide) ?_
  refine lv_ldc2 (v := 2) hx hb hown (hts _ wd_1368) dX13_isText_3 ?_
  refine m_goi (m_runS calS_X13_in wd_1221 (a_X13_in_0 l D kc b f) C hM hl.1 rfl rfl (Nat.le_of_ble_eq_true rfl) dX13_isText_6 ⟨Nat.le_of_ble_eq_true rfl, Nat.le_of_ble_eq_true rfl⟩ ⟨Nat.le_of_ble_eq_true rfl, Nat.le_of_ble_eq_true rfl⟩) hM (fun r1 n2 f1 H locs hp hM => ?_)
  have hp : r1 = 1 ∧ n2 = 220 ∧ f1 = f := hp
  obtain ⟨rfl, rfl, ef1⟩ := hp
  exact m_zret C hr hlk hM rfl (⟨rfl, rfl, by rw [ef1]⟩) dX13_isText_9
set_option maxHeartbeats 4000000 in
set_option maxRecDepth 100000 in
theorem a_X13_wordsOf_0 (l : Launch) (D : va_G) (kc : Nat → ClassId) (b : Nat) (f : Nat → va_E) (h192 : f 192 = .inr (13, [.ref (b + 193), .ref (b + 194), .ref (b + 195), .int 0, .int 0, .int 0, .ref (b + 196), .ref (b + 197), .int 0, .int 0, .int 0, .int 0, .int 0, .int 0, .int 0, .int (-1), .ref (b + 198), .ref (b + 199), .ref (b + 200), .ref (b + 201), .ref (b + 202), .ref (b + 203), .ref (b + 204), .ref (b + 205), .ref (b + 206), .ref (b + 207), .ref (b + 208), .int 0, .ref (b + 209), .ref (b + 210), .ref (b + 211), .ref (b + 212), .ref (b + 213), .ref (b + 214), .ref (b + 215), .int 0, .int 0, .int 0, .int 0, .ref (b + 216), .ref (b + 217), .ref (b + 218), .ref (b + 219)])) : mMi l yX13_wordsOf cX13_wordsOf 2 .int 1 0 0 D kc b 220 f [.ref (b + 192), .int 0] (fun r u => r = 0 ∧ u.1 = 220 ∧ u.2 = f) := by
  refine m_start (by decide) (Nat.le_of_ble_eq_true rfl) ?_
  intro p e s m below meth c C hr hlk hnm hM ls hl
  obtain ⟨hx, hb, hml, hown, hts, hE, hbs⟩ := id C
  have hl : lv_has ls 2 [(0, .ref (b + 192)), (1, .int 0)] := hl
  refine lv_iload_n hx hb dX13_wordsOf_0 rfl (lv_at hl 1 rfl) ?_
  refine lv_iconst (v := 2) hx hb dX13_wordsOf_1 (by decide) ?_
  refine lv_icmp_ne (tgt := 10) hx hb dX13_wordsOf_2 (by decide) (fun _ => ?_) (fun h => absurd h (by decide))
  refine lv_iload_n hx hb dX13_wordsOf_10 rfl (lv_at hl 1 rfl) ?_
  refine lv_if_ne (tgt := 21) hx hb dX13_wordsOf_11 (by decide) (fun h => absurd (by decide) h) (fun _ => ?_)
  refine lv_aload_n hx hb dX13_wordsOf_14 rfl (lv_at hl 0 rfl) ?_
  refine m_get fl_X13_150_X13 C hM (i := 192) (by decide) h192 (v := .int 0) rfl dX13_wordsOf_15 ?_
  refine lv_goto (tgt := 37) hx hb dX13_wordsOf_18 (by decide) ?_
  exact m_iret C hr hlk hM (⟨rfl, rfl, rfl⟩) dX13_wordsOf_37
set_option maxHeartbeats 4000000 in
set_option maxRecDepth 100000 in
theorem a_X13_in_1 (l : Launch) (D : va_G) (kc : Nat → ClassId) (b : Nat) (f : Nat → va_E) : mMi l yX13_in cX13_in 6 .boolean 1 0 0 D kc b 220 f [.long 1, .long 0, .long 2] (fun r u => r = 1 ∧ u.1 = 220 ∧ u.2 = f) := by
  refine m_start (by decide) (Nat.le_of_ble_eq_true rfl) ?_
  intro p e s m below meth c C hr hlk hnm hM ls hl
  obtain ⟨hx, hb, hml, hown, hts, hE, hbs⟩ := id C
  have hl : lv_has ls 6 [(0, .long 1), (2, .long 0), (4, .long 2)] := hl
  refine lv_lload_n hx hb dX13_in_0 rfl (lv_at hl 0 rfl) ?_
  refine lv_lload_n hx hb dX13_in_1 rfl (lv_at hl 1 rfl) ?_
  refine W.lcmp hx hb dX13_in_2 ?_
  refine m_vi (y := 1) (by decide) ?_
  refine lv_if_lt (tgt := 17) hx hb dX13_in_3 (by decide) (fun h => absurd h (by decide)) (fun _ => ?_)
  refine lv_lload_n hx hb dX13_in_6 rfl (lv_at hl 0 rfl) ?_
  refine lv_lload hx hb dX13_in_7 (lv_at hl 2 rfl) ?_
  refine W.lcmp hx hb dX13_in_9 ?_
  refine m_vi (y := (-1)) (by decide) ?_
  refine lv_if_gt (tgt := 17) hx hb dX13_in_10 (by decide) (fun h => absurd h (by decide)) (fun _ => ?_)
  refine lv_iconst (v := 1) hx hb dX13_in_13 (by decide) ?_
  refine lv_goto (tgt := 18) hx hb dX13_in_14 (by decide) ?_
  exact m_zret C hr hlk hM rfl (⟨rfl, rfl, rfl⟩) dX13_in_18
set_option maxHeartbeats 4000000 in
set_option maxRecDepth 100000 in
theorem a_X13_isText_3 (l : Launch) (D : va_G) (kc : Nat → ClassId) (b : Nat) (f : Nat → va_E) : mMi l yX13_isText cX13_isText 1 .boolean 2 0 0 D kc b 220 f [.int 1] (fun r u => r = 1 ∧ u.1 = 220 ∧ u.2 = f) := by
  refine m_start (by decide) (Nat.le_of_ble_eq_true rfl) ?_
  intro p e s m below meth c C hr hlk hnm hM ls hl
  obtain ⟨hx, hb, hml, hown, hts, hE, hbs⟩ := id C
  have hl : lv_has ls 1 [(0, .int 1)] := hl
  refine lv_iload_n hx hb dX13_isText_0 rfl (lv_at hl 0 rfl) ?_
  refine lv_i2l (v := 1) hx hb dX13_isText_1 (by decide) ?_
  refine lv_lconst (v := 0) hx hb dX13_isText_2 (by decide) ?_
  refine lv_ldc2 (v := 2) hx hb hown (hts _ wd_1368) dX13_isText_3 ?_
  refine m_goi (m_runS calS_X13_in wd_1221 (a_X13_in_1 l D kc b f) C hM hl.1 rfl rfl (Nat.le_of_ble_eq_true rfl) dX13_isText_6 ⟨Nat.le_of_ble_eq_true rfl, Nat.le_of_ble_eq_true rfl⟩ ⟨Nat.le_of_ble_eq_true rfl, Nat.le_of_ble_eq_true rfl⟩) hM (fun r1 n2 f1 H locs hp hM => ?_)
  have hp : r1 = 1 ∧ n2 = 220 ∧ f1 = f := hp
  obtain ⟨rfl, rfl, ef1⟩ := hp
  exact m_zret C hr hlk hM rfl (⟨rfl, rfl, by rw [ef1]⟩) dX13_isText_9
set_option maxHeartbeats 4000000 in
set_option maxRecDepth 100000 in
theorem a_X13_wordsOf_1 (l : Launch) (D : va_G) (kc : Nat → ClassId) (b : Nat) (f : Nat → va_E) (h192 : f 192 = .inr (13, [.ref (b + 193), .ref (b + 194), .ref (b + 195), .int 0, .int 0, .int 0, .ref (b + 196), .ref (b + 197), .int 0, .int 0, .int 0, .int 0, .int 0, .int 0, .int 0, .int (-1), .ref (b + 198), .ref (b + 199), .ref (b + 200), .ref (b + 201), .ref (b + 202), .ref (b + 203), .ref (b + 204), .ref (b + 205), .ref (b + 206), .ref (b + 207), .ref (b + 208), .int 0, .ref (b + 209), .ref (b + 210), .ref (b + 211), .ref (b + 212), .ref (b + 213), .ref (b + 214), .ref (b + 215), .int 0, .int 0, .int 0, .int 0, .ref (b + 216), .ref (b + 217), .ref (b + 218), .ref (b + 219)])) : mMi l yX13_wordsOf cX13_wordsOf 2 .int 1 0 0 D kc b 220 f [.ref (b + 192), .int 1] (fun r u => r = 0 ∧ u.1 = 220 ∧ u.2 = f) := by
  refine m_start (by decide) (Nat.le_of_ble_eq_true rfl) ?_
  intro p e s m below meth c C hr hlk hnm hM ls hl
  obtain ⟨hx, hb, hml, hown, hts, hE, hbs⟩ := id C
  have hl : lv_has ls 2 [(0, .ref (b + 192)), (1, .int 1)] := hl
  refine lv_iload_n hx hb dX13_wordsOf_0 rfl (lv_at hl 1 rfl) ?_
  refine lv_iconst (v := 2) hx hb dX13_wordsOf_1 (by decide) ?_
  refine lv_icmp_ne (tgt := 10) hx hb dX13_wordsOf_2 (by decide) (fun _ => ?_) (fun h => absurd h (by decide))
  refine lv_iload_n hx hb dX13_wordsOf_10 rfl (lv_at hl 1 rfl) ?_
  refine lv_if_ne (tgt := 21) hx hb dX13_wordsOf_11 (by decide) (fun _ => ?_) (fun h => absurd h (by decide))
  refine lv_iload_n hx hb dX13_wordsOf_21 rfl (lv_at hl 1 rfl) ?_
  refine lv_iconst (v := 1) hx hb dX13_wordsOf_22 (by decide) ?_
  refine lv_icmp_ne (tgt := 33) hx hb dX13_wordsOf_23 (by decide) (fun h => absurd (by decide) h) (fun _ => ?_)
  refine lv_aload_n hx hb dX13_wordsOf_26 rfl (lv_at hl 0 rfl) ?_
  refine m_get fl_X13_156_X13 C hM (i := 192) (by decide) h192 (v := .int 0) rfl dX13_wordsOf_27 ?_
  refine lv_goto (tgt := 37) hx hb dX13_wordsOf_30 (by decide) ?_
  exact m_iret C hr hlk hM (⟨rfl, rfl, rfl⟩) dX13_wordsOf_37
set_option maxHeartbeats 4000000 in
set_option maxRecDepth 100000 in
theorem a_X13_in_2 (l : Launch) (D : va_G) (kc : Nat → ClassId) (b : Nat) (f : Nat → va_E) : mMi l yX13_in cX13_in 6 .boolean 1 0 0 D kc b 220 f [.long 2, .long 0, .long 2] (fun r u => r = 1 ∧ u.1 = 220 ∧ u.2 = f) := by
  refine m_start (by decide) (Nat.le_of_ble_eq_true rfl) ?_
  intro p e s m below meth c C hr hlk hnm hM ls hl
  obtain ⟨hx, hb, hml, hown, hts, hE, hbs⟩ := id C
  have hl : lv_has ls 6 [(0, .long 2), (2, .long 0), (4, .long 2)] := hl
  refine lv_lload_n hx hb dX13_in_0 rfl (lv_at hl 0 rfl) ?_
  refine lv_lload_n hx hb dX13_in_1 rfl (lv_at hl 1 rfl) ?_
  refine W.lcmp hx hb dX13_in_2 ?_
  refine m_vi (y := 1) (by decide) ?_
  refine lv_if_lt (tgt := 17) hx hb dX13_in_3 (by decide) (fun h => absurd h (by decide)) (fun _ => ?_)
  refine lv_lload_n hx hb dX13_in_6 rfl (lv_at hl 0 rfl) ?_
  refine lv_lload hx hb dX13_in_7 (lv_at hl 2 rfl) ?_
  refine W.lcmp hx hb dX13_in_9 ?_
  refine m_vi (y := 0) (by decide) ?_
  refine lv_if_gt (tgt := 17) hx hb dX13_in_10 (by decide) (fun h => absurd h (by decide)) (fun _ => ?_)
  refine lv_iconst (v := 1) hx hb dX13_in_13 (by decide) ?_
  refine lv_goto (tgt := 18) hx hb dX13_in_14 (by decide) ?_
  exact m_zret C hr hlk hM rfl (⟨rfl, rfl, rfl⟩) dX13_in_18
set_option maxHeartbeats 4000000 in
set_option maxRecDepth 100000 in
theorem a_X13_isText_4 (l : Launch) (D : va_G) (kc : Nat → ClassId) (b : Nat) (f : Nat → va_E) : mMi l yX13_isText cX13_isText 1 .boolean 2 0 0 D kc b 220 f [.int 2] (fun r u => r = 1 ∧ u.1 = 220 ∧ u.2 = f) := by
  refine m_start (by decide) (Nat.le_of_ble_eq_true rfl) ?_
  intro p e s m below meth c C hr hlk hnm hM ls hl
  obtain ⟨hx, hb, hml, hown, hts, hE, hbs⟩ := id C
  have hl : lv_has ls 1 [(0, .int 2)] := hl
  refine lv_iload_n hx hb dX13_isText_0 rfl (lv_at hl 0 rfl) ?_
  refine lv_i2l (v := 2) hx hb dX13_isText_1 (by decide) ?_
  refine lv_lconst (v := 0) hx hb dX13_isText_2 (by decide) ?_
  refine lv_ldc2 (v := 2) hx hb hown (hts _ wd_1368) dX13_isText_3 ?_
  refine m_goi (m_runS calS_X13_in wd_1221 (a_X13_in_2 l D kc b f) C hM hl.1 rfl rfl (Nat.le_of_ble_eq_true rfl) dX13_isText_6 ⟨Nat.le_of_ble_eq_true rfl, Nat.le_of_ble_eq_true rfl⟩ ⟨Nat.le_of_ble_eq_true rfl, Nat.le_of_ble_eq_true rfl⟩) hM (fun r1 n2 f1 H locs hp hM => ?_)
  have hp : r1 = 1 ∧ n2 = 220 ∧ f1 = f := hp
  obtain ⟨rfl, rfl, ef1⟩ := hp
  exact m_zret C hr hlk hM rfl (⟨rfl, rfl, by rw [ef1]⟩) dX13_isText_9
