set_option maxHeartbeats 4000000 in
set_option maxRecDepth 100000 in
theorem a_X13_apart_7 (l : Launch) (D : va_G) (kc : Nat → ClassId) (b : Nat) (f : Nat → va_E) (h192 : f 192 = .inr (13, [.ref (b + 193), .ref (b + 194), .ref (b + 195), .int 0, .int 0, .int 0, .ref (b + 196), .ref (b + 197), .int 0, .int 0, .int 0, .int 0, .int 0, .int 0, .int 0, .int (-1), .ref (b + 198), .ref (b + 199), .ref (b + 200), .ref (b + 201), .ref (b + 202), .ref (b + 203), .ref (b + 204), .ref (b + 205), .ref (b + 206), .ref (b + 207), .ref (b + 208), .int 0, .ref (b + 209), .ref (b + 210), .ref (b + 211), .ref (b + 212), .ref (b + 213), .ref (b + 214), .ref (b + 215), .int 0, .int 0, .int 0, .int 0, .ref (b + 216), .ref (b + 217), .ref (b + 218), .ref (b + 219)])) (h215 : f 215 = .inl (kc 1, 103041, .inl (fun _ => 0))) : mMi l yX13_apart cX13_apart 8 .int 2 0 0 D kc b 220 f [.ref (b + 192), .int 1, .int 0, .int 2, .int 0] (fun r u => r = 0 ∧ u.1 = 220 ∧ u.2 = va_up f 215 (.inl (kc 1, 103041, .inl (upd (fun _ => 0) 0 0)))) := by
  refine m_start (by decide) (Nat.le_of_ble_eq_true rfl) ?_
  intro p e s m below meth c C hr hlk hnm hM ls hl
  obtain ⟨hx, hb, hml, hown, hts, hE, hbs⟩ := id C
  have hl : lv_has ls 8 [(0, .ref (b + 192)), (1, .int 1), (2, .int 0), (3, .int 2), (4, .int 0)] := hl
  refine lv_iload_n hx hb dX13_apart_0 rfl (lv_at hl 2 rfl) ?_
  refine lv_istore (lv' := [(5, .int 0), (0, .ref (b + 192)), (1, .int 1), (2, .int 0), (3, .int 2), (4, .int 0)]) hx hb dX13_apart_1 hl (by decide) rfl (fun ls hl => ?_)
  refine lv_iload hx hb dX13_apart_3 (lv_at hl 0 rfl) ?_
  refine lv_if_lt (tgt := 166) hx hb dX13_apart_5 (by decide) (fun h => absurd h (by decide)) (fun _ => ?_)
  refine lv_iload hx hb dX13_apart_8 (lv_at hl 5 rfl) ?_
  refine lv_istore (lv' := [(6, .int 0), (5, .int 0), (0, .ref (b + 192)), (1, .int 1), (2, .int 0), (3, .int 2), (4, .int 0)]) hx hb dX13_apart_10 hl (by decide) rfl (fun ls hl => ?_)
  refine lv_iload hx hb dX13_apart_12 (lv_at hl 0 rfl) ?_
  refine lv_if_lt (tgt := 160) hx hb dX13_apart_14 (by decide) (fun h => absurd h (by decide)) (fun _ => ?_)
  refine lv_iload hx hb dX13_apart_17 (lv_at hl 1 rfl) ?_
  refine lv_iload_n hx hb dX13_apart_19 rfl (lv_at hl 4 rfl) ?_
  refine lv_icmp_ne (tgt := 31) hx hb dX13_apart_20 (by decide) (fun h => absurd (by decide) h) (fun _ => ?_)
  refine lv_iload hx hb dX13_apart_23 (lv_at hl 6 rfl) ?_
  refine lv_iload hx hb dX13_apart_25 (lv_at hl 0 rfl) ?_
  refine lv_isub hx hb dX13_apart_27 ?_
  refine m_vi (y := 0) (by decide) ?_
  refine lv_goto (tgt := 85) hx hb dX13_apart_28 (by decide) ?_
  refine lv_istore (lv' := [(7, .int 0), (6, .int 0), (5, .int 0), (0, .ref (b + 192)), (1, .int 1), (2, .int 0), (3, .int 2), (4, .int 0)]) hx hb dX13_apart_85 hl (by decide) rfl (fun ls hl => ?_)
  refine lv_iload hx hb dX13_apart_87 (lv_at hl 2 rfl) ?_
  refine lv_iload_n hx hb dX13_apart_89 rfl (lv_at hl 5 rfl) ?_
  refine lv_icmp_ge (tgt := 140) hx hb dX13_apart_90 (by decide) (fun _ => ?_) (fun h => absurd (by decide) h)
  refine lv_aload_n hx hb dX13_apart_140 rfl (lv_at hl 3 rfl) ?_
  refine m_get fl_X13_121_X13 C hM (i := 192) (by decide) h192 (v := .ref (b + 215)) rfl dX13_apart_141 ?_
  refine lv_iload hx hb dX13_apart_144 (lv_at hl 2 rfl) ?_
  refine lv_iload hx hb dX13_apart_146 (lv_at hl 1 rfl) ?_
  refine m_goi (m_runS calS_X13_at wd_1432 (a_X13_at_0 l D kc b f) C hM hl.1 rfl rfl (Nat.le_of_ble_eq_true rfl) dX13_apart_148 ⟨Nat.le_of_ble_eq_true rfl, Nat.le_of_ble_eq_true rfl⟩ ⟨Nat.le_of_ble_eq_true rfl, Nat.le_of_ble_eq_true rfl⟩) hM (fun r1 n2 f1 H locs hp hM => ?_)
  have hp : r1 = 0 ∧ n2 = 220 ∧ f1 = f := hp
  obtain ⟨rfl, rfl, ef1⟩ := hp
  refine lv_iload hx hb dX13_apart_151 (lv_at hl 0 rfl) ?_
  have h215_1 : f1 215 = .inl (kc 1, 103041, .inl (fun _ => 0)) := m_sm ef1 h215
  refine m_iast C hM (j := 215) (by decide) h215_1 (m_in (by decide)) dX13_apart_153 (fun H locs f2 ef2 hM => ?_)
  have ef2 : f2 = va_up f1 215 (.inl (kc 1, 103041, .inl (upd (fun _ => 0) 0 0))) := ef2
  refine lv_iinc (v := (-1)) (lv' := [(6, .int (-1)), (7, .int 0), (5, .int 0), (0, .ref (b + 192)), (1, .int 1), (2, .int 0), (3, .int 2), (4, .int 0)]) hx hb dX13_apart_154 hl (k := 1) rfl (by decide) (by decide) rfl (fun ls hl => ?_)
  refine lv_goto (tgt := 12) hx hb dX13_apart_157 (by decide) ?_
  refine lv_iload hx hb dX13_apart_12 (lv_at hl 0 rfl) ?_
  refine lv_if_lt (tgt := 160) hx hb dX13_apart_14 (by decide) (fun _ => ?_) (fun h => absurd (by decide) h)
  refine lv_iinc (v := (-1)) (lv' := [(5, .int (-1)), (6, .int (-1)), (7, .int 0), (0, .ref (b + 192)), (1, .int 1), (2, .int 0), (3, .int 2), (4, .int 0)]) hx hb dX13_apart_160 hl (k := 2) rfl (by decide) (by decide) rfl (fun ls hl => ?_)
  refine lv_goto (tgt := 3) hx hb dX13_apart_163 (by decide) ?_
  refine lv_iload hx hb dX13_apart_3 (lv_at hl 0 rfl) ?_
  refine lv_if_lt (tgt := 166) hx hb dX13_apart_5 (by decide) (fun _ => ?_) (fun h => absurd (by decide) h)
  refine lv_aload_n hx hb dX13_apart_166 rfl (lv_at hl 3 rfl) ?_
  have h192_1 : f1 192 = .inr (13, [.ref (b + 193), .ref (b + 194), .ref (b + 195), .int 0, .int 0, .int 0, .ref (b + 196), .ref (b + 197), .int 0, .int 0, .int 0, .int 0, .int 0, .int 0, .int 0, .int (-1), .ref (b + 198), .ref (b + 199), .ref (b + 200), .ref (b + 201), .ref (b + 202), .ref (b + 203), .ref (b + 204), .ref (b + 205), .ref (b + 206), .ref (b + 207), .ref (b + 208), .int 0, .ref (b + 209), .ref (b + 210), .ref (b + 211), .ref (b + 212), .ref (b + 213), .ref (b + 214), .ref (b + 215), .int 0, .int 0, .int 0, .int 0, .ref (b + 216), .ref (b + 217), .ref (b + 218), .ref (b + 219)]) := m_sm ef1 h192
  have h192_2 : f2 192 = .inr (13, [.ref (b + 193), .ref (b + 194), .ref (b + 195), .int 0, .int 0, .int 0, .ref (b + 196), .ref (b + 197), .int 0, .int 0, .int 0, .int 0, .int 0, .int 0, .int 0, .int (-1), .ref (b + 198), .ref (b + 199), .ref (b + 200), .ref (b + 201), .ref (b + 202), .ref (b + 203), .ref (b + 204), .ref (b + 205), .ref (b + 206), .ref (b + 207), .ref (b + 208), .int 0, .ref (b + 209), .ref (b + 210), .ref (b + 211), .ref (b + 212), .ref (b + 213), .ref (b + 214), .ref (b + 215), .int 0, .int 0, .int 0, .int 0, .ref (b + 216), .ref (b + 217), .ref (b + 218), .ref (b + 219)]) := m_ne ef2 h192_1 (by decide)
  refine m_get fl_X13_121_X13 C hM (i := 192) (by decide) h192_2 (v := .ref (b + 215)) rfl dX13_apart_167 ?_
  refine lv_iconst (v := 0) hx hb dX13_apart_170 (by decide) ?_
  have h215_2 : f2 215 = .inl (kc 1, 103041, .inl (upd (fun _ => 0) 0 0)) := m_eq ef2
  refine m_iald C hM (j := 215) (by decide) h215_2 (m_in (by decide)) dX13_apart_171 ?_
  refine m_vi (y := 0) (by decide) ?_
  exact m_iret C hr hlk hM (⟨rfl, rfl, by rw [ef2, ef1]⟩) dX13_apart_172
set_option maxHeartbeats 4000000 in
set_option maxRecDepth 100000 in
theorem a_X13_apart_8 (l : Launch) (D : va_G) (kc : Nat → ClassId) (b : Nat) (f : Nat → va_E) (h192 : f 192 = .inr (13, [.ref (b + 193), .ref (b + 194), .ref (b + 195), .int 0, .int 0, .int 0, .ref (b + 196), .ref (b + 197), .int 0, .int 0, .int 0, .int 0, .int 0, .int 0, .int 0, .int (-1), .ref (b + 198), .ref (b + 199), .ref (b + 200), .ref (b + 201), .ref (b + 202), .ref (b + 203), .ref (b + 204), .ref (b + 205), .ref (b + 206), .ref (b + 207), .ref (b + 208), .int 0, .ref (b + 209), .ref (b + 210), .ref (b + 211), .ref (b + 212), .ref (b + 213), .ref (b + 214), .ref (b + 215), .int 0, .int 0, .int 0, .int 0, .ref (b + 216), .ref (b + 217), .ref (b + 218), .ref (b + 219)])) (h215 : f 215 = .inl (kc 1, 103041, .inl (fun _ => 0))) : mMi l yX13_apart cX13_apart 8 .int 2 0 0 D kc b 220 f [.ref (b + 192), .int 2, .int 0, .int 0, .int 0] (fun r u => r = 0 ∧ u.1 = 220 ∧ u.2 = va_up f 215 (.inl (kc 1, 103041, .inl (upd (fun _ => 0) 0 0)))) := by
  refine m_start (by decide) (Nat.le_of_ble_eq_true rfl) ?_
  intro p e s m below meth c C hr hlk hnm hM ls hl
  obtain ⟨hx, hb, hml, hown, hts, hE, hbs⟩ := id C
  have hl : lv_has ls 8 [(0, .ref (b + 192)), (1, .int 2), (2, .int 0), (3, .int 0), (4, .int 0)] := hl
  refine lv_iload_n hx hb dX13_apart_0 rfl (lv_at hl 2 rfl) ?_
  refine lv_istore (lv' := [(5, .int 0), (0, .ref (b + 192)), (1, .int 2), (2, .int 0), (3, .int 0), (4, .int 0)]) hx hb dX13_apart_1 hl (by decide) rfl (fun ls hl => ?_)
  refine lv_iload hx hb dX13_apart_3 (lv_at hl 0 rfl) ?_
  refine lv_if_lt (tgt := 166) hx hb dX13_apart_5 (by decide) (fun h => absurd h (by decide)) (fun _ => ?_)
  refine lv_iload hx hb dX13_apart_8 (lv_at hl 5 rfl) ?_
  refine lv_istore (lv' := [(6, .int 0), (5, .int 0), (0, .ref (b + 192)), (1, .int 2), (2, .int 0), (3, .int 0), (4, .int 0)]) hx hb dX13_apart_10 hl (by decide) rfl (fun ls hl => ?_)
  refine lv_iload hx hb dX13_apart_12 (lv_at hl 0 rfl) ?_
  refine lv_if_lt (tgt := 160) hx hb dX13_apart_14 (by decide) (fun h => absurd h (by decide)) (fun _ => ?_)
  refine lv_iload hx hb dX13_apart_17 (lv_at hl 1 rfl) ?_
  refine lv_iload_n hx hb dX13_apart_19 rfl (lv_at hl 4 rfl) ?_
  refine lv_icmp_ne (tgt := 31) hx hb dX13_apart_20 (by decide) (fun h => absurd (by decide) h) (fun _ => ?_)
  refine lv_iload hx hb dX13_apart_23 (lv_at hl 6 rfl) ?_
  refine lv_iload hx hb dX13_apart_25 (lv_at hl 0 rfl) ?_
  refine lv_isub hx hb dX13_apart_27 ?_
  refine m_vi (y := 0) (by decide) ?_
  refine lv_goto (tgt := 85) hx hb dX13_apart_28 (by decide) ?_
  refine lv_istore (lv' := [(7, .int 0), (6, .int 0), (5, .int 0), (0, .ref (b + 192)), (1, .int 2), (2, .int 0), (3, .int 0), (4, .int 0)]) hx hb dX13_apart_85 hl (by decide) rfl (fun ls hl => ?_)
  refine lv_iload hx hb dX13_apart_87 (lv_at hl 2 rfl) ?_
  refine lv_iload_n hx hb dX13_apart_89 rfl (lv_at hl 5 rfl) ?_
  refine lv_icmp_ge (tgt := 140) hx hb dX13_apart_90 (by decide) (fun _ => ?_) (fun h => absurd (by decide) h)
  refine lv_aload_n hx hb dX13_apart_140 rfl (lv_at hl 3 rfl) ?_
  refine m_get fl_X13_121_X13 C hM (i := 192) (by decide) h192 (v := .ref (b + 215)) rfl dX13_apart_141 ?_
  refine lv_iload hx hb dX13_apart_144 (lv_at hl 2 rfl) ?_
  refine lv_iload hx hb dX13_apart_146 (lv_at hl 1 rfl) ?_
  refine m_goi (m_runS calS_X13_at wd_1432 (a_X13_at_0 l D kc b f) C hM hl.1 rfl rfl (Nat.le_of_ble_eq_true rfl) dX13_apart_148 ⟨Nat.le_of_ble_eq_true rfl, Nat.le_of_ble_eq_true rfl⟩ ⟨Nat.le_of_ble_eq_true rfl, Nat.le_of_ble_eq_true rfl⟩) hM (fun r1 n2 f1 H locs hp hM => ?_)
  have hp : r1 = 0 ∧ n2 = 220 ∧ f1 = f := hp
  obtain ⟨rfl, rfl, ef1⟩ := hp
  refine lv_iload hx hb dX13_apart_151 (lv_at hl 0 rfl) ?_
  have h215_1 : f1 215 = .inl (kc 1, 103041, .inl (fun _ => 0)) := m_sm ef1 h215
  refine m_iast C hM (j := 215) (by decide) h215_1 (m_in (by decide)) dX13_apart_153 (fun H locs f2 ef2 hM => ?_)
  have ef2 : f2 = va_up f1 215 (.inl (kc 1, 103041, .inl (upd (fun _ => 0) 0 0))) := ef2
  refine lv_iinc (v := (-1)) (lv' := [(6, .int (-1)), (7, .int 0), (5, .int 0), (0, .ref (b + 192)), (1, .int 2), (2, .int 0), (3, .int 0), (4, .int 0)]) hx hb dX13_apart_154 hl (k := 1) rfl (by decide) (by decide) rfl (fun ls hl => ?_)
  refine lv_goto (tgt := 12) hx hb dX13_apart_157 (by decide) ?_
  refine lv_iload hx hb dX13_apart_12 (lv_at hl 0 rfl) ?_
  refine lv_if_lt (tgt := 160) hx hb dX13_apart_14 (by decide) (fun _ => ?_) (fun h => absurd (by decide) h)
  refine lv_iinc (v := (-1)) (lv' := [(5, .int (-1)), (6, .int (-1)), (7, .int 0), (0, .ref (b + 192)), (1, .int 2), (2, .int 0), (3, .int 0), (4, .int 0)]) hx hb dX13_apart_160 hl (k := 2) rfl (by decide) (by decide) rfl (fun ls hl => ?_)
  refine lv_goto (tgt := 3) hx hb dX13_apart_163 (by decide) ?_
  refine lv_iload hx hb dX13_apart_3 (lv_at hl 0 rfl) ?_
  refine lv_if_lt (tgt := 166) hx hb dX13_apart_5 (by decide) (fun _ => ?_) (fun h => absurd (by decide) h)
  refine lv_aload_n hx hb dX13_apart_166 rfl (lv_at hl 3 rfl) ?_
  have h192_1 : f1 192 = .inr (13, [.ref (b + 193), .ref (b + 194), .ref (b + 195), .int 0, .int 0, .int 0, .ref (b + 196), .ref (b + 197), .int 0, .int 0, .int 0, .int 0, .int 0, .int 0, .int 0, .int (-1), .ref (b + 198), .ref (b + 199), .ref (b + 200), .ref (b + 201), .ref (b + 202), .ref (b + 203), .ref (b + 204), .ref (b + 205), .ref (b + 206), .ref (b + 207), .ref (b + 208), .int 0, .ref (b + 209), .ref (b + 210), .ref (b + 211), .ref (b + 212), .ref (b + 213), .ref (b + 214), .ref (b + 215), .int 0, .int 0, .int 0, .int 0, .ref (b + 216), .ref (b + 217), .ref (b + 218), .ref (b + 219)]) := m_sm ef1 h192
  have h192_2 : f2 192 = .inr (13, [.ref (b + 193), .ref (b + 194), .ref (b + 195), .int 0, .int 0, .int 0, .ref (b + 196), .ref (b + 197), .int 0, .int 0, .int 0, .int 0, .int 0, .int 0, .int 0, .int (-1), .ref (b + 198), .ref (b + 199), .ref (b + 200), .ref (b + 201), .ref (b + 202), .ref (b + 203), .ref (b + 204), .ref (b + 205), .ref (b + 206), .ref (b + 207), .ref (b + 208), .int 0, .ref (b + 209), .ref (b + 210), .ref (b + 211), .ref (b + 212), .ref (b + 213), .ref (b + 214), .ref (b + 215), .int 0, .int 0, .int 0, .int 0, .ref (b + 216), .ref (b + 217), .ref (b + 218), .ref (b + 219)]) := m_ne ef2 h192_1 (by decide)
  refine m_get fl_X13_121_X13 C hM (i := 192) (by decide) h192_2 (v := .ref (b + 215)) rfl dX13_apart_167 ?_
  refine lv_iconst (v := 0) hx hb dX13_apart_170 (by decide) ?_
  have h215_2 : f2 215 = .inl (kc 1, 103041, .inl (upd (fun _ => 0) 0 0)) := m_eq ef2
  refine m_iald C hM (j := 215) (by decide) h215_2 (m_in (by decide)) dX13_apart_171 ?_
  refine m_vi (y := 0) (by decide) ?_
  exact m_iret C hr hlk hM (⟨rfl, rfl, by rw [ef2, ef1]⟩) dX13_apart_172
set_option maxHeartbeats 4000000 in
set_option maxRecDepth 100000 in
theorem a_X13_apart_9 (l : Launch) (D : va_G) (kc : Nat → ClassId) (b : Nat) (f : Nat → va_E) (h192 : f 192 = .inr (13, [.ref (b + 193), .ref (b + 194), .ref (b + 195), .int 0, .int 0, .int 0, .ref (b + 196), .ref (b + 197), .int 0, .int 0, .int 0, .int 0, .int 0, .int 0, .int 0, .int (-1), .ref (b + 198), .ref (b + 199), .ref (b + 200), .ref (b + 201), .ref (b + 202), .ref (b + 203), .ref (b + 204), .ref (b + 205), .ref (b + 206), .ref (b + 207), .ref (b + 208), .int 0, .ref (b + 209), .ref (b + 210), .ref (b + 211), .ref (b + 212), .ref (b + 213), .ref (b + 214), .ref (b + 215), .int 0, .int 0, .int 0, .int 0, .ref (b + 216), .ref (b + 217), .ref (b + 218), .ref (b + 219)])) (h215 : f 215 = .inl (kc 1, 103041, .inl (fun _ => 0))) : mMi l yX13_apart cX13_apart 8 .int 2 0 0 D kc b 220 f [.ref (b + 192), .int 2, .int 0, .int 2, .int 0] (fun r u => r = 0 ∧ u.1 = 220 ∧ u.2 = va_up f 215 (.inl (kc 1, 103041, .inl (upd (fun _ => 0) 0 0)))) := by
  refine m_start (by decide) (Nat.le_of_ble_eq_true rfl) ?_
  intro p e s m below meth c C hr hlk hnm hM ls hl
  obtain ⟨hx, hb, hml, hown, hts, hE, hbs⟩ := id C
  have hl : lv_has ls 8 [(0, .ref (b + 192)), (1, .int 2), (2, .int 0), (3, .int 2), (4, .int 0)] := hl
  refine lv_iload_n hx hb dX13_apart_0 rfl (lv_at hl 2 rfl) ?_
  refine lv_istore (lv' := [(5, .int 0), (0, .ref (b + 192)), (1, .int 2), (2, .int 0), (3, .int 2), (4, .int 0)]) hx hb dX13_apart_1 hl (by decide) rfl (fun ls hl => ?_)
  refine lv_iload hx hb dX13_apart_3 (lv_at hl 0 rfl) ?_
  refine lv_if_lt (tgt := 166) hx hb dX13_apart_5 (by decide) (fun h => absurd h (by decide)) (fun _ => ?_)
  refine lv_iload hx hb dX13_apart_8 (lv_at hl 5 rfl) ?_
  refine lv_istore (lv' := [(6, .int 0), (5, .int 0), (0, .ref (b + 192)), (1, .int 2), (2, .int 0), (3, .int 2), (4, .int 0)]) hx hb dX13_apart_10 hl (by decide) rfl (fun ls hl => ?_)
  refine lv_iload hx hb dX13_apart_12 (lv_at hl 0 rfl) ?_
  refine lv_if_lt (tgt := 160) hx hb dX13_apart_14 (by decide) (fun h => absurd h (by decide)) (fun _ => ?_)
  refine lv_iload hx hb dX13_apart_17 (lv_at hl 1 rfl) ?_
  refine lv_iload_n hx hb dX13_apart_19 rfl (lv_at hl 4 rfl) ?_
  refine lv_icmp_ne (tgt := 31) hx hb dX13_apart_20 (by decide) (fun h => absurd (by decide) h) (fun _ => ?_)
  refine lv_iload hx hb dX13_apart_23 (lv_at hl 6 rfl) ?_
  refine lv_iload hx hb dX13_apart_25 (lv_at hl 0 rfl) ?_
  refine lv_isub hx hb dX13_apart_27 ?_
  refine m_vi (y := 0) (by decide) ?_
  refine lv_goto (tgt := 85) hx hb dX13_apart_28 (by decide) ?_
  refine lv_istore (lv' := [(7, .int 0), (6, .int 0), (5, .int 0), (0, .ref (b + 192)), (1, .int 2), (2, .int 0), (3, .int 2), (4, .int 0)]) hx hb dX13_apart_85 hl (by decide) rfl (fun ls hl => ?_)
  refine lv_iload hx hb dX13_apart_87 (lv_at hl 2 rfl) ?_
  refine lv_iload_n hx hb dX13_apart_89 rfl (lv_at hl 5 rfl) ?_
  refine lv_icmp_ge (tgt := 140) hx hb dX13_apart_90 (by decide) (fun _ => ?_) (fun h => absurd (by decide) h)
  refine lv_aload_n hx hb dX13_apart_140 rfl (lv_at hl 3 rfl) ?_
  refine m_get fl_X13_121_X13 C hM (i := 192) (by decide) h192 (v := .ref (b + 215)) rfl dX13_apart_141 ?_
  refine lv_iload hx hb dX13_apart_144 (lv_at hl 2 rfl) ?_
  refine lv_iload hx hb dX13_apart_146 (lv_at hl 1 rfl) ?_
  refine m_goi (m_runS calS_X13_at wd_1432 (a_X13_at_0 l D kc b f) C hM hl.1 rfl rfl (Nat.le_of_ble_eq_true rfl) dX13_apart_148 ⟨Nat.le_of_ble_eq_true rfl, Nat.le_of_ble_eq_true rfl⟩ ⟨Nat.le_of_ble_eq_true rfl, Nat.le_of_ble_eq_true rfl⟩) hM (fun r1 n2 f1 H locs hp hM => ?_)
  have hp : r1 = 0 ∧ n2 = 220 ∧ f1 = f := hp
  obtain ⟨rfl, rfl, ef1⟩ := hp
  refine lv_iload hx hb dX13_apart_151 (lv_at hl 0 rfl) ?_
  have h215_1 : f1 215 = .inl (kc 1, 103041, .inl (fun _ => 0)) := m_sm ef1 h215
  refine m_iast C hM (j := 215) (by decide) h215_1 (m_in (by decide)) dX13_apart_153 (fun H locs f2 ef2 hM => ?_)
  have ef2 : f2 = va_up f1 215 (.inl (kc 1, 103041, .inl (upd (fun _ => 0) 0 0))) := ef2
  refine lv_iinc (v := (-1)) (lv' := [(6, .int (-1)), (7, .int 0), (5, .int 0), (0, .ref (b + 192)), (1, .int 2), (2, .int 0), (3, .int 2), (4, .int 0)]) hx hb dX13_apart_154 hl (k := 1) rfl (by decide) (by decide) rfl (fun ls hl => ?_)
  refine lv_goto (tgt := 12) hx hb dX13_apart_157 (by decide) ?_
  refine lv_iload hx hb dX13_apart_12 (lv_at hl 0 rfl) ?_
  refine lv_if_lt (tgt := 160) hx hb dX13_apart_14 (by decide) (fun _ => ?_) (fun h => absurd (by decide) h)
  refine lv_iinc (v := (-1)) (lv' := [(5, .int (-1)), (6, .int (-1)), (7, .int 0), (0, .ref (b + 192)), (1, .int 2), (2, .int 0), (3, .int 2), (4, .int 0)]) hx hb dX13_apart_160 hl (k := 2) rfl (by decide) (by decide) rfl (fun ls hl => ?_)
  refine lv_goto (tgt := 3) hx hb dX13_apart_163 (by decide) ?_
  refine lv_iload hx hb dX13_apart_3 (lv_at hl 0 rfl) ?_
  refine lv_if_lt (tgt := 166) hx hb dX13_apart_5 (by decide) (fun _ => ?_) (fun h => absurd (by decide) h)
  refine lv_aload_n hx hb dX13_apart_166 rfl (lv_at hl 3 rfl) ?_
  have h192_1 : f1 192 = .inr (13, [.ref (b + 193), .ref (b + 194), .ref (b + 195), .int 0, .int 0, .int 0, .ref (b + 196), .ref (b + 197), .int 0, .int 0, .int 0, .int 0, .int 0, .int 0, .int 0, .int (-1), .ref (b + 198), .ref (b + 199), .ref (b + 200), .ref (b + 201), .ref (b + 202), .ref (b + 203), .ref (b + 204), .ref (b + 205), .ref (b + 206), .ref (b + 207), .ref (b + 208), .int 0, .ref (b + 209), .ref (b + 210), .ref (b + 211), .ref (b + 212), .ref (b + 213), .ref (b + 214), .ref (b + 215), .int 0, .int 0, .int 0, .int 0, .ref (b + 216), .ref (b + 217), .ref (b + 218), .ref (b + 219)]) := m_sm ef1 h192
  have h192_2 : f2 192 = .inr (13, [.ref (b + 193), .ref (b + 194), .ref (b + 195), .int 0, .int 0, .int 0, .ref (b + 196), .ref (b + 197), .int 0, .int 0, .int 0, .int 0, .int 0, .int 0, .int 0, .int (-1), .ref (b + 198), .ref (b + 199), .ref (b + 200), .ref (b + 201), .ref (b + 202), .ref (b + 203), .ref (b + 204), .ref (b + 205), .ref (b + 206), .ref (b + 207), .ref (b + 208), .int 0, .ref (b + 209), .ref (b + 210), .ref (b + 211), .ref (b + 212), .ref (b + 213), .ref (b + 214), .ref (b + 215), .int 0, .int 0, .int 0, .int 0, .ref (b + 216), .ref (b + 217), .ref (b + 218), .ref (b + 219)]) := m_ne ef2 h192_1 (by decide)
  refine m_get fl_X13_121_X13 C hM (i := 192) (by decide) h192_2 (v := .ref (b + 215)) rfl dX13_apart_167 ?_
  refine lv_iconst (v := 0) hx hb dX13_apart_170 (by decide) ?_
  have h215_2 : f2 215 = .inl (kc 1, 103041, .inl (upd (fun _ => 0) 0 0)) := m_eq ef2
  refine m_iald C hM (j := 215) (by decide) h215_2 (m_in (by decide)) dX13_apart_171 ?_
  refine m_vi (y := 0) (by decide) ?_
  exact m_iret C hr hlk hM (⟨rfl, rfl, by rw [ef2, ef1]⟩) dX13_apart_172
set_option maxHeartbeats 4000000 in
set_option maxRecDepth 100000 in
theorem k_m_distance (l : Launch) (D : va_G) (kc : Nat → ClassId) (b : Nat) (f : Nat → va_E) (a0 : Int32) (a1 : Int32) (h192 : f 192 = .inr (13, [.ref (b + 193), .ref (b + 194), .ref (b + 195), .int 0, .int 0, .int 0, .ref (b + 196), .ref (b + 197), .int 0, .int 0, .int 0, .int 0, .int 0, .int 0, .int 0, .int (-1), .ref (b + 198), .ref (b + 199), .ref (b + 200), .ref (b + 201), .ref (b + 202), .ref (b + 203), .ref (b + 204), .ref (b + 205), .ref (b + 206), .ref (b + 207), .ref (b + 208), .int 0, .ref (b + 209), .ref (b + 210), .ref (b + 211), .ref (b + 212), .ref (b + 213), .ref (b + 214), .ref (b + 215), .int 0, .int 0, .int 0, .int 0, .ref (b + 216), .ref (b + 217), .ref (b + 218), .ref (b + 219)])) (h215 : f 215 = .inl (kc 1, 103041, .inl (fun _ => 0))) : mMi l yX13_distance cX13_distance 5 .int 5 0 0 D kc b 220 f [.ref (b + 192), .int a0, .int a1] (fun r u => r = p_distance a0 a1) := by
  refine m_start (by decide) (Nat.le_of_ble_eq_true rfl) ?_
  intro p e s m below meth c C hr hlk hnm hM ls hl
  obtain ⟨hx, hb, hml, hown, hts, hE, hbs⟩ := id C
  have hl : lv_has ls 5 [(0, .ref (b + 192)), (1, .int a0), (2, .int a1)] := hl
  by_cases q1 : a0 < 0
  · refine lv_iload_n hx hb dX13_distance_0 rfl (lv_at hl 1 rfl) ?_
    refine m_goi (m_runS calS_X13_isText wd_1373 (a_X13_isText_0 l D kc b f a0 q1) C hM hl.1 rfl rfl (Nat.le_of_ble_eq_true rfl) dX13_distance_1 ⟨Nat.le_of_ble_eq_true rfl, Nat.le_of_ble_eq_true rfl⟩ ⟨Nat.le_of_ble_eq_true rfl, Nat.le_of_ble_eq_true rfl⟩) hM (fun r2 n3 f1 H locs hp hM => ?_)
    have hp : r2 = 0 ∧ n3 = 220 ∧ f1 = f := hp
    obtain ⟨rfl, rfl, ef1⟩ := hp
    refine lv_if_eq (tgt := 14) hx hb dX13_distance_4 (by decide) (fun _ => ?_) (fun h => absurd (by decide) h)
    refine lv_bipush (v := (-2)) hx hb dX13_distance_14 (by decide) ?_
    exact m_iret C hr hlk hM (by unfold p_distance; rw [if_neg (by revert q1; simp only [Int32.lt_iff_toInt_lt, Int32.le_iff_toInt_le, m_lits]; omega)]) dX13_distance_16
  by_cases q4 : 2 < a0
  · refine lv_iload_n hx hb dX13_distance_0 rfl (lv_at hl 1 rfl) ?_
    refine m_goi (m_runS calS_X13_isText wd_1373 (a_X13_isText_1 l D kc b f a0 q1 q4) C hM hl.1 rfl rfl (Nat.le_of_ble_eq_true rfl) dX13_distance_1 ⟨Nat.le_of_ble_eq_true rfl, Nat.le_of_ble_eq_true rfl⟩ ⟨Nat.le_of_ble_eq_true rfl, Nat.le_of_ble_eq_true rfl⟩) hM (fun r5 n6 f1 H locs hp hM => ?_)
    have hp : r5 = 0 ∧ n6 = 220 ∧ f1 = f := hp
    obtain ⟨rfl, rfl, ef1⟩ := hp
    refine lv_if_eq (tgt := 14) hx hb dX13_distance_4 (by decide) (fun _ => ?_) (fun h => absurd (by decide) h)
    refine lv_bipush (v := (-2)) hx hb dX13_distance_14 (by decide) ?_
    exact m_iret C hr hlk hM (by unfold p_distance; rw [if_neg (by revert q1 q4; simp only [Int32.lt_iff_toInt_lt, Int32.le_iff_toInt_le, m_lits]; omega)]) dX13_distance_16
  by_cases s7 : a0 = 0
  · subst s7
    refine lv_iload_n hx hb dX13_distance_0 rfl (lv_at hl 1 rfl) ?_
    refine m_goi (m_runS calS_X13_isText wd_1373 (a_X13_isText_2 l D kc b f) C hM hl.1 rfl rfl (Nat.le_of_ble_eq_true rfl) dX13_distance_1 ⟨Nat.le_of_ble_eq_true rfl, Nat.le_of_ble_eq_true rfl⟩ ⟨Nat.le_of_ble_eq_true rfl, Nat.le_of_ble_eq_true rfl⟩) hM (fun r8 n9 f1 H locs hp hM => ?_)
    have hp : r8 = 1 ∧ n9 = 220 ∧ f1 = f := hp
    obtain ⟨rfl, rfl, ef1⟩ := hp
    refine lv_if_eq (tgt := 14) hx hb dX13_distance_4 (by decide) (fun h => absurd h (by decide)) (fun _ => ?_)
    by_cases q10 : a1 < 0
    · refine lv_iload_n hx hb dX13_distance_7 rfl (lv_at hl 2 rfl) ?_
      refine m_goi (m_runS calS_X13_isText wd_1373 (a_X13_isText_5 l D kc b f1 a1 q10) C hM hl.1 rfl rfl (Nat.le_of_ble_eq_true rfl) dX13_distance_8 ⟨Nat.le_of_ble_eq_true rfl, Nat.le_of_ble_eq_true rfl⟩ ⟨Nat.le_of_ble_eq_true rfl, Nat.le_of_ble_eq_true rfl⟩) hM (fun r11 n12 f2 H locs hp hM => ?_)
      have hp : r11 = 0 ∧ n12 = 220 ∧ f2 = f1 := hp
      obtain ⟨rfl, rfl, ef2⟩ := hp
      refine lv_if_ne (tgt := 17) hx hb dX13_distance_11 (by decide) (fun h => absurd (by decide) h) (fun _ => ?_)
      refine lv_bipush (v := (-2)) hx hb dX13_distance_14 (by decide) ?_
      exact m_iret C hr hlk hM (by unfold p_distance; rw [if_neg (by revert q10; simp only [Int32.lt_iff_toInt_lt, Int32.le_iff_toInt_le, m_lits]; omega)]) dX13_distance_16
    by_cases q13 : 2 < a1
    · refine lv_iload_n hx hb dX13_distance_7 rfl (lv_at hl 2 rfl) ?_
      refine m_goi (m_runS calS_X13_isText wd_1373 (a_X13_isText_6 l D kc b f1 a1 q10 q13) C hM hl.1 rfl rfl (Nat.le_of_ble_eq_true rfl) dX13_distance_8 ⟨Nat.le_of_ble_eq_true rfl, Nat.le_of_ble_eq_true rfl⟩ ⟨Nat.le_of_ble_eq_true rfl, Nat.le_of_ble_eq_true rfl⟩) hM (fun r14 n15 f2 H locs hp hM => ?_)
      have hp : r14 = 0 ∧ n15 = 220 ∧ f2 = f1 := hp
      obtain ⟨rfl, rfl, ef2⟩ := hp
      refine lv_if_ne (tgt := 17) hx hb dX13_distance_11 (by decide) (fun h => absurd (by decide) h) (fun _ => ?_)
      refine lv_bipush (v := (-2)) hx hb dX13_distance_14 (by decide) ?_
      exact m_iret C hr hlk hM (by unfold p_distance; rw [if_neg (by revert q10 q13; simp only [Int32.lt_iff_toInt_lt, Int32.le_iff_toInt_le, m_lits]; omega)]) dX13_distance_16
    by_cases s16 : a1 = 0
    · subst s16
      refine lv_iload_n hx hb dX13_distance_7 rfl (lv_at hl 2 rfl) ?_
      refine m_goi (m_runS calS_X13_isText wd_1373 (a_X13_isText_2 l D kc b f1) C hM hl.1 rfl rfl (Nat.le_of_ble_eq_true rfl) dX13_distance_8 ⟨Nat.le_of_ble_eq_true rfl, Nat.le_of_ble_eq_true rfl⟩ ⟨Nat.le_of_ble_eq_true rfl, Nat.le_of_ble_eq_true rfl⟩) hM (fun r17 n18 f2 H locs hp hM => ?_)
      have hp : r17 = 1 ∧ n18 = 220 ∧ f2 = f1 := hp
      obtain ⟨rfl, rfl, ef2⟩ := hp
      refine lv_if_ne (tgt := 17) hx hb dX13_distance_11 (by decide) (fun _ => ?_) (fun h => absurd h (by decide))
      refine lv_aload_n hx hb dX13_distance_17 rfl (lv_at hl 0 rfl) ?_
      refine lv_iload_n hx hb dX13_distance_18 rfl (lv_at hl 1 rfl) ?_
      have h192_1 : f1 192 = .inr (13, [.ref (b + 193), .ref (b + 194), .ref (b + 195), .int 0, .int 0, .int 0, .ref (b + 196), .ref (b + 197), .int 0, .int 0, .int 0, .int 0, .int 0, .int 0, .int 0, .int (-1), .ref (b + 198), .ref (b + 199), .ref (b + 200), .ref (b + 201), .ref (b + 202), .ref (b + 203), .ref (b + 204), .ref (b + 205), .ref (b + 206), .ref (b + 207), .ref (b + 208), .int 0, .ref (b + 209), .ref (b + 210), .ref (b + 211), .ref (b + 212), .ref (b + 213), .ref (b + 214), .ref (b + 215), .int 0, .int 0, .int 0, .int 0, .ref (b + 216), .ref (b + 217), .ref (b + 218), .ref (b + 219)]) := m_sm ef1 h192
      have h192_2 : f2 192 = .inr (13, [.ref (b + 193), .ref (b + 194), .ref (b + 195), .int 0, .int 0, .int 0, .ref (b + 196), .ref (b + 197), .int 0, .int 0, .int 0, .int 0, .int 0, .int 0, .int 0, .int (-1), .ref (b + 198), .ref (b + 199), .ref (b + 200), .ref (b + 201), .ref (b + 202), .ref (b + 203), .ref (b + 204), .ref (b + 205), .ref (b + 206), .ref (b + 207), .ref (b + 208), .int 0, .ref (b + 209), .ref (b + 210), .ref (b + 211), .ref (b + 212), .ref (b + 213), .ref (b + 214), .ref (b + 215), .int 0, .int 0, .int 0, .int 0, .ref (b + 216), .ref (b + 217), .ref (b + 218), .ref (b + 219)]) := m_sm ef2 h192_1
      refine m_goi (m_runV calV_X13_wordsOf wd_1376 (a_X13_wordsOf_0 l D kc b f2 h192_2) C hM (by decide) h192_2 rfl hl.1 rfl rfl (Nat.le_of_ble_eq_true rfl) dX13_distance_19 ⟨Nat.le_of_ble_eq_true rfl, Nat.le_of_ble_eq_true rfl⟩ ⟨Nat.le_of_ble_eq_true rfl, Nat.le_of_ble_eq_true rfl⟩) hM (fun r19 n20 f3 H locs hp hM => ?_)
      have hp : r19 = 0 ∧ n20 = 220 ∧ f3 = f2 := hp
      obtain ⟨rfl, rfl, ef3⟩ := hp
      refine lv_istore_n (lv' := [(3, .int 0), (0, .ref (b + 192)), (1, .int 0), (2, .int 0)]) hx hb dX13_distance_22 rfl hl (by decide) rfl (fun ls hl => ?_)
      refine lv_aload_n hx hb dX13_distance_23 rfl (lv_at hl 1 rfl) ?_
      refine lv_iload_n hx hb dX13_distance_24 rfl (lv_at hl 3 rfl) ?_
      have h192_3 : f3 192 = .inr (13, [.ref (b + 193), .ref (b + 194), .ref (b + 195), .int 0, .int 0, .int 0, .ref (b + 196), .ref (b + 197), .int 0, .int 0, .int 0, .int 0, .int 0, .int 0, .int 0, .int (-1), .ref (b + 198), .ref (b + 199), .ref (b + 200), .ref (b + 201), .ref (b + 202), .ref (b + 203), .ref (b + 204), .ref (b + 205), .ref (b + 206), .ref (b + 207), .ref (b + 208), .int 0, .ref (b + 209), .ref (b + 210), .ref (b + 211), .ref (b + 212), .ref (b + 213), .ref (b + 214), .ref (b + 215), .int 0, .int 0, .int 0, .int 0, .ref (b + 216), .ref (b + 217), .ref (b + 218), .ref (b + 219)]) := m_sm ef3 h192_2
      refine m_goi (m_runV calV_X13_wordsOf wd_1376 (a_X13_wordsOf_0 l D kc b f3 h192_3) C hM (by decide) h192_3 rfl hl.1 rfl rfl (Nat.le_of_ble_eq_true rfl) dX13_distance_25 ⟨Nat.le_of_ble_eq_true rfl, Nat.le_of_ble_eq_true rfl⟩ ⟨Nat.le_of_ble_eq_true rfl, Nat.le_of_ble_eq_true rfl⟩) hM (fun r21 n22 f4 H locs hp hM => ?_)
      have hp : r21 = 0 ∧ n22 = 220 ∧ f4 = f3 := hp
      obtain ⟨rfl, rfl, ef4⟩ := hp
      refine lv_istore (lv' := [(4, .int 0), (3, .int 0), (0, .ref (b + 192)), (1, .int 0), (2, .int 0)]) hx hb dX13_distance_28 hl (by decide) rfl (fun ls hl => ?_)
      refine lv_aload_n hx hb dX13_distance_30 rfl (lv_at hl 2 rfl) ?_
      refine lv_iload_n hx hb dX13_distance_31 rfl (lv_at hl 3 rfl) ?_
      refine lv_iload_n hx hb dX13_distance_32 rfl (lv_at hl 1 rfl) ?_
      refine lv_iload_n hx hb dX13_distance_33 rfl (lv_at hl 4 rfl) ?_
      refine lv_iload hx hb dX13_distance_34 (lv_at hl 0 rfl) ?_
      have h192_4 : f4 192 = .inr (13, [.ref (b + 193), .ref (b + 194), .ref (b + 195), .int 0, .int 0, .int 0, .ref (b + 196), .ref (b + 197), .int 0, .int 0, .int 0, .int 0, .int 0, .int 0, .int 0, .int (-1), .ref (b + 198), .ref (b + 199), .ref (b + 200), .ref (b + 201), .ref (b + 202), .ref (b + 203), .ref (b + 204), .ref (b + 205), .ref (b + 206), .ref (b + 207), .ref (b + 208), .int 0, .ref (b + 209), .ref (b + 210), .ref (b + 211), .ref (b + 212), .ref (b + 213), .ref (b + 214), .ref (b + 215), .int 0, .int 0, .int 0, .int 0, .ref (b + 216), .ref (b + 217), .ref (b + 218), .ref (b + 219)]) := m_sm ef4 h192_3
      have h215_1 : f1 215 = .inl (kc 1, 103041, .inl (fun _ => 0)) := m_sm ef1 h215
      have h215_2 : f2 215 = .inl (kc 1, 103041, .inl (fun _ => 0)) := m_sm ef2 h215_1
      have h215_3 : f3 215 = .inl (kc 1, 103041, .inl (fun _ => 0)) := m_sm ef3 h215_2
      have h215_4 : f4 215 = .inl (kc 1, 103041, .inl (fun _ => 0)) := m_sm ef4 h215_3
      refine m_goi (m_runV calV_X13_apart wd_1428 (a_X13_apart_2 l D kc b f4 h192_4 h215_4) C hM (by decide) h192_4 rfl hl.1 rfl rfl (Nat.le_of_ble_eq_true rfl) dX13_distance_36 ⟨Nat.le_of_ble_eq_true rfl, Nat.le_of_ble_eq_true rfl⟩ ⟨Nat.le_of_ble_eq_true rfl, Nat.le_of_ble_eq_true rfl⟩) hM (fun r23 n24 f5 H locs hp hM => ?_)
      have hp : r23 = 0 ∧ n24 = 220 ∧ f5 = va_up f4 215 (.inl (kc 1, 103041, .inl (upd (fun _ => 0) 0 0))) := hp
      obtain ⟨rfl, rfl, ef5⟩ := hp
      exact m_iret C hr hlk hM (by decide) dX13_distance_39
    by_cases s25 : a1 = 1
    · subst s25
      refine lv_iload_n hx hb dX13_distance_7 rfl (lv_at hl 2 rfl) ?_
      refine m_goi (m_runS calS_X13_isText wd_1373 (a_X13_isText_3 l D kc b f1) C hM hl.1 rfl rfl (Nat.le_of_ble_eq_true rfl) dX13_distance_8 ⟨Nat.le_of_ble_eq_true rfl, Nat.le_of_ble_eq_true rfl⟩ ⟨Nat.le_of_ble_eq_true rfl, Nat.le_of_ble_eq_true rfl⟩) hM (fun r26 n27 f2 H locs hp hM => ?_)
      have hp : r26 = 1 ∧ n27 = 220 ∧ f2 = f1 := hp
      obtain ⟨rfl, rfl, ef2⟩ := hp
      refine lv_if_ne (tgt := 17) hx hb dX13_distance_11 (by decide) (fun _ => ?_) (fun h => absurd h (by decide))
      refine lv_aload_n hx hb dX13_distance_17 rfl (lv_at hl 0 rfl) ?_
      refine lv_iload_n hx hb dX13_distance_18 rfl (lv_at hl 1 rfl) ?_
      have h192_1 : f1 192 = .inr (13, [.ref (b + 193), .ref (b + 194), .ref (b + 195), .int 0, .int 0, .int 0, .ref (b + 196), .ref (b + 197), .int 0, .int 0, .int 0, .int 0, .int 0, .int 0, .int 0, .int (-1), .ref (b + 198), .ref (b + 199), .ref (b + 200), .ref (b + 201), .ref (b + 202), .ref (b + 203), .ref (b + 204), .ref (b + 205), .ref (b + 206), .ref (b + 207), .ref (b + 208), .int 0, .ref (b + 209), .ref (b + 210), .ref (b + 211), .ref (b + 212), .ref (b + 213), .ref (b + 214), .ref (b + 215), .int 0, .int 0, .int 0, .int 0, .ref (b + 216), .ref (b + 217), .ref (b + 218), .ref (b + 219)]) := m_sm ef1 h192
      have h192_2 : f2 192 = .inr (13, [.ref (b + 193), .ref (b + 194), .ref (b + 195), .int 0, .int 0, .int 0, .ref (b + 196), .ref (b + 197), .int 0, .int 0, .int 0, .int 0, .int 0, .int 0, .int 0, .int (-1), .ref (b + 198), .ref (b + 199), .ref (b + 200), .ref (b + 201), .ref (b + 202), .ref (b + 203), .ref (b + 204), .ref (b + 205), .ref (b + 206), .ref (b + 207), .ref (b + 208), .int 0, .ref (b + 209), .ref (b + 210), .ref (b + 211), .ref (b + 212), .ref (b + 213), .ref (b + 214), .ref (b + 215), .int 0, .int 0, .int 0, .int 0, .ref (b + 216), .ref (b + 217), .ref (b + 218), .ref (b + 219)]) := m_sm ef2 h192_1
      refine m_goi (m_runV calV_X13_wordsOf wd_1376 (a_X13_wordsOf_0 l D kc b f2 h192_2) C hM (by decide) h192_2 rfl hl.1 rfl rfl (Nat.le_of_ble_eq_true rfl) dX13_distance_19 ⟨Nat.le_of_ble_eq_true rfl, Nat.le_of_ble_eq_true rfl⟩ ⟨Nat.le_of_ble_eq_true rfl, Nat.le_of_ble_eq_true rfl⟩) hM (fun r28 n29 f3 H locs hp hM => ?_)
      have hp : r28 = 0 ∧ n29 = 220 ∧ f3 = f2 := hp
      obtain ⟨rfl, rfl, ef3⟩ := hp
      refine lv_istore_n (lv' := [(3, .int 0), (0, .ref (b + 192)), (1, .int 0), (2, .int 1)]) hx hb dX13_distance_22 rfl hl (by decide) rfl (fun ls hl => ?_)
      refine lv_aload_n hx hb dX13_distance_23 rfl (lv_at hl 1 rfl) ?_
      refine lv_iload_n hx hb dX13_distance_24 rfl (lv_at hl 3 rfl) ?_
      have h192_3 : f3 192 = .inr (13, [.ref (b + 193), .ref (b + 194), .ref (b + 195), .int 0, .int 0, .int 0, .ref (b + 196), .ref (b + 197), .int 0, .int 0, .int 0, .int 0, .int 0, .int 0, .int 0, .int (-1), .ref (b + 198), .ref (b + 199), .ref (b + 200), .ref (b + 201), .ref (b + 202), .ref (b + 203), .ref (b + 204), .ref (b + 205), .ref (b + 206), .ref (b + 207), .ref (b + 208), .int 0, .ref (b + 209), .ref (b + 210), .ref (b + 211), .ref (b + 212), .ref (b + 213), .ref (b + 214), .ref (b + 215), .int 0, .int 0, .int 0, .int 0, .ref (b + 216), .ref (b + 217), .ref (b + 218), .ref (b + 219)]) := m_sm ef3 h192_2
      refine m_goi (m_runV calV_X13_wordsOf wd_1376 (a_X13_wordsOf_1 l D kc b f3 h192_3) C hM (by decide) h192_3 rfl hl.1 rfl rfl (Nat.le_of_ble_eq_true rfl) dX13_distance_25 ⟨Nat.le_of_ble_eq_true rfl, Nat.le_of_ble_eq_true rfl⟩ ⟨Nat.le_of_ble_eq_true rfl, Nat.le_of_ble_eq_true rfl⟩) hM (fun r30 n31 f4 H locs hp hM => ?_)
      have hp : r30 = 0 ∧ n31 = 220 ∧ f4 = f3 := hp
      obtain ⟨rfl, rfl, ef4⟩ := hp
      refine lv_istore (lv' := [(4, .int 0), (3, .int 0), (0, .ref (b + 192)), (1, .int 0), (2, .int 1)]) hx hb dX13_distance_28 hl (by decide) rfl (fun ls hl => ?_)
      refine lv_aload_n hx hb dX13_distance_30 rfl (lv_at hl 2 rfl) ?_
      refine lv_iload_n hx hb dX13_distance_31 rfl (lv_at hl 3 rfl) ?_
      refine lv_iload_n hx hb dX13_distance_32 rfl (lv_at hl 1 rfl) ?_
      refine lv_iload_n hx hb dX13_distance_33 rfl (lv_at hl 4 rfl) ?_
      refine lv_iload hx hb dX13_distance_34 (lv_at hl 0 rfl) ?_
      have h192_4 : f4 192 = .inr (13, [.ref (b + 193), .ref (b + 194), .ref (b + 195), .int 0, .int 0, .int 0, .ref (b + 196), .ref (b + 197), .int 0, .int 0, .int 0, .int 0, .int 0, .int 0, .int 0, .int (-1), .ref (b + 198), .ref (b + 199), .ref (b + 200), .ref (b + 201), .ref (b + 202), .ref (b + 203), .ref (b + 204), .ref (b + 205), .ref (b + 206), .ref (b + 207), .ref (b + 208), .int 0, .ref (b + 209), .ref (b + 210), .ref (b + 211), .ref (b + 212), .ref (b + 213), .ref (b + 214), .ref (b + 215), .int 0, .int 0, .int 0, .int 0, .ref (b + 216), .ref (b + 217), .ref (b + 218), .ref (b + 219)]) := m_sm ef4 h192_3
      have h215_1 : f1 215 = .inl (kc 1, 103041, .inl (fun _ => 0)) := m_sm ef1 h215
      have h215_2 : f2 215 = .inl (kc 1, 103041, .inl (fun _ => 0)) := m_sm ef2 h215_1
      have h215_3 : f3 215 = .inl (kc 1, 103041, .inl (fun _ => 0)) := m_sm ef3 h215_2
      have h215_4 : f4 215 = .inl (kc 1, 103041, .inl (fun _ => 0)) := m_sm ef4 h215_3
      refine m_goi (m_runV calV_X13_apart wd_1428 (a_X13_apart_3 l D kc b f4 h192_4 h215_4) C hM (by decide) h192_4 rfl hl.1 rfl rfl (Nat.le_of_ble_eq_true rfl) dX13_distance_36 ⟨Nat.le_of_ble_eq_true rfl, Nat.le_of_ble_eq_true rfl⟩ ⟨Nat.le_of_ble_eq_true rfl, Nat.le_of_ble_eq_true rfl⟩) hM (fun r32 n33 f5 H locs hp hM => ?_)
      have hp : r32 = 0 ∧ n33 = 220 ∧ f5 = va_up f4 215 (.inl (kc 1, 103041, .inl (upd (fun _ => 0) 0 0))) := hp
      obtain ⟨rfl, rfl, ef5⟩ := hp
      exact m_iret C hr hlk hM (by decide) dX13_distance_39
    by_cases s34 : a1 = 2
    · subst s34
      refine lv_iload_n hx hb dX13_distance_7 rfl (lv_at hl 2 rfl) ?_
      refine m_goi (m_runS calS_X13_isText wd_1373 (a_X13_isText_4 l D kc b f1) C hM hl.1 rfl rfl (Nat.le_of_ble_eq_true rfl) dX13_distance_8 ⟨Nat.le_of_ble_eq_true rfl, Nat.le_of_ble_eq_true rfl⟩ ⟨Nat.le_of_ble_eq_true rfl, Nat.le_of_ble_eq_true rfl⟩) hM (fun r35 n36 f2 H locs hp hM => ?_)
      have hp : r35 = 1 ∧ n36 = 220 ∧ f2 = f1 := hp
      obtain ⟨rfl, rfl, ef2⟩ := hp
      refine lv_if_ne (tgt := 17) hx hb dX13_distance_11 (by decide) (fun _ => ?_) (fun h => absurd h (by decide))
      refine lv_aload_n hx hb dX13_distance_17 rfl (lv_at hl 0 rfl) ?_
      refine lv_iload_n hx hb dX13_distance_18 rfl (lv_at hl 1 rfl) ?_
      have h192_1 : f1 192 = .inr (13, [.ref (b + 193), .ref (b + 194), .ref (b + 195), .int 0, .int 0, .int 0, .ref (b + 196), .ref (b + 197), .int 0, .int 0, .int 0, .int 0, .int 0, .int 0, .int 0, .int (-1), .ref (b + 198), .ref (b + 199), .ref (b + 200), .ref (b + 201), .ref (b + 202), .ref (b + 203), .ref (b + 204), .ref (b + 205), .ref (b + 206), .ref (b + 207), .ref (b + 208), .int 0, .ref (b + 209), .ref (b + 210), .ref (b + 211), .ref (b + 212), .ref (b + 213), .ref (b + 214), .ref (b + 215), .int 0, .int 0, .int 0, .int 0, .ref (b + 216), .ref (b + 217), .ref (b + 218), .ref (b + 219)]) := m_sm ef1 h192
      have h192_2 : f2 192 = .inr (13, [.ref (b + 193), .ref (b + 194), .ref (b + 195), .int 0, .int 0, .int 0, .ref (b + 196), .ref (b + 197), .int 0, .int 0, .int 0, .int 0, .int 0, .int 0, .int 0, .int (-1), .ref (b + 198), .ref (b + 199), .ref (b + 200), .ref (b + 201), .ref (b + 202), .ref (b + 203), .ref (b + 204), .ref (b + 205), .ref (b + 206), .ref (b + 207), .ref (b + 208), .int 0, .ref (b + 209), .ref (b + 210), .ref (b + 211), .ref (b + 212), .ref (b + 213), .ref (b + 214), .ref (b + 215), .int 0, .int 0, .int 0, .int 0, .ref (b + 216), .ref (b + 217), .ref (b + 218), .ref (b + 219)]) := m_sm ef2 h192_1
      refine m_goi (m_runV calV_X13_wordsOf wd_1376 (a_X13_wordsOf_0 l D kc b f2 h192_2) C hM (by decide) h192_2 rfl hl.1 rfl rfl (Nat.le_of_ble_eq_true rfl) dX13_distance_19 ⟨Nat.le_of_ble_eq_true rfl, Nat.le_of_ble_eq_true rfl⟩ ⟨Nat.le_of_ble_eq_true rfl, Nat.le_of_ble_eq_true rfl⟩) hM (fun r37 n38 f3 H locs hp hM => ?_)
      have hp : r37 = 0 ∧ n38 = 220 ∧ f3 = f2 := hp
      obtain ⟨rfl, rfl, ef3⟩ := hp
      refine lv_istore_n (lv' := [(3, .int 0), (0, .ref (b + 192)), (1, .int 0), (2, .int 2)]) hx hb dX13_distance_22 rfl hl (by decide) rfl (fun ls hl => ?_)
      refine lv_aload_n hx hb dX13_distance_23 rfl (lv_at hl 1 rfl) ?_
      refine lv_iload_n hx hb dX13_distance_24 rfl (lv_at hl 3 rfl) ?_
      have h192_3 : f3 192 = .inr (13, [.ref (b + 193), .ref (b + 194), .ref (b + 195), .int 0, .int 0, .int 0, .ref (b + 196), .ref (b + 197), .int 0, .int 0, .int 0, .int 0, .int 0, .int 0, .int 0, .int (-1), .ref (b + 198), .ref (b + 199), .ref (b + 200), .ref (b + 201), .ref (b + 202), .ref (b + 203), .ref (b + 204), .ref (b + 205), .ref (b + 206), .ref (b + 207), .ref (b + 208), .int 0, .ref (b + 209), .ref (b + 210), .ref (b + 211), .ref (b + 212), .ref (b + 213), .ref (b + 214), .ref (b + 215), .int 0, .int 0, .int 0, .int 0, .ref (b + 216), .ref (b + 217), .ref (b + 218), .ref (b + 219)]) := m_sm ef3 h192_2
      refine m_goi (m_runV calV_X13_wordsOf wd_1376 (a_X13_wordsOf_2 l D kc b f3 h192_3) C hM (by decide) h192_3 rfl hl.1 rfl rfl (Nat.le_of_ble_eq_true rfl) dX13_distance_25 ⟨Nat.le_of_ble_eq_true rfl, Nat.le_of_ble_eq_true rfl⟩ ⟨Nat.le_of_ble_eq_true rfl, Nat.le_of_ble_eq_true rfl⟩) hM (fun r39 n40 f4 H locs hp hM => ?_)
      have hp : r39 = 0 ∧ n40 = 220 ∧ f4 = va_up f3 192 (.inr (13, [.ref (b + 193), .ref (b + 194), .ref (b + 195), .int 0, .int 0, .int 0, .ref (b + 196), .ref (b + 197), .int 0, .int 0, .int 0, .int 0, .int 0, .int 0, .int 0, .int (-1), .ref (b + 198), .ref (b + 199), .ref (b + 200), .ref (b + 201), .ref (b + 202), .ref (b + 203), .ref (b + 204), .ref (b + 205), .ref (b + 206), .ref (b + 207), .ref (b + 208), .int 0, .ref (b + 209), .ref (b + 210), .ref (b + 211), .ref (b + 212), .ref (b + 213), .ref (b + 214), .ref (b + 215), .int 0, .int 0, .int 0, .int 0, .ref (b + 216), .ref (b + 217), .ref (b + 218), .ref (b + 219)])) := hp
      obtain ⟨rfl, rfl, ef4⟩ := hp
      refine lv_istore (lv' := [(4, .int 0), (3, .int 0), (0, .ref (b + 192)), (1, .int 0), (2, .int 2)]) hx hb dX13_distance_28 hl (by decide) rfl (fun ls hl => ?_)
      refine lv_aload_n hx hb dX13_distance_30 rfl (lv_at hl 2 rfl) ?_
      refine lv_iload_n hx hb dX13_distance_31 rfl (lv_at hl 3 rfl) ?_
      refine lv_iload_n hx hb dX13_distance_32 rfl (lv_at hl 1 rfl) ?_
      refine lv_iload_n hx hb dX13_distance_33 rfl (lv_at hl 4 rfl) ?_
      refine lv_iload hx hb dX13_distance_34 (lv_at hl 0 rfl) ?_
      have h192_4 : f4 192 = .inr (13, [.ref (b + 193), .ref (b + 194), .ref (b + 195), .int 0, .int 0, .int 0, .ref (b + 196), .ref (b + 197), .int 0, .int 0, .int 0, .int 0, .int 0, .int 0, .int 0, .int (-1), .ref (b + 198), .ref (b + 199), .ref (b + 200), .ref (b + 201), .ref (b + 202), .ref (b + 203), .ref (b + 204), .ref (b + 205), .ref (b + 206), .ref (b + 207), .ref (b + 208), .int 0, .ref (b + 209), .ref (b + 210), .ref (b + 211), .ref (b + 212), .ref (b + 213), .ref (b + 214), .ref (b + 215), .int 0, .int 0, .int 0, .int 0, .ref (b + 216), .ref (b + 217), .ref (b + 218), .ref (b + 219)]) := m_eq ef4
      have h215_1 : f1 215 = .inl (kc 1, 103041, .inl (fun _ => 0)) := m_sm ef1 h215
      have h215_2 : f2 215 = .inl (kc 1, 103041, .inl (fun _ => 0)) := m_sm ef2 h215_1
      have h215_3 : f3 215 = .inl (kc 1, 103041, .inl (fun _ => 0)) := m_sm ef3 h215_2
      have h215_4 : f4 215 = .inl (kc 1, 103041, .inl (fun _ => 0)) := m_ne ef4 h215_3 (by decide)
      refine m_goi (m_runV calV_X13_apart wd_1428 (a_X13_apart_4 l D kc b f4 h192_4 h215_4) C hM (by decide) h192_4 rfl hl.1 rfl rfl (Nat.le_of_ble_eq_true rfl) dX13_distance_36 ⟨Nat.le_of_ble_eq_true rfl, Nat.le_of_ble_eq_true rfl⟩ ⟨Nat.le_of_ble_eq_true rfl, Nat.le_of_ble_eq_true rfl⟩) hM (fun r41 n42 f5 H locs hp hM => ?_)
      have hp : r41 = 0 ∧ n42 = 220 ∧ f5 = va_up f4 215 (.inl (kc 1, 103041, .inl (upd (fun _ => 0) 0 0))) := hp
      obtain ⟨rfl, rfl, ef5⟩ := hp
      exact m_iret C hr hlk hM (by decide) dX13_distance_39
    exfalso; revert q10 q13 s16 s25 s34; simp only [← Int32.toInt_inj, Int32.lt_iff_toInt_lt, Int32.le_iff_toInt_le, m_lits]; omega
  by_cases s43 : a0 = 1
  · subst s43
    refine lv_iload_n hx hb dX13_distance_0 rfl (lv_at hl 1 rfl) ?_
    refine m_goi (m_runS calS_X13_isText wd_1373 (a_X13_isText_3 l D kc b f) C hM hl.1 rfl rfl (Nat.le_of_ble_eq_true rfl) dX13_distance_1 ⟨Nat.le_of_ble_eq_true rfl, Nat.le_of_ble_eq_true rfl⟩ ⟨Nat.le_of_ble_eq_true rfl, Nat.le_of_ble_eq_true rfl⟩) hM (fun r44 n45 f1 H locs hp hM => ?_)
    have hp : r44 = 1 ∧ n45 = 220 ∧ f1 = f := hp
    obtain ⟨rfl, rfl, ef1⟩ := hp
    refine lv_if_eq (tgt := 14) hx hb dX13_distance_4 (by decide) (fun h => absurd h (by decide)) (fun _ => ?_)
    by_cases q46 : a1 < 0
    · refine lv_iload_n hx hb dX13_distance_7 rfl (lv_at hl 2 rfl) ?_
      refine m_goi (m_runS calS_X13_isText wd_1373 (a_X13_isText_5 l D kc b f1 a1 q46) C hM hl.1 rfl rfl (Nat.le_of_ble_eq_true rfl) dX13_distance_8 ⟨Nat.le_of_ble_eq_true rfl, Nat.le_of_ble_eq_true rfl⟩ ⟨Nat.le_of_ble_eq_true rfl, Nat.le_of_ble_eq_true rfl⟩) hM (fun r47 n48 f2 H locs hp hM => ?_)
      have hp : r47 = 0 ∧ n48 = 220 ∧ f2 = f1 := hp
      obtain ⟨rfl, rfl, ef2⟩ := hp
      refine lv_if_ne (tgt := 17) hx hb dX13_distance_11 (by decide) (fun h => absurd (by decide) h) (fun _ => ?_)
      refine lv_bipush (v := (-2)) hx hb dX13_distance_14 (by decide) ?_
      exact m_iret C hr hlk hM (by unfold p_distance; rw [if_neg (by revert q46; simp only [Int32.lt_iff_toInt_lt, Int32.le_iff_toInt_le, m_lits]; omega)]) dX13_distance_16
    by_cases q49 : 2 < a1
    · refine lv_iload_n hx hb dX13_distance_7 rfl (lv_at hl 2 rfl) ?_
      refine m_goi (m_runS calS_X13_isText wd_1373 (a_X13_isText_6 l D kc b f1 a1 q46 q49) C hM hl.1 rfl rfl (Nat.le_of_ble_eq_true rfl) dX13_distance_8 ⟨Nat.le_of_ble_eq_true rfl, Nat.le_of_ble_eq_true rfl⟩ ⟨Nat.le_of_ble_eq_true rfl, Nat.le_of_ble_eq_true rfl⟩) hM (fun r50 n51 f2 H locs hp hM => ?_)
      have hp : r50 = 0 ∧ n51 = 220 ∧ f2 = f1 := hp
      obtain ⟨rfl, rfl, ef2⟩ := hp
      refine lv_if_ne (tgt := 17) hx hb dX13_distance_11 (by decide) (fun h => absurd (by decide) h) (fun _ => ?_)
      refine lv_bipush (v := (-2)) hx hb dX13_distance_14 (by decide) ?_
      exact m_iret C hr hlk hM (by unfold p_distance; rw [if_neg (by revert q46 q49; simp only [Int32.lt_iff_toInt_lt, Int32.le_iff_toInt_le, m_lits]; omega)]) dX13_distance_16
    by_cases s52 : a1 = 0
    · subst s52
      refine lv_iload_n hx hb dX13_distance_7 rfl (lv_at hl 2 rfl) ?_
      refine m_goi (m_runS calS_X13_isText wd_1373 (a_X13_isText_2 l D kc b f1) C hM hl.1 rfl rfl (Nat.le_of_ble_eq_true rfl) dX13_distance_8 ⟨Nat.le_of_ble_eq_true rfl, Nat.le_of_ble_eq_true rfl⟩ ⟨Nat.le_of_ble_eq_true rfl, Nat.le_of_ble_eq_true rfl⟩) hM (fun r53 n54 f2 H locs hp hM => ?_)
      have hp : r53 = 1 ∧ n54 = 220 ∧ f2 = f1 := hp
      obtain ⟨rfl, rfl, ef2⟩ := hp
      refine lv_if_ne (tgt := 17) hx hb dX13_distance_11 (by decide) (fun _ => ?_) (fun h => absurd h (by decide))
      refine lv_aload_n hx hb dX13_distance_17 rfl (lv_at hl 0 rfl) ?_
      refine lv_iload_n hx hb dX13_distance_18 rfl (lv_at hl 1 rfl) ?_
      have h192_1 : f1 192 = .inr (13, [.ref (b + 193), .ref (b + 194), .ref (b + 195), .int 0, .int 0, .int 0, .ref (b + 196), .ref (b + 197), .int 0, .int 0, .int 0, .int 0, .int 0, .int 0, .int 0, .int (-1), .ref (b + 198), .ref (b + 199), .ref (b + 200), .ref (b + 201), .ref (b + 202), .ref (b + 203), .ref (b + 204), .ref (b + 205), .ref (b + 206), .ref (b + 207), .ref (b + 208), .int 0, .ref (b + 209), .ref (b + 210), .ref (b + 211), .ref (b + 212), .ref (b + 213), .ref (b + 214), .ref (b + 215), .int 0, .int 0, .int 0, .int 0, .ref (b + 216), .ref (b + 217), .ref (b + 218), .ref (b + 219)]) := m_sm ef1 h192
      have h192_2 : f2 192 = .inr (13, [.ref (b + 193), .ref (b + 194), .ref (b + 195), .int 0, .int 0, .int 0, .ref (b + 196), .ref (b + 197), .int 0, .int 0, .int 0, .int 0, .int 0, .int 0, .int 0, .int (-1), .ref (b + 198), .ref (b + 199), .ref (b + 200), .ref (b + 201), .ref (b + 202), .ref (b + 203), .ref (b + 204), .ref (b + 205), .ref (b + 206), .ref (b + 207), .ref (b + 208), .int 0, .ref (b + 209), .ref (b + 210), .ref (b + 211), .ref (b + 212), .ref (b + 213), .ref (b + 214), .ref (b + 215), .int 0, .int 0, .int 0, .int 0, .ref (b + 216), .ref (b + 217), .ref (b + 218), .ref (b + 219)]) := m_sm ef2 h192_1
      refine m_goi (m_runV calV_X13_wordsOf wd_1376 (a_X13_wordsOf_1 l D kc b f2 h192_2) C hM (by decide) h192_2 rfl hl.1 rfl rfl (Nat.le_of_ble_eq_true rfl) dX13_distance_19 ⟨Nat.le_of_ble_eq_true rfl, Nat.le_of_ble_eq_true rfl⟩ ⟨Nat.le_of_ble_eq_true rfl, Nat.le_of_ble_eq_true rfl⟩) hM (fun r55 n56 f3 H locs hp hM => ?_)
      have hp : r55 = 0 ∧ n56 = 220 ∧ f3 = f2 := hp
      obtain ⟨rfl, rfl, ef3⟩ := hp
      refine lv_istore_n (lv' := [(3, .int 0), (0, .ref (b + 192)), (1, .int 1), (2, .int 0)]) hx hb dX13_distance_22 rfl hl (by decide) rfl (fun ls hl => ?_)
      refine lv_aload_n hx hb dX13_distance_23 rfl (lv_at hl 1 rfl) ?_
      refine lv_iload_n hx hb dX13_distance_24 rfl (lv_at hl 3 rfl) ?_
      have h192_3 : f3 192 = .inr (13, [.ref (b + 193), .ref (b + 194), .ref (b + 195), .int 0, .int 0, .int 0, .ref (b + 196), .ref (b + 197), .int 0, .int 0, .int 0, .int 0, .int 0, .int 0, .int 0, .int (-1), .ref (b + 198), .ref (b + 199), .ref (b + 200), .ref (b + 201), .ref (b + 202), .ref (b + 203), .ref (b + 204), .ref (b + 205), .ref (b + 206), .ref (b + 207), .ref (b + 208), .int 0, .ref (b + 209), .ref (b + 210), .ref (b + 211), .ref (b + 212), .ref (b + 213), .ref (b + 214), .ref (b + 215), .int 0, .int 0, .int 0, .int 0, .ref (b + 216), .ref (b + 217), .ref (b + 218), .ref (b + 219)]) := m_sm ef3 h192_2
      refine m_goi (m_runV calV_X13_wordsOf wd_1376 (a_X13_wordsOf_0 l D kc b f3 h192_3) C hM (by decide) h192_3 rfl hl.1 rfl rfl (Nat.le_of_ble_eq_true rfl) dX13_distance_25 ⟨Nat.le_of_ble_eq_true rfl, Nat.le_of_ble_eq_true rfl⟩ ⟨Nat.le_of_ble_eq_true rfl, Nat.le_of_ble_eq_true rfl⟩) hM (fun r57 n58 f4 H locs hp hM => ?_)
      have hp : r57 = 0 ∧ n58 = 220 ∧ f4 = f3 := hp
      obtain ⟨rfl, rfl, ef4⟩ := hp
      refine lv_istore (lv' := [(4, .int 0), (3, .int 0), (0, .ref (b + 192)), (1, .int 1), (2, .int 0)]) hx hb dX13_distance_28 hl (by decide) rfl (fun ls hl => ?_)
      refine lv_aload_n hx hb dX13_distance_30 rfl (lv_at hl 2 rfl) ?_
      refine lv_iload_n hx hb dX13_distance_31 rfl (lv_at hl 3 rfl) ?_
      refine lv_iload_n hx hb dX13_distance_32 rfl (lv_at hl 1 rfl) ?_
      refine lv_iload_n hx hb dX13_distance_33 rfl (lv_at hl 4 rfl) ?_
      refine lv_iload hx hb dX13_distance_34 (lv_at hl 0 rfl) ?_
      have h192_4 : f4 192 = .inr (13, [.ref (b + 193), .ref (b + 194), .ref (b + 195), .int 0, .int 0, .int 0, .ref (b + 196), .ref (b + 197), .int 0, .int 0, .int 0, .int 0, .int 0, .int 0, .int 0, .int (-1), .ref (b + 198), .ref (b + 199), .ref (b + 200), .ref (b + 201), .ref (b + 202), .ref (b + 203), .ref (b + 204), .ref (b + 205), .ref (b + 206), .ref (b + 207), .ref (b + 208), .int 0, .ref (b + 209), .ref (b + 210), .ref (b + 211), .ref (b + 212), .ref (b + 213), .ref (b + 214), .ref (b + 215), .int 0, .int 0, .int 0, .int 0, .ref (b + 216), .ref (b + 217), .ref (b + 218), .ref (b + 219)]) := m_sm ef4 h192_3
      have h215_1 : f1 215 = .inl (kc 1, 103041, .inl (fun _ => 0)) := m_sm ef1 h215
      have h215_2 : f2 215 = .inl (kc 1, 103041, .inl (fun _ => 0)) := m_sm ef2 h215_1
      have h215_3 : f3 215 = .inl (kc 1, 103041, .inl (fun _ => 0)) := m_sm ef3 h215_2
      have h215_4 : f4 215 = .inl (kc 1, 103041, .inl (fun _ => 0)) := m_sm ef4 h215_3
      refine m_goi (m_runV calV_X13_apart wd_1428 (a_X13_apart_5 l D kc b f4 h192_4 h215_4) C hM (by decide) h192_4 rfl hl.1 rfl rfl (Nat.le_of_ble_eq_true rfl) dX13_distance_36 ⟨Nat.le_of_ble_eq_true rfl, Nat.le_of_ble_eq_true rfl⟩ ⟨Nat.le_of_ble_eq_true rfl, Nat.le_of_ble_eq_true rfl⟩) hM (fun r59 n60 f5 H locs hp hM => ?_)
      have hp : r59 = 0 ∧ n60 = 220 ∧ f5 = va_up f4 215 (.inl (kc 1, 103041, .inl (upd (fun _ => 0) 0 0))) := hp
      obtain ⟨rfl, rfl, ef5⟩ := hp
      exact m_iret C hr hlk hM (by decide) dX13_distance_39
    by_cases s61 : a1 = 1
    · subst s61
      refine lv_iload_n hx hb dX13_distance_7 rfl (lv_at hl 2 rfl) ?_
      refine m_goi (m_runS calS_X13_isText wd_1373 (a_X13_isText_3 l D kc b f1) C hM hl.1 rfl rfl (Nat.le_of_ble_eq_true rfl) dX13_distance_8 ⟨Nat.le_of_ble_eq_true rfl, Nat.le_of_ble_eq_true rfl⟩ ⟨Nat.le_of_ble_eq_true rfl, Nat.le_of_ble_eq_true rfl⟩) hM (fun r62 n63 f2 H locs hp hM => ?_)
      have hp : r62 = 1 ∧ n63 = 220 ∧ f2 = f1 := hp
      obtain ⟨rfl, rfl, ef2⟩ := hp
      refine lv_if_ne (tgt := 17) hx hb dX13_distance_11 (by decide) (fun _ => ?_) (fun h => absurd h (by decide))
      refine lv_aload_n hx hb dX13_distance_17 rfl (lv_at hl 0 rfl) ?_
      refine lv_iload_n hx hb dX13_distance_18 rfl (lv_at hl 1 rfl) ?_
      have h192_1 : f1 192 = .inr (13, [.ref (b + 193), .ref (b + 194), .ref (b + 195), .int 0, .int 0, .int 0, .ref (b + 196), .ref (b + 197), .int 0, .int 0, .int 0, .int 0, .int 0, .int 0, .int 0, .int (-1), .ref (b + 198), .ref (b + 199), .ref (b + 200), .ref (b + 201), .ref (b + 202), .ref (b + 203), .ref (b + 204), .ref (b + 205), .ref (b + 206), .ref (b + 207), .ref (b + 208), .int 0, .ref (b + 209), .ref (b + 210), .ref (b + 211), .ref (b + 212), .ref (b + 213), .ref (b + 214), .ref (b + 215), .int 0, .int 0, .int 0, .int 0, .ref (b + 216), .ref (b + 217), .ref (b + 218), .ref (b + 219)]) := m_sm ef1 h192
      have h192_2 : f2 192 = .inr (13, [.ref (b + 193), .ref (b + 194), .ref (b + 195), .int 0, .int 0, .int 0, .ref (b + 196), .ref (b + 197), .int 0, .int 0, .int 0, .int 0, .int 0, .int 0, .int 0, .int (-1), .ref (b + 198), .ref (b + 199), .ref (b + 200), .ref (b + 201), .ref (b + 202), .ref (b + 203), .ref (b + 204), .ref (b + 205), .ref (b + 206), .ref (b + 207), .ref (b + 208), .int 0, .ref (b + 209), .ref (b + 210), .ref (b + 211), .ref (b + 212), .ref (b + 213), .ref (b + 214), .ref (b + 215), .int 0, .int 0, .int 0, .int 0, .ref (b + 216), .ref (b + 217), .ref (b + 218), .ref (b + 219)]) := m_sm ef2 h192_1
      refine m_goi (m_runV calV_X13_wordsOf wd_1376 (a_X13_wordsOf_1 l D kc b f2 h192_2) C hM (by decide) h192_2 rfl hl.1 rfl rfl (Nat.le_of_ble_eq_true rfl) dX13_distance_19 ⟨Nat.le_of_ble_eq_true rfl, Nat.le_of_ble_eq_true rfl⟩ ⟨Nat.le_of_ble_eq_true rfl, Nat.le_of_ble_eq_true rfl⟩) hM (fun r64 n65 f3 H locs hp hM => ?_)
      have hp : r64 = 0 ∧ n65 = 220 ∧ f3 = f2 := hp
      obtain ⟨rfl, rfl, ef3⟩ := hp
      refine lv_istore_n (lv' := [(3, .int 0), (0, .ref (b + 192)), (1, .int 1), (2, .int 1)]) hx hb dX13_distance_22 rfl hl (by decide) rfl (fun ls hl => ?_)
      refine lv_aload_n hx hb dX13_distance_23 rfl (lv_at hl 1 rfl) ?_
      refine lv_iload_n hx hb dX13_distance_24 rfl (lv_at hl 3 rfl) ?_
      have h192_3 : f3 192 = .inr (13, [.ref (b + 193), .ref (b + 194), .ref (b + 195), .int 0, .int 0, .int 0, .ref (b + 196), .ref (b + 197), .int 0, .int 0, .int 0, .int 0, .int 0, .int 0, .int 0, .int (-1), .ref (b + 198), .ref (b + 199), .ref (b + 200), .ref (b + 201), .ref (b + 202), .ref (b + 203), .ref (b + 204), .ref (b + 205), .ref (b + 206), .ref (b + 207), .ref (b + 208), .int 0, .ref (b + 209), .ref (b + 210), .ref (b + 211), .ref (b + 212), .ref (b + 213), .ref (b + 214), .ref (b + 215), .int 0, .int 0, .int 0, .int 0, .ref (b + 216), .ref (b + 217), .ref (b + 218), .ref (b + 219)]) := m_sm ef3 h192_2
      refine m_goi (m_runV calV_X13_wordsOf wd_1376 (a_X13_wordsOf_1 l D kc b f3 h192_3) C hM (by decide) h192_3 rfl hl.1 rfl rfl (Nat.le_of_ble_eq_true rfl) dX13_distance_25 ⟨Nat.le_of_ble_eq_true rfl, Nat.le_of_ble_eq_true rfl⟩ ⟨Nat.le_of_ble_eq_true rfl, Nat.le_of_ble_eq_true rfl⟩) hM (fun r66 n67 f4 H locs hp hM => ?_)
      have hp : r66 = 0 ∧ n67 = 220 ∧ f4 = f3 := hp
      obtain ⟨rfl, rfl, ef4⟩ := hp
      refine lv_istore (lv' := [(4, .int 0), (3, .int 0), (0, .ref (b + 192)), (1, .int 1), (2, .int 1)]) hx hb dX13_distance_28 hl (by decide) rfl (fun ls hl => ?_)
      refine lv_aload_n hx hb dX13_distance_30 rfl (lv_at hl 2 rfl) ?_
      refine lv_iload_n hx hb dX13_distance_31 rfl (lv_at hl 3 rfl) ?_
      refine lv_iload_n hx hb dX13_distance_32 rfl (lv_at hl 1 rfl) ?_
      refine lv_iload_n hx hb dX13_distance_33 rfl (lv_at hl 4 rfl) ?_
      refine lv_iload hx hb dX13_distance_34 (lv_at hl 0 rfl) ?_
      have h192_4 : f4 192 = .inr (13, [.ref (b + 193), .ref (b + 194), .ref (b + 195), .int 0, .int 0, .int 0, .ref (b + 196), .ref (b + 197), .int 0, .int 0, .int 0, .int 0, .int 0, .int 0, .int 0, .int (-1), .ref (b + 198), .ref (b + 199), .ref (b + 200), .ref (b + 201), .ref (b + 202), .ref (b + 203), .ref (b + 204), .ref (b + 205), .ref (b + 206), .ref (b + 207), .ref (b + 208), .int 0, .ref (b + 209), .ref (b + 210), .ref (b + 211), .ref (b + 212), .ref (b + 213), .ref (b + 214), .ref (b + 215), .int 0, .int 0, .int 0, .int 0, .ref (b + 216), .ref (b + 217), .ref (b + 218), .ref (b + 219)]) := m_sm ef4 h192_3
      have h215_1 : f1 215 = .inl (kc 1, 103041, .inl (fun _ => 0)) := m_sm ef1 h215
      have h215_2 : f2 215 = .inl (kc 1, 103041, .inl (fun _ => 0)) := m_sm ef2 h215_1
      have h215_3 : f3 215 = .inl (kc 1, 103041, .inl (fun _ => 0)) := m_sm ef3 h215_2
      have h215_4 : f4 215 = .inl (kc 1, 103041, .inl (fun _ => 0)) := m_sm ef4 h215_3
      refine m_goi (m_runV calV_X13_apart wd_1428 (a_X13_apart_6 l D kc b f4 h192_4 h215_4) C hM (by decide) h192_4 rfl hl.1 rfl rfl (Nat.le_of_ble_eq_true rfl) dX13_distance_36 ⟨Nat.le_of_ble_eq_true rfl, Nat.le_of_ble_eq_true rfl⟩ ⟨Nat.le_of_ble_eq_true rfl, Nat.le_of_ble_eq_true rfl⟩) hM (fun r68 n69 f5 H locs hp hM => ?_)
      have hp : r68 = 0 ∧ n69 = 220 ∧ f5 = va_up f4 215 (.inl (kc 1, 103041, .inl (upd (fun _ => 0) 0 0))) := hp
      obtain ⟨rfl, rfl, ef5⟩ := hp
      exact m_iret C hr hlk hM (by decide) dX13_distance_39
    by_cases s70 : a1 = 2
    · subst s70
      refine lv_iload_n hx hb dX13_distance_7 rfl (lv_at hl 2 rfl) ?_
      refine m_goi (m_runS calS_X13_isText wd_1373 (a_X13_isText_4 l D kc b f1) C hM hl.1 rfl rfl (Nat.le_of_ble_eq_true rfl) dX13_distance_8 ⟨Nat.le_of_ble_eq_true rfl, Nat.le_of_ble_eq_true rfl⟩ ⟨Nat.le_of_ble_eq_true rfl, Nat.le_of_ble_eq_true rfl⟩) hM (fun r71 n72 f2 H locs hp hM => ?_)
      have hp : r71 = 1 ∧ n72 = 220 ∧ f2 = f1 := hp
      obtain ⟨rfl, rfl, ef2⟩ := hp
      refine lv_if_ne (tgt := 17) hx hb dX13_distance_11 (by decide) (fun _ => ?_) (fun h => absurd h (by decide))
      refine lv_aload_n hx hb dX13_distance_17 rfl (lv_at hl 0 rfl) ?_
      refine lv_iload_n hx hb dX13_distance_18 rfl (lv_at hl 1 rfl) ?_
      have h192_1 : f1 192 = .inr (13, [.ref (b + 193), .ref (b + 194), .ref (b + 195), .int 0, .int 0, .int 0, .ref (b + 196), .ref (b + 197), .int 0, .int 0, .int 0, .int 0, .int 0, .int 0, .int 0, .int (-1), .ref (b + 198), .ref (b + 199), .ref (b + 200), .ref (b + 201), .ref (b + 202), .ref (b + 203), .ref (b + 204), .ref (b + 205), .ref (b + 206), .ref (b + 207), .ref (b + 208), .int 0, .ref (b + 209), .ref (b + 210), .ref (b + 211), .ref (b + 212), .ref (b + 213), .ref (b + 214), .ref (b + 215), .int 0, .int 0, .int 0, .int 0, .ref (b + 216), .ref (b + 217), .ref (b + 218), .ref (b + 219)]) := m_sm ef1 h192
      have h192_2 : f2 192 = .inr (13, [.ref (b + 193), .ref (b + 194), .ref (b + 195), .int 0, .int 0, .int 0, .ref (b + 196), .ref (b + 197), .int 0, .int 0, .int 0, .int 0, .int 0, .int 0, .int 0, .int (-1), .ref (b + 198), .ref (b + 199), .ref (b + 200), .ref (b + 201), .ref (b + 202), .ref (b + 203), .ref (b + 204), .ref (b + 205), .ref (b + 206), .ref (b + 207), .ref (b + 208), .int 0, .ref (b + 209), .ref (b + 210), .ref (b + 211), .ref (b + 212), .ref (b + 213), .ref (b + 214), .ref (b + 215), .int 0, .int 0, .int 0, .int 0, .ref (b + 216), .ref (b + 217), .ref (b + 218), .ref (b + 219)]) := m_sm ef2 h192_1
      refine m_goi (m_runV calV_X13_wordsOf wd_1376 (a_X13_wordsOf_1 l D kc b f2 h192_2) C hM (by decide) h192_2 rfl hl.1 rfl rfl (Nat.le_of_ble_eq_true rfl) dX13_distance_19 ⟨Nat.le_of_ble_eq_true rfl, Nat.le_of_ble_eq_true rfl⟩ ⟨Nat.le_of_ble_eq_true rfl, Nat.le_of_ble_eq_true rfl⟩) hM (fun r73 n74 f3 H locs hp hM => ?_)
      have hp : r73 = 0 ∧ n74 = 220 ∧ f3 = f2 := hp
      obtain ⟨rfl, rfl, ef3⟩ := hp
      refine lv_istore_n (lv' := [(3, .int 0), (0, .ref (b + 192)), (1, .int 1), (2, .int 2)]) hx hb dX13_distance_22 rfl hl (by decide) rfl (fun ls hl => ?_)
      refine lv_aload_n hx hb dX13_distance_23 rfl (lv_at hl 1 rfl) ?_
      refine lv_iload_n hx hb dX13_distance_24 rfl (lv_at hl 3 rfl) ?_
      have h192_3 : f3 192 = .inr (13, [.ref (b + 193), .ref (b + 194), .ref (b + 195), .int 0, .int 0, .int 0, .ref (b + 196), .ref (b + 197), .int 0, .int 0, .int 0, .int 0, .int 0, .int 0, .int 0, .int (-1), .ref (b + 198), .ref (b + 199), .ref (b + 200), .ref (b + 201), .ref (b + 202), .ref (b + 203), .ref (b + 204), .ref (b + 205), .ref (b + 206), .ref (b + 207), .ref (b + 208), .int 0, .ref (b + 209), .ref (b + 210), .ref (b + 211), .ref (b + 212), .ref (b + 213), .ref (b + 214), .ref (b + 215), .int 0, .int 0, .int 0, .int 0, .ref (b + 216), .ref (b + 217), .ref (b + 218), .ref (b + 219)]) := m_sm ef3 h192_2
      refine m_goi (m_runV calV_X13_wordsOf wd_1376 (a_X13_wordsOf_2 l D kc b f3 h192_3) C hM (by decide) h192_3 rfl hl.1 rfl rfl (Nat.le_of_ble_eq_true rfl) dX13_distance_25 ⟨Nat.le_of_ble_eq_true rfl, Nat.le_of_ble_eq_true rfl⟩ ⟨Nat.le_of_ble_eq_true rfl, Nat.le_of_ble_eq_true rfl⟩) hM (fun r75 n76 f4 H locs hp hM => ?_)
      have hp : r75 = 0 ∧ n76 = 220 ∧ f4 = va_up f3 192 (.inr (13, [.ref (b + 193), .ref (b + 194), .ref (b + 195), .int 0, .int 0, .int 0, .ref (b + 196), .ref (b + 197), .int 0, .int 0, .int 0, .int 0, .int 0, .int 0, .int 0, .int (-1), .ref (b + 198), .ref (b + 199), .ref (b + 200), .ref (b + 201), .ref (b + 202), .ref (b + 203), .ref (b + 204), .ref (b + 205), .ref (b + 206), .ref (b + 207), .ref (b + 208), .int 0, .ref (b + 209), .ref (b + 210), .ref (b + 211), .ref (b + 212), .ref (b + 213), .ref (b + 214), .ref (b + 215), .int 0, .int 0, .int 0, .int 0, .ref (b + 216), .ref (b + 217), .ref (b + 218), .ref (b + 219)])) := hp
      obtain ⟨rfl, rfl, ef4⟩ := hp
      refine lv_istore (lv' := [(4, .int 0), (3, .int 0), (0, .ref (b + 192)), (1, .int 1), (2, .int 2)]) hx hb dX13_distance_28 hl (by decide) rfl (fun ls hl => ?_)
      refine lv_aload_n hx hb dX13_distance_30 rfl (lv_at hl 2 rfl) ?_
      refine lv_iload_n hx hb dX13_distance_31 rfl (lv_at hl 3 rfl) ?_
      refine lv_iload_n hx hb dX13_distance_32 rfl (lv_at hl 1 rfl) ?_
      refine lv_iload_n hx hb dX13_distance_33 rfl (lv_at hl 4 rfl) ?_
      refine lv_iload hx hb dX13_distance_34 (lv_at hl 0 rfl) ?_
      have h192_4 : f4 192 = .inr (13, [.ref (b + 193), .ref (b + 194), .ref (b + 195), .int 0, .int 0, .int 0, .ref (b + 196), .ref (b + 197), .int 0, .int 0, .int 0, .int 0, .int 0, .int 0, .int 0, .int (-1), .ref (b + 198), .ref (b + 199), .ref (b + 200), .ref (b + 201), .ref (b + 202), .ref (b + 203), .ref (b + 204), .ref (b + 205), .ref (b + 206), .ref (b + 207), .ref (b + 208), .int 0, .ref (b + 209), .ref (b + 210), .ref (b + 211), .ref (b + 212), .ref (b + 213), .ref (b + 214), .ref (b + 215), .int 0, .int 0, .int 0, .int 0, .ref (b + 216), .ref (b + 217), .ref (b + 218), .ref (b + 219)]) := m_eq ef4
      have h215_1 : f1 215 = .inl (kc 1, 103041, .inl (fun _ => 0)) := m_sm ef1 h215
      have h215_2 : f2 215 = .inl (kc 1, 103041, .inl (fun _ => 0)) := m_sm ef2 h215_1
      have h215_3 : f3 215 = .inl (kc 1, 103041, .inl (fun _ => 0)) := m_sm ef3 h215_2
      have h215_4 : f4 215 = .inl (kc 1, 103041, .inl (fun _ => 0)) := m_ne ef4 h215_3 (by decide)
      refine m_goi (m_runV calV_X13_apart wd_1428 (a_X13_apart_7 l D kc b f4 h192_4 h215_4) C hM (by decide) h192_4 rfl hl.1 rfl rfl (Nat.le_of_ble_eq_true rfl) dX13_distance_36 ⟨Nat.le_of_ble_eq_true rfl, Nat.le_of_ble_eq_true rfl⟩ ⟨Nat.le_of_ble_eq_true rfl, Nat.le_of_ble_eq_true rfl⟩) hM (fun r77 n78 f5 H locs hp hM => ?_)
      have hp : r77 = 0 ∧ n78 = 220 ∧ f5 = va_up f4 215 (.inl (kc 1, 103041, .inl (upd (fun _ => 0) 0 0))) := hp
      obtain ⟨rfl, rfl, ef5⟩ := hp
      exact m_iret C hr hlk hM (by decide) dX13_distance_39
    exfalso; revert q46 q49 s52 s61 s70; simp only [← Int32.toInt_inj, Int32.lt_iff_toInt_lt, Int32.le_iff_toInt_le, m_lits]; omega
  by_cases s79 : a0 = 2
  · subst s79
    refine lv_iload_n hx hb dX13_distance_0 rfl (lv_at hl 1 rfl) ?_
    refine m_goi (m_runS calS_X13_isText wd_1373 (a_X13_isText_4 l D kc b f) C hM hl.1 rfl rfl (Nat.le_of_ble_eq_true rfl) dX13_distance_1 ⟨Nat.le_of_ble_eq_true rfl, Nat.le_of_ble_eq_true rfl⟩ ⟨Nat.le_of_ble_eq_true rfl, Nat.le_of_ble_eq_true rfl⟩) hM (fun r80 n81 f1 H locs hp hM => ?_)
    have hp : r80 = 1 ∧ n81 = 220 ∧ f1 = f := hp
    obtain ⟨rfl, rfl, ef1⟩ := hp
    refine lv_if_eq (tgt := 14) hx hb dX13_distance_4 (by decide) (fun h => absurd h (by decide)) (fun _ => ?_)
    by_cases q82 : a1 < 0
    · refine lv_iload_n hx hb dX13_distance_7 rfl (lv_at hl 2 rfl) ?_
      refine m_goi (m_runS calS_X13_isText wd_1373 (a_X13_isText_5 l D kc b f1 a1 q82) C hM hl.1 rfl rfl (Nat.le_of_ble_eq_true rfl) dX13_distance_8 ⟨Nat.le_of_ble_eq_true rfl, Nat.le_of_ble_eq_true rfl⟩ ⟨Nat.le_of_ble_eq_true rfl, Nat.le_of_ble_eq_true rfl⟩) hM (fun r83 n84 f2 H locs hp hM => ?_)
      have hp : r83 = 0 ∧ n84 = 220 ∧ f2 = f1 := hp
      obtain ⟨rfl, rfl, ef2⟩ := hp
      refine lv_if_ne (tgt := 17) hx hb dX13_distance_11 (by decide) (fun h => absurd (by decide) h) (fun _ => ?_)
      refine lv_bipush (v := (-2)) hx hb dX13_distance_14 (by decide) ?_
      exact m_iret C hr hlk hM (by unfold p_distance; rw [if_neg (by revert q82; simp only [Int32.lt_iff_toInt_lt, Int32.le_iff_toInt_le, m_lits]; omega)]) dX13_distance_16
    by_cases q85 : 2 < a1
    · refine lv_iload_n hx hb dX13_distance_7 rfl (lv_at hl 2 rfl) ?_
      refine m_goi (m_runS calS_X13_isText wd_1373 (a_X13_isText_6 l D kc b f1 a1 q82 q85) C hM hl.1 rfl rfl (Nat.le_of_ble_eq_true rfl) dX13_distance_8 ⟨Nat.le_of_ble_eq_true rfl, Nat.le_of_ble_eq_true rfl⟩ ⟨Nat.le_of_ble_eq_true rfl, Nat.le_of_ble_eq_true rfl⟩) hM (fun r86 n87 f2 H locs hp hM => ?_)
      have hp : r86 = 0 ∧ n87 = 220 ∧ f2 = f1 := hp
      obtain ⟨rfl, rfl, ef2⟩ := hp
      refine lv_if_ne (tgt := 17) hx hb dX13_distance_11 (by decide) (fun h => absurd (by decide) h) (fun _ => ?_)
      refine lv_bipush (v := (-2)) hx hb dX13_distance_14 (by decide) ?_
      exact m_iret C hr hlk hM (by unfold p_distance; rw [if_neg (by revert q82 q85; simp only [Int32.lt_iff_toInt_lt, Int32.le_iff_toInt_le, m_lits]; omega)]) dX13_distance_16
    by_cases s88 : a1 = 0
    · subst s88
      refine lv_iload_n hx hb dX13_distance_7 rfl (lv_at hl 2 rfl) ?_
      refine m_goi (m_runS calS_X13_isText wd_1373 (a_X13_isText_2 l D kc b f1) C hM hl.1 rfl rfl (Nat.le_of_ble_eq_true rfl) dX13_distance_8 ⟨Nat.le_of_ble_eq_true rfl, Nat.le_of_ble_eq_true rfl⟩ ⟨Nat.le_of_ble_eq_true rfl, Nat.le_of_ble_eq_true rfl⟩) hM (fun r89 n90 f2 H locs hp hM => ?_)
      have hp : r89 = 1 ∧ n90 = 220 ∧ f2 = f1 := hp
      obtain ⟨rfl, rfl, ef2⟩ := hp
      refine lv_if_ne (tgt := 17) hx hb dX13_distance_11 (by decide) (fun _ => ?_) (fun h => absurd h (by decide))
      refine lv_aload_n hx hb dX13_distance_17 rfl (lv_at hl 0 rfl) ?_
      refine lv_iload_n hx hb dX13_distance_18 rfl (lv_at hl 1 rfl) ?_
      have h192_1 : f1 192 = .inr (13, [.ref (b + 193), .ref (b + 194), .ref (b + 195), .int 0, .int 0, .int 0, .ref (b + 196), .ref (b + 197), .int 0, .int 0, .int 0, .int 0, .int 0, .int 0, .int 0, .int (-1), .ref (b + 198), .ref (b + 199), .ref (b + 200), .ref (b + 201), .ref (b + 202), .ref (b + 203), .ref (b + 204), .ref (b + 205), .ref (b + 206), .ref (b + 207), .ref (b + 208), .int 0, .ref (b + 209), .ref (b + 210), .ref (b + 211), .ref (b + 212), .ref (b + 213), .ref (b + 214), .ref (b + 215), .int 0, .int 0, .int 0, .int 0, .ref (b + 216), .ref (b + 217), .ref (b + 218), .ref (b + 219)]) := m_sm ef1 h192
      have h192_2 : f2 192 = .inr (13, [.ref (b + 193), .ref (b + 194), .ref (b + 195), .int 0, .int 0, .int 0, .ref (b + 196), .ref (b + 197), .int 0, .int 0, .int 0, .int 0, .int 0, .int 0, .int 0, .int (-1), .ref (b + 198), .ref (b + 199), .ref (b + 200), .ref (b + 201), .ref (b + 202), .ref (b + 203), .ref (b + 204), .ref (b + 205), .ref (b + 206), .ref (b + 207), .ref (b + 208), .int 0, .ref (b + 209), .ref (b + 210), .ref (b + 211), .ref (b + 212), .ref (b + 213), .ref (b + 214), .ref (b + 215), .int 0, .int 0, .int 0, .int 0, .ref (b + 216), .ref (b + 217), .ref (b + 218), .ref (b + 219)]) := m_sm ef2 h192_1
      refine m_goi (m_runV calV_X13_wordsOf wd_1376 (a_X13_wordsOf_2 l D kc b f2 h192_2) C hM (by decide) h192_2 rfl hl.1 rfl rfl (Nat.le_of_ble_eq_true rfl) dX13_distance_19 ⟨Nat.le_of_ble_eq_true rfl, Nat.le_of_ble_eq_true rfl⟩ ⟨Nat.le_of_ble_eq_true rfl, Nat.le_of_ble_eq_true rfl⟩) hM (fun r91 n92 f3 H locs hp hM => ?_)
      have hp : r91 = 0 ∧ n92 = 220 ∧ f3 = va_up f2 192 (.inr (13, [.ref (b + 193), .ref (b + 194), .ref (b + 195), .int 0, .int 0, .int 0, .ref (b + 196), .ref (b + 197), .int 0, .int 0, .int 0, .int 0, .int 0, .int 0, .int 0, .int (-1), .ref (b + 198), .ref (b + 199), .ref (b + 200), .ref (b + 201), .ref (b + 202), .ref (b + 203), .ref (b + 204), .ref (b + 205), .ref (b + 206), .ref (b + 207), .ref (b + 208), .int 0, .ref (b + 209), .ref (b + 210), .ref (b + 211), .ref (b + 212), .ref (b + 213), .ref (b + 214), .ref (b + 215), .int 0, .int 0, .int 0, .int 0, .ref (b + 216), .ref (b + 217), .ref (b + 218), .ref (b + 219)])) := hp
      obtain ⟨rfl, rfl, ef3⟩ := hp
      refine lv_istore_n (lv' := [(3, .int 0), (0, .ref (b + 192)), (1, .int 2), (2, .int 0)]) hx hb dX13_distance_22 rfl hl (by decide) rfl (fun ls hl => ?_)
      refine lv_aload_n hx hb dX13_distance_23 rfl (lv_at hl 1 rfl) ?_
      refine lv_iload_n hx hb dX13_distance_24 rfl (lv_at hl 3 rfl) ?_
      have h192_3 : f3 192 = .inr (13, [.ref (b + 193), .ref (b + 194), .ref (b + 195), .int 0, .int 0, .int 0, .ref (b + 196), .ref (b + 197), .int 0, .int 0, .int 0, .int 0, .int 0, .int 0, .int 0, .int (-1), .ref (b + 198), .ref (b + 199), .ref (b + 200), .ref (b + 201), .ref (b + 202), .ref (b + 203), .ref (b + 204), .ref (b + 205), .ref (b + 206), .ref (b + 207), .ref (b + 208), .int 0, .ref (b + 209), .ref (b + 210), .ref (b + 211), .ref (b + 212), .ref (b + 213), .ref (b + 214), .ref (b + 215), .int 0, .int 0, .int 0, .int 0, .ref (b + 216), .ref (b + 217), .ref (b + 218), .ref (b + 219)]) := m_eq ef3
      refine m_goi (m_runV calV_X13_wordsOf wd_1376 (a_X13_wordsOf_0 l D kc b f3 h192_3) C hM (by decide) h192_3 rfl hl.1 rfl rfl (Nat.le_of_ble_eq_true rfl) dX13_distance_25 ⟨Nat.le_of_ble_eq_true rfl, Nat.le_of_ble_eq_true rfl⟩ ⟨Nat.le_of_ble_eq_true rfl, Nat.le_of_ble_eq_true rfl⟩) hM (fun r93 n94 f4 H locs hp hM => ?_)
      have hp : r93 = 0 ∧ n94 = 220 ∧ f4 = f3 := hp
      obtain ⟨rfl, rfl, ef4⟩ := hp
      refine lv_istore (lv' := [(4, .int 0), (3, .int 0), (0, .ref (b + 192)), (1, .int 2), (2, .int 0)]) hx hb dX13_distance_28 hl (by decide) rfl (fun ls hl => ?_)
      refine lv_aload_n hx hb dX13_distance_30 rfl (lv_at hl 2 rfl) ?_
      refine lv_iload_n hx hb dX13_distance_31 rfl (lv_at hl 3 rfl) ?_
      refine lv_iload_n hx hb dX13_distance_32 rfl (lv_at hl 1 rfl) ?_
      refine lv_iload_n hx hb dX13_distance_33 rfl (lv_at hl 4 rfl) ?_
      refine lv_iload hx hb dX13_distance_34 (lv_at hl 0 rfl) ?_
      have h192_4 : f4 192 = .inr (13, [.ref (b + 193), .ref (b + 194), .ref (b + 195), .int 0, .int 0, .int 0, .ref (b + 196), .ref (b + 197), .int 0, .int 0, .int 0, .int 0, .int 0, .int 0, .int 0, .int (-1), .ref (b + 198), .ref (b + 199), .ref (b + 200), .ref (b + 201), .ref (b + 202), .ref (b + 203), .ref (b + 204), .ref (b + 205), .ref (b + 206), .ref (b + 207), .ref (b + 208), .int 0, .ref (b + 209), .ref (b + 210), .ref (b + 211), .ref (b + 212), .ref (b + 213), .ref (b + 214), .ref (b + 215), .int 0, .int 0, .int 0, .int 0, .ref (b + 216), .ref (b + 217), .ref (b + 218), .ref (b + 219)]) := m_sm ef4 h192_3
      have h215_1 : f1 215 = .inl (kc 1, 103041, .inl (fun _ => 0)) := m_sm ef1 h215
      have h215_2 : f2 215 = .inl (kc 1, 103041, .inl (fun _ => 0)) := m_sm ef2 h215_1
      have h215_3 : f3 215 = .inl (kc 1, 103041, .inl (fun _ => 0)) := m_ne ef3 h215_2 (by decide)
      have h215_4 : f4 215 = .inl (kc 1, 103041, .inl (fun _ => 0)) := m_sm ef4 h215_3
      refine m_goi (m_runV calV_X13_apart wd_1428 (a_X13_apart_8 l D kc b f4 h192_4 h215_4) C hM (by decide) h192_4 rfl hl.1 rfl rfl (Nat.le_of_ble_eq_true rfl) dX13_distance_36 ⟨Nat.le_of_ble_eq_true rfl, Nat.le_of_ble_eq_true rfl⟩ ⟨Nat.le_of_ble_eq_true rfl, Nat.le_of_ble_eq_true rfl⟩) hM (fun r95 n96 f5 H locs hp hM => ?_)
      have hp : r95 = 0 ∧ n96 = 220 ∧ f5 = va_up f4 215 (.inl (kc 1, 103041, .inl (upd (fun _ => 0) 0 0))) := hp
      obtain ⟨rfl, rfl, ef5⟩ := hp
      exact m_iret C hr hlk hM (by decide) dX13_distance_39
    by_cases s97 : a1 = 1
    · subst s97
      refine lv_iload_n hx hb dX13_distance_7 rfl (lv_at hl 2 rfl) ?_
      refine m_goi (m_runS calS_X13_isText wd_1373 (a_X13_isText_3 l D kc b f1) C hM hl.1 rfl rfl (Nat.le_of_ble_eq_true rfl) dX13_distance_8 ⟨Nat.le_of_ble_eq_true rfl, Nat.le_of_ble_eq_true rfl⟩ ⟨Nat.le_of_ble_eq_true rfl, Nat.le_of_ble_eq_true rfl⟩) hM (fun r98 n99 f2 H locs hp hM => ?_)
      have hp : r98 = 1 ∧ n99 = 220 ∧ f2 = f1 := hp
      obtain ⟨rfl, rfl, ef2⟩ := hp
      refine lv_if_ne (tgt := 17) hx hb dX13_distance_11 (by decide) (fun _ => ?_) (fun h => absurd h (by decide))
      refine lv_aload_n hx hb dX13_distance_17 rfl (lv_at hl 0 rfl) ?_
      refine lv_iload_n hx hb dX13_distance_18 rfl (lv_at hl 1 rfl) ?_
      have h192_1 : f1 192 = .inr (13, [.ref (b + 193), .ref (b + 194), .ref (b + 195), .int 0, .int 0, .int 0, .ref (b + 196), .ref (b + 197), .int 0, .int 0, .int 0, .int 0, .int 0, .int 0, .int 0, .int (-1), .ref (b + 198), .ref (b + 199), .ref (b + 200), .ref (b + 201), .ref (b + 202), .ref (b + 203), .ref (b + 204), .ref (b + 205), .ref (b + 206), .ref (b + 207), .ref (b + 208), .int 0, .ref (b + 209), .ref (b + 210), .ref (b + 211), .ref (b + 212), .ref (b + 213), .ref (b + 214), .ref (b + 215), .int 0, .int 0, .int 0, .int 0, .ref (b + 216), .ref (b + 217), .ref (b + 218), .ref (b + 219)]) := m_sm ef1 h192
      have h192_2 : f2 192 = .inr (13, [.ref (b + 193), .ref (b + 194), .ref (b + 195), .int 0, .int 0, .int 0, .ref (b + 196), .ref (b + 197), .int 0, .int 0, .int 0, .int 0, .int 0, .int 0, .int 0, .int (-1), .ref (b + 198), .ref (b + 199), .ref (b + 200), .ref (b + 201), .ref (b + 202), .ref (b + 203), .ref (b + 204), .ref (b + 205), .ref (b + 206), .ref (b + 207), .ref (b + 208), .int 0, .ref (b + 209), .ref (b + 210), .ref (b + 211), .ref (b + 212), .ref (b + 213), .ref (b + 214), .ref (b + 215), .int 0, .int 0, .int 0, .int 0, .ref (b + 216), .ref (b + 217), .ref (b + 218), .ref (b + 219)]) := m_sm ef2 h192_1
      refine m_goi (m_runV calV_X13_wordsOf wd_1376 (a_X13_wordsOf_2 l D kc b f2 h192_2) C hM (by decide) h192_2 rfl hl.1 rfl rfl (Nat.le_of_ble_eq_true rfl) dX13_distance_19 ⟨Nat.le_of_ble_eq_true rfl, Nat.le_of_ble_eq_true rfl⟩ ⟨Nat.le_of_ble_eq_true rfl, Nat.le_of_ble_eq_true rfl⟩) hM (fun r100 n101 f3 H locs hp hM => ?_)
      have hp : r100 = 0 ∧ n101 = 220 ∧ f3 = va_up f2 192 (.inr (13, [.ref (b + 193), .ref (b + 194), .ref (b + 195), .int 0, .int 0, .int 0, .ref (b + 196), .ref (b + 197), .int 0, .int 0, .int 0, .int 0, .int 0, .int 0, .int 0, .int (-1), .ref (b + 198), .ref (b + 199), .ref (b + 200), .ref (b + 201), .ref (b + 202), .ref (b + 203), .ref (b + 204), .ref (b + 205), .ref (b + 206), .ref (b + 207), .ref (b + 208), .int 0, .ref (b + 209), .ref (b + 210), .ref (b + 211), .ref (b + 212), .ref (b + 213), .ref (b + 214), .ref (b + 215), .int 0, .int 0, .int 0, .int 0, .ref (b + 216), .ref (b + 217), .ref (b + 218), .ref (b + 219)])) := hp
      obtain ⟨rfl, rfl, ef3⟩ := hp
      refine lv_istore_n (lv' := [(3, .int 0), (0, .ref (b + 192)), (1, .int 2), (2, .int 1)]) hx hb dX13_distance_22 rfl hl (by decide) rfl (fun ls hl => ?_)
      refine lv_aload_n hx hb dX13_distance_23 rfl (lv_at hl 1 rfl) ?_
      refine lv_iload_n hx hb dX13_distance_24 rfl (lv_at hl 3 rfl) ?_
      have h192_3 : f3 192 = .inr (13, [.ref (b + 193), .ref (b + 194), .ref (b + 195), .int 0, .int 0, .int 0, .ref (b + 196), .ref (b + 197), .int 0, .int 0, .int 0, .int 0, .int 0, .int 0, .int 0, .int (-1), .ref (b + 198), .ref (b + 199), .ref (b + 200), .ref (b + 201), .ref (b + 202), .ref (b + 203), .ref (b + 204), .ref (b + 205), .ref (b + 206), .ref (b + 207), .ref (b + 208), .int 0, .ref (b + 209), .ref (b + 210), .ref (b + 211), .ref (b + 212), .ref (b + 213), .ref (b + 214), .ref (b + 215), .int 0, .int 0, .int 0, .int 0, .ref (b + 216), .ref (b + 217), .ref (b + 218), .ref (b + 219)]) := m_eq ef3
      refine m_goi (m_runV calV_X13_wordsOf wd_1376 (a_X13_wordsOf_1 l D kc b f3 h192_3) C hM (by decide) h192_3 rfl hl.1 rfl rfl (Nat.le_of_ble_eq_true rfl) dX13_distance_25 ⟨Nat.le_of_ble_eq_true rfl, Nat.le_of_ble_eq_true rfl⟩ ⟨Nat.le_of_ble_eq_true rfl, Nat.le_of_ble_eq_true rfl⟩) hM (fun r102 n103 f4 H locs hp hM => ?_)
      have hp : r102 = 0 ∧ n103 = 220 ∧ f4 = f3 := hp
      obtain ⟨rfl, rfl, ef4⟩ := hp
      refine lv_istore (lv' := [(4, .int 0), (3, .int 0), (0, .ref (b + 192)), (1, .int 2), (2, .int 1)]) hx hb dX13_distance_28 hl (by decide) rfl (fun ls hl => ?_)
      refine lv_aload_n hx hb dX13_distance_30 rfl (lv_at hl 2 rfl) ?_
      refine lv_iload_n hx hb dX13_distance_31 rfl (lv_at hl 3 rfl) ?_
      refine lv_iload_n hx hb dX13_distance_32 rfl (lv_at hl 1 rfl) ?_
      refine lv_iload_n hx hb dX13_distance_33 rfl (lv_at hl 4 rfl) ?_
      refine lv_iload hx hb dX13_distance_34 (lv_at hl 0 rfl) ?_
      have h192_4 : f4 192 = .inr (13, [.ref (b + 193), .ref (b + 194), .ref (b + 195), .int 0, .int 0, .int 0, .ref (b + 196), .ref (b + 197), .int 0, .int 0, .int 0, .int 0, .int 0, .int 0, .int 0, .int (-1), .ref (b + 198), .ref (b + 199), .ref (b + 200), .ref (b + 201), .ref (b + 202), .ref (b + 203), .ref (b + 204), .ref (b + 205), .ref (b + 206), .ref (b + 207), .ref (b + 208), .int 0, .ref (b + 209), .ref (b + 210), .ref (b + 211), .ref (b + 212), .ref (b + 213), .ref (b + 214), .ref (b + 215), .int 0, .int 0, .int 0, .int 0, .ref (b + 216), .ref (b + 217), .ref (b + 218), .ref (b + 219)]) := m_sm ef4 h192_3
      have h215_1 : f1 215 = .inl (kc 1, 103041, .inl (fun _ => 0)) := m_sm ef1 h215
      have h215_2 : f2 215 = .inl (kc 1, 103041, .inl (fun _ => 0)) := m_sm ef2 h215_1
      have h215_3 : f3 215 = .inl (kc 1, 103041, .inl (fun _ => 0)) := m_ne ef3 h215_2 (by decide)
      have h215_4 : f4 215 = .inl (kc 1, 103041, .inl (fun _ => 0)) := m_sm ef4 h215_3
      refine m_goi (m_runV calV_X13_apart wd_1428 (a_X13_apart_0 l D kc b f4 h192_4 h215_4) C hM (by decide) h192_4 rfl hl.1 rfl rfl (Nat.le_of_ble_eq_true rfl) dX13_distance_36 ⟨Nat.le_of_ble_eq_true rfl, Nat.le_of_ble_eq_true rfl⟩ ⟨Nat.le_of_ble_eq_true rfl, Nat.le_of_ble_eq_true rfl⟩) hM (fun r104 n105 f5 H locs hp hM => ?_)
      have hp : r104 = 0 ∧ n105 = 220 ∧ f5 = va_up f4 215 (.inl (kc 1, 103041, .inl (upd (fun _ => 0) 0 0))) := hp
      obtain ⟨rfl, rfl, ef5⟩ := hp
      exact m_iret C hr hlk hM (by decide) dX13_distance_39
    by_cases s106 : a1 = 2
    · subst s106
      refine lv_iload_n hx hb dX13_distance_7 rfl (lv_at hl 2 rfl) ?_
      refine m_goi (m_runS calS_X13_isText wd_1373 (a_X13_isText_4 l D kc b f1) C hM hl.1 rfl rfl (Nat.le_of_ble_eq_true rfl) dX13_distance_8 ⟨Nat.le_of_ble_eq_true rfl, Nat.le_of_ble_eq_true rfl⟩ ⟨Nat.le_of_ble_eq_true rfl, Nat.le_of_ble_eq_true rfl⟩) hM (fun r107 n108 f2 H locs hp hM => ?_)
      have hp : r107 = 1 ∧ n108 = 220 ∧ f2 = f1 := hp
      obtain ⟨rfl, rfl, ef2⟩ := hp
      refine lv_if_ne (tgt := 17) hx hb dX13_distance_11 (by decide) (fun _ => ?_) (fun h => absurd h (by decide))
      refine lv_aload_n hx hb dX13_distance_17 rfl (lv_at hl 0 rfl) ?_
      refine lv_iload_n hx hb dX13_distance_18 rfl (lv_at hl 1 rfl) ?_
      have h192_1 : f1 192 = .inr (13, [.ref (b + 193), .ref (b + 194), .ref (b + 195), .int 0, .int 0, .int 0, .ref (b + 196), .ref (b + 197), .int 0, .int 0, .int 0, .int 0, .int 0, .int 0, .int 0, .int (-1), .ref (b + 198), .ref (b + 199), .ref (b + 200), .ref (b + 201), .ref (b + 202), .ref (b + 203), .ref (b + 204), .ref (b + 205), .ref (b + 206), .ref (b + 207), .ref (b + 208), .int 0, .ref (b + 209), .ref (b + 210), .ref (b + 211), .ref (b + 212), .ref (b + 213), .ref (b + 214), .ref (b + 215), .int 0, .int 0, .int 0, .int 0, .ref (b + 216), .ref (b + 217), .ref (b + 218), .ref (b + 219)]) := m_sm ef1 h192
      have h192_2 : f2 192 = .inr (13, [.ref (b + 193), .ref (b + 194), .ref (b + 195), .int 0, .int 0, .int 0, .ref (b + 196), .ref (b + 197), .int 0, .int 0, .int 0, .int 0, .int 0, .int 0, .int 0, .int (-1), .ref (b + 198), .ref (b + 199), .ref (b + 200), .ref (b + 201), .ref (b + 202), .ref (b + 203), .ref (b + 204), .ref (b + 205), .ref (b + 206), .ref (b + 207), .ref (b + 208), .int 0, .ref (b + 209), .ref (b + 210), .ref (b + 211), .ref (b + 212), .ref (b + 213), .ref (b + 214), .ref (b + 215), .int 0, .int 0, .int 0, .int 0, .ref (b + 216), .ref (b + 217), .ref (b + 218), .ref (b + 219)]) := m_sm ef2 h192_1
      refine m_goi (m_runV calV_X13_wordsOf wd_1376 (a_X13_wordsOf_2 l D kc b f2 h192_2) C hM (by decide) h192_2 rfl hl.1 rfl rfl (Nat.le_of_ble_eq_true rfl) dX13_distance_19 ⟨Nat.le_of_ble_eq_true rfl, Nat.le_of_ble_eq_true rfl⟩ ⟨Nat.le_of_ble_eq_true rfl, Nat.le_of_ble_eq_true rfl⟩) hM (fun r109 n110 f3 H locs hp hM => ?_)
      have hp : r109 = 0 ∧ n110 = 220 ∧ f3 = va_up f2 192 (.inr (13, [.ref (b + 193), .ref (b + 194), .ref (b + 195), .int 0, .int 0, .int 0, .ref (b + 196), .ref (b + 197), .int 0, .int 0, .int 0, .int 0, .int 0, .int 0, .int 0, .int (-1), .ref (b + 198), .ref (b + 199), .ref (b + 200), .ref (b + 201), .ref (b + 202), .ref (b + 203), .ref (b + 204), .ref (b + 205), .ref (b + 206), .ref (b + 207), .ref (b + 208), .int 0, .ref (b + 209), .ref (b + 210), .ref (b + 211), .ref (b + 212), .ref (b + 213), .ref (b + 214), .ref (b + 215), .int 0, .int 0, .int 0, .int 0, .ref (b + 216), .ref (b + 217), .ref (b + 218), .ref (b + 219)])) := hp
      obtain ⟨rfl, rfl, ef3⟩ := hp
      refine lv_istore_n (lv' := [(3, .int 0), (0, .ref (b + 192)), (1, .int 2), (2, .int 2)]) hx hb dX13_distance_22 rfl hl (by decide) rfl (fun ls hl => ?_)
      refine lv_aload_n hx hb dX13_distance_23 rfl (lv_at hl 1 rfl) ?_
      refine lv_iload_n hx hb dX13_distance_24 rfl (lv_at hl 3 rfl) ?_
      have h192_3 : f3 192 = .inr (13, [.ref (b + 193), .ref (b + 194), .ref (b + 195), .int 0, .int 0, .int 0, .ref (b + 196), .ref (b + 197), .int 0, .int 0, .int 0, .int 0, .int 0, .int 0, .int 0, .int (-1), .ref (b + 198), .ref (b + 199), .ref (b + 200), .ref (b + 201), .ref (b + 202), .ref (b + 203), .ref (b + 204), .ref (b + 205), .ref (b + 206), .ref (b + 207), .ref (b + 208), .int 0, .ref (b + 209), .ref (b + 210), .ref (b + 211), .ref (b + 212), .ref (b + 213), .ref (b + 214), .ref (b + 215), .int 0, .int 0, .int 0, .int 0, .ref (b + 216), .ref (b + 217), .ref (b + 218), .ref (b + 219)]) := m_eq ef3
      refine m_goi (m_runV calV_X13_wordsOf wd_1376 (a_X13_wordsOf_2 l D kc b f3 h192_3) C hM (by decide) h192_3 rfl hl.1 rfl rfl (Nat.le_of_ble_eq_true rfl) dX13_distance_25 ⟨Nat.le_of_ble_eq_true rfl, Nat.le_of_ble_eq_true rfl⟩ ⟨Nat.le_of_ble_eq_true rfl, Nat.le_of_ble_eq_true rfl⟩) hM (fun r111 n112 f4 H locs hp hM => ?_)
      have hp : r111 = 0 ∧ n112 = 220 ∧ f4 = va_up f3 192 (.inr (13, [.ref (b + 193), .ref (b + 194), .ref (b + 195), .int 0, .int 0, .int 0, .ref (b + 196), .ref (b + 197), .int 0, .int 0, .int 0, .int 0, .int 0, .int 0, .int 0, .int (-1), .ref (b + 198), .ref (b + 199), .ref (b + 200), .ref (b + 201), .ref (b + 202), .ref (b + 203), .ref (b + 204), .ref (b + 205), .ref (b + 206), .ref (b + 207), .ref (b + 208), .int 0, .ref (b + 209), .ref (b + 210), .ref (b + 211), .ref (b + 212), .ref (b + 213), .ref (b + 214), .ref (b + 215), .int 0, .int 0, .int 0, .int 0, .ref (b + 216), .ref (b + 217), .ref (b + 218), .ref (b + 219)])) := hp
      obtain ⟨rfl, rfl, ef4⟩ := hp
      refine lv_istore (lv' := [(4, .int 0), (3, .int 0), (0, .ref (b + 192)), (1, .int 2), (2, .int 2)]) hx hb dX13_distance_28 hl (by decide) rfl (fun ls hl => ?_)
      refine lv_aload_n hx hb dX13_distance_30 rfl (lv_at hl 2 rfl) ?_
      refine lv_iload_n hx hb dX13_distance_31 rfl (lv_at hl 3 rfl) ?_
      refine lv_iload_n hx hb dX13_distance_32 rfl (lv_at hl 1 rfl) ?_
      refine lv_iload_n hx hb dX13_distance_33 rfl (lv_at hl 4 rfl) ?_
      refine lv_iload hx hb dX13_distance_34 (lv_at hl 0 rfl) ?_
      have h192_4 : f4 192 = .inr (13, [.ref (b + 193), .ref (b + 194), .ref (b + 195), .int 0, .int 0, .int 0, .ref (b + 196), .ref (b + 197), .int 0, .int 0, .int 0, .int 0, .int 0, .int 0, .int 0, .int (-1), .ref (b + 198), .ref (b + 199), .ref (b + 200), .ref (b + 201), .ref (b + 202), .ref (b + 203), .ref (b + 204), .ref (b + 205), .ref (b + 206), .ref (b + 207), .ref (b + 208), .int 0, .ref (b + 209), .ref (b + 210), .ref (b + 211), .ref (b + 212), .ref (b + 213), .ref (b + 214), .ref (b + 215), .int 0, .int 0, .int 0, .int 0, .ref (b + 216), .ref (b + 217), .ref (b + 218), .ref (b + 219)]) := m_eq ef4
      have h215_1 : f1 215 = .inl (kc 1, 103041, .inl (fun _ => 0)) := m_sm ef1 h215
      have h215_2 : f2 215 = .inl (kc 1, 103041, .inl (fun _ => 0)) := m_sm ef2 h215_1
      have h215_3 : f3 215 = .inl (kc 1, 103041, .inl (fun _ => 0)) := m_ne ef3 h215_2 (by decide)
      have h215_4 : f4 215 = .inl (kc 1, 103041, .inl (fun _ => 0)) := m_ne ef4 h215_3 (by decide)
      refine m_goi (m_runV calV_X13_apart wd_1428 (a_X13_apart_9 l D kc b f4 h192_4 h215_4) C hM (by decide) h192_4 rfl hl.1 rfl rfl (Nat.le_of_ble_eq_true rfl) dX13_distance_36 ⟨Nat.le_of_ble_eq_true rfl, Nat.le_of_ble_eq_true rfl⟩ ⟨Nat.le_of_ble_eq_true rfl, Nat.le_of_ble_eq_true rfl⟩) hM (fun r113 n114 f5 H locs hp hM => ?_)
      have hp : r113 = 0 ∧ n114 = 220 ∧ f5 = va_up f4 215 (.inl (kc 1, 103041, .inl (upd (fun _ => 0) 0 0))) := hp
      obtain ⟨rfl, rfl, ef5⟩ := hp
      exact m_iret C hr hlk hM (by decide) dX13_distance_39
    exfalso; revert q82 q85 s88 s97 s106; simp only [← Int32.toInt_inj, Int32.lt_iff_toInt_lt, Int32.le_iff_toInt_le, m_lits]; omega
  exfalso; revert q1 q4 s7 s43 s79; simp only [← Int32.toInt_inj, Int32.lt_iff_toInt_lt, Int32.le_iff_toInt_le, m_lits]; omega
set_option maxHeartbeats 4000000 in
set_option maxRecDepth 100000 in
theorem a_X13_in_3 (l : Launch) (D : va_G) (kc : Nat → ClassId) (b : Nat) (f : Nat → va_E) : mMi l yX13_in cX13_in 6 .boolean 1 0 0 D kc b 220 f [.long 0, .long 1, .long 60] (fun r u => r = 0 ∧ u.1 = 220 ∧ u.2 = f) := by
  refine m_start (by decide) (Nat.le_of_ble_eq_true rfl) ?_
  intro p e s m below meth c C hr hlk hnm hM ls hl
  obtain ⟨hx, hb, hml, hown, hts, hE, hbs⟩ := id C
  have hl : lv_has ls 6 [(0, .long 0), (2, .long 1), (4, .long 60)] := hl
  refine lv_lload_n hx hb dX13_in_0 rfl (lv_at hl 0 rfl) ?_
  refine lv_lload_n hx hb dX13_in_1 rfl (lv_at hl 1 rfl) ?_
  refine W.lcmp hx hb dX13_in_2 ?_
  refine m_vi (y := (-1)) (by decide) ?_
  refine lv_if_lt (tgt := 17) hx hb dX13_in_3 (by decide) (fun _ => ?_) (fun h => absurd (by decide) h)
  refine lv_iconst (v := 0) hx hb dX13_in_17 (by decide) ?_
  exact m_zret C hr hlk hM rfl (⟨rfl, rfl, rfl⟩) dX13_in_18
set_option maxHeartbeats 4000000 in
set_option maxRecDepth 100000 in
theorem k_m_next (l : Launch) (D : va_G) (kc : Nat → ClassId) (b : Nat) (f : Nat → va_E) (h192 : f 192 = .inr (13, [.ref (b + 193), .ref (b + 194), .ref (b + 195), .int 0, .int 0, .int 0, .ref (b + 196), .ref (b + 197), .int 0, .int 0, .int 0, .int 0, .int 0, .int 0, .int 0, .int (-1), .ref (b + 198), .ref (b + 199), .ref (b + 200), .ref (b + 201), .ref (b + 202), .ref (b + 203), .ref (b + 204), .ref (b + 205), .ref (b + 206), .ref (b + 207), .ref (b + 208), .int 0, .ref (b + 209), .ref (b + 210), .ref (b + 211), .ref (b + 212), .ref (b + 213), .ref (b + 214), .ref (b + 215), .int 0, .int 0, .int 0, .int 0, .ref (b + 216), .ref (b + 217), .ref (b + 218), .ref (b + 219)])) : mMi l yX13_next cX13_next 2 .int 2 0 0 D kc b 220 f [.ref (b + 192)] (fun r u => r = (-4)) := by
  refine m_start (by decide) (Nat.le_of_ble_eq_true rfl) ?_
  intro p e s m below meth c C hr hlk hnm hM ls hl
  obtain ⟨hx, hb, hml, hown, hts, hE, hbs⟩ := id C
  have hl : lv_has ls 2 [(0, .ref (b + 192))] := hl
  refine lv_aload_n hx hb dX13_next_0 rfl (lv_at hl 0 rfl) ?_
  refine m_get fl_X13_156_X13 C hM (i := 192) (by decide) h192 (v := .int 0) rfl dX13_next_1 ?_
  refine lv_i2l (v := 0) hx hb dX13_next_4 (by decide) ?_
  refine lv_lconst (v := 1) hx hb dX13_next_5 (by decide) ?_
  refine lv_ldc2 (v := 60) hx hb hown (hts _ wd_1463) dX13_next_6 ?_
  refine m_goi (m_runS calS_X13_in wd_1221 (a_X13_in_3 l D kc b f) C hM hl.1 rfl rfl (Nat.le_of_ble_eq_true rfl) dX13_next_9 ⟨Nat.le_of_ble_eq_true rfl, Nat.le_of_ble_eq_true rfl⟩ ⟨Nat.le_of_ble_eq_true rfl, Nat.le_of_ble_eq_true rfl⟩) hM (fun r1 n2 f1 H locs hp hM => ?_)
  have hp : r1 = 0 ∧ n2 = 220 ∧ f1 = f := hp
  obtain ⟨rfl, rfl, ef1⟩ := hp
  refine lv_if_ne (tgt := 18) hx hb dX13_next_12 (by decide) (fun h => absurd (by decide) h) (fun _ => ?_)
  refine lv_bipush (v := (-4)) hx hb dX13_next_15 (by decide) ?_
  exact m_iret C hr hlk hM (rfl) dX13_next_17
set_option maxHeartbeats 4000000 in
set_option maxRecDepth 100000 in
theorem k_m_error (l : Launch) (D : va_G) (kc : Nat → ClassId) (b : Nat) (f : Nat → va_E) (a0 : Int32) (a1 : Int32) (h192 : f 192 = .inr (13, [.ref (b + 193), .ref (b + 194), .ref (b + 195), .int 0, .int 0, .int 0, .ref (b + 196), .ref (b + 197), .int 0, .int 0, .int 0, .int 0, .int 0, .int 0, .int 0, .int (-1), .ref (b + 198), .ref (b + 199), .ref (b + 200), .ref (b + 201), .ref (b + 202), .ref (b + 203), .ref (b + 204), .ref (b + 205), .ref (b + 206), .ref (b + 207), .ref (b + 208), .int 0, .ref (b + 209), .ref (b + 210), .ref (b + 211), .ref (b + 212), .ref (b + 213), .ref (b + 214), .ref (b + 215), .int 0, .int 0, .int 0, .int 0, .ref (b + 216), .ref (b + 217), .ref (b + 218), .ref (b + 219)])) : mMi l yX13_error cX13_error 4 .int 3 0 0 D kc b 220 f [.ref (b + 192), .int a0, .int a1] (fun r u => r = (-2)) := by
  refine m_start (by decide) (Nat.le_of_ble_eq_true rfl) ?_
  intro p e s m below meth c C hr hlk hnm hM ls hl
  obtain ⟨hx, hb, hml, hown, hts, hE, hbs⟩ := id C
  have hl : lv_has ls 4 [(0, .ref (b + 192)), (1, .int a0), (2, .int a1)] := hl
  refine lv_aload_n hx hb dX13_error_0 rfl (lv_at hl 0 rfl) ?_
  refine lv_iload_n hx hb dX13_error_1 rfl (lv_at hl 1 rfl) ?_
  refine m_goi (m_runV calV_X13_isMark wd_1310 (a_X13_isMark_0 l D kc b f a0 h192) C hM (by decide) h192 rfl hl.1 rfl rfl (Nat.le_of_ble_eq_true rfl) dX13_error_2 ⟨Nat.le_of_ble_eq_true rfl, Nat.le_of_ble_eq_true rfl⟩ ⟨Nat.le_of_ble_eq_true rfl, Nat.le_of_ble_eq_true rfl⟩) hM (fun r1 n2 f1 H locs hp hM => ?_)
  have hp : r1 = 0 ∧ n2 = 220 ∧ f1 = f := hp
  obtain ⟨rfl, rfl, ef1⟩ := hp
  refine lv_if_eq (tgt := 18) hx hb dX13_error_5 (by decide) (fun _ => ?_) (fun h => absurd (by decide) h)
  refine lv_bipush (v := (-2)) hx hb dX13_error_18 (by decide) ?_
  exact m_iret C hr hlk hM (rfl) dX13_error_20
