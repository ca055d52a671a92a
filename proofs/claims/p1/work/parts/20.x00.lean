set_option maxHeartbeats 4000000 in
set_option maxRecDepth 100000 in
theorem a_X10_addFour_0 (l : Launch) (D : va_G) (kc : Nat → ClassId) (b : Nat) (f : Nat → va_E) (a0 : Int32) (g2 : Nat → Int32) (h1 : f 1 = .inr (10, [.ref (b + 2), .int 0])) (h2 : f 2 = .inl (kc 0, 2000, .inl (g2))) : mMv l yX10_addFour cX10_addFour 3 1 0 0 D kc b 220 f [.ref (b + 1), .int a0] (fun u => ∃ (x2 : Int32) (x4 : Int32) (x6 : Int32) (x8 : Int32), u.1 = 220 ∧ u.2 = va_up (va_up (va_up (va_up (va_up (va_up (va_up (va_up f 2 (.inl (kc 0, 2000, .inl (upd g2 0 x2.toInt8.toInt32)))) 1 (.inr (10, [.ref (b + 2), .int 1]))) 2 (.inl (kc 0, 2000, .inl (upd (upd g2 0 x2.toInt8.toInt32) 1 x4.toInt8.toInt32)))) 1 (.inr (10, [.ref (b + 2), .int 2]))) 2 (.inl (kc 0, 2000, .inl (upd (upd (upd g2 0 x2.toInt8.toInt32) 1 x4.toInt8.toInt32) 2 x6.toInt8.toInt32)))) 1 (.inr (10, [.ref (b + 2), .int 3]))) 2 (.inl (kc 0, 2000, .inl (upd (upd (upd (upd g2 0 x2.toInt8.toInt32) 1 x4.toInt8.toInt32) 2 x6.toInt8.toInt32) 3 x8.toInt8.toInt32)))) 1 (.inr (10, [.ref (b + 2), .int 4]))) := by
  refine m_start (by decide) (Nat.le_of_ble_eq_true rfl) ?_
  intro p e s m below meth c C hr hlk hnm hM ls hl
  obtain ⟨hx, hb, hml, hown, hts, hE, hbs⟩ := id C
  have hl : lv_has ls 3 [(0, .ref (b + 1)), (1, .int a0)] := hl
  refine lv_bipush (v := 24) hx hb dX10_addFour_0 (by decide) ?_
  refine lv_istore_n (lv' := [(2, .int 24), (0, .ref (b + 1)), (1, .int a0)]) hx hb dX10_addFour_2 rfl hl (by decide) rfl (fun ls hl => ?_)
  refine lv_iload_n hx hb dX10_addFour_3 rfl (lv_at hl 0 rfl) ?_
  refine lv_if_lt (tgt := 55) hx hb dX10_addFour_4 (by decide) (fun h => absurd h (by decide)) (fun _ => ?_)
  refine lv_aload_n hx hb dX10_addFour_7 rfl (lv_at hl 1 rfl) ?_
  refine m_get fl_X10_15_X10 C hM (i := 1) (by decide) h1 (v := .int 0) rfl dX10_addFour_8 ?_
  refine lv_if_lt (tgt := 49) hx hb dX10_addFour_11 (by decide) (fun h => absurd h (by decide)) (fun _ => ?_)
  refine lv_aload_n hx hb dX10_addFour_14 rfl (lv_at hl 1 rfl) ?_
  refine m_get fl_X10_15_X10 C hM (i := 1) (by decide) h1 (v := .int 0) rfl dX10_addFour_15 ?_
  refine lv_aload_n hx hb dX10_addFour_18 rfl (lv_at hl 1 rfl) ?_
  refine m_get fl_X10_9_X10 C hM (i := 1) (by decide) h1 (v := .ref (b + 2)) rfl dX10_addFour_19 ?_
  refine m_alen C hM (j := 2) (by decide) 0 h2 rfl (v := 2000) rfl dX10_addFour_22 ?_
  refine lv_icmp_ge (tgt := 49) hx hb dX10_addFour_23 (by decide) (fun h => absurd h (by decide)) (fun _ => ?_)
  refine lv_aload_n hx hb dX10_addFour_26 rfl (lv_at hl 1 rfl) ?_
  refine m_get fl_X10_9_X10 C hM (i := 1) (by decide) h1 (v := .ref (b + 2)) rfl dX10_addFour_27 ?_
  refine lv_aload_n hx hb dX10_addFour_30 rfl (lv_at hl 1 rfl) ?_
  refine m_get fl_X10_15_X10 C hM (i := 1) (by decide) h1 (v := .int 0) rfl dX10_addFour_31 ?_
  refine lv_iload_n hx hb dX10_addFour_34 rfl (lv_at hl 2 rfl) ?_
  refine lv_iload_n hx hb dX10_addFour_35 rfl (lv_at hl 0 rfl) ?_
  obtain ⟨x1, ex1⟩ : ∃ z : Int32, (a0.toUInt32 >>> ((24 : Int32).toUInt32 &&& Int32.toUInt32 31)).toInt32 = z := ⟨_, rfl⟩
  refine lv_iushr hx hb dX10_addFour_36 ex1 ?_
  refine lv_i2b hx hb dX10_addFour_37 rfl ?_
  refine lv_topi (fun x2 ex2 => ?_)
  refine m_bast C hM (j := 2) (by decide) h2 (m_in (by decide)) dX10_addFour_38 (fun H locs f1 ef1 hM => ?_)
  have ef1 : f1 = va_up f 2 (.inl (kc 0, 2000, .inl (upd g2 0 x2.toInt8.toInt32))) := ef1
  refine lv_aload_n hx hb dX10_addFour_39 rfl (lv_at hl 1 rfl) ?_
  refine lv_dup hx hb dX10_addFour_40 rfl ?_
  have h1_1 : f1 1 = .inr (10, [.ref (b + 2), .int 0]) := m_ne ef1 h1 (by decide)
  refine m_get fl_X10_15_X10 C hM (i := 1) (by decide) h1_1 (v := .int 0) rfl dX10_addFour_41 ?_
  refine lv_iconst (v := 1) hx hb dX10_addFour_44 (by decide) ?_
  refine lv_iadd hx hb dX10_addFour_45 ?_
  refine m_vi (y := 1) (by decide) ?_
  refine m_put fl_X10_15_X10 C hM (i := 1) (by decide) h1_1 rfl rfl (Nat.le_of_ble_eq_true rfl) (fs1 := [.ref (b + 2), .int 1]) rfl dX10_addFour_46 (fun H locs f2 ef2 hM => ?_)
  refine lv_iinc (v := 16) (lv' := [(2, .int 16), (0, .ref (b + 1)), (1, .int a0)]) hx hb dX10_addFour_49 hl (k := 0) rfl (by decide) (by decide) rfl (fun ls hl => ?_)
  refine lv_goto (tgt := 3) hx hb dX10_addFour_52 (by decide) ?_
  refine lv_iload_n hx hb dX10_addFour_3 rfl (lv_at hl 0 rfl) ?_
  refine lv_if_lt (tgt := 55) hx hb dX10_addFour_4 (by decide) (fun h => absurd h (by decide)) (fun _ => ?_)
  refine lv_aload_n hx hb dX10_addFour_7 rfl (lv_at hl 1 rfl) ?_
  have h1_2 : f2 1 = .inr (10, [.ref (b + 2), .int 1]) := m_eq ef2
  refine m_get fl_X10_15_X10 C hM (i := 1) (by decide) h1_2 (v := .int 1) rfl dX10_addFour_8 ?_
  refine lv_if_lt (tgt := 49) hx hb dX10_addFour_11 (by decide) (fun h => absurd h (by decide)) (fun _ => ?_)
  refine lv_aload_n hx hb dX10_addFour_14 rfl (lv_at hl 1 rfl) ?_
  refine m_get fl_X10_15_X10 C hM (i := 1) (by decide) h1_2 (v := .int 1) rfl dX10_addFour_15 ?_
  refine lv_aload_n hx hb dX10_addFour_18 rfl (lv_at hl 1 rfl) ?_
  refine m_get fl_X10_9_X10 C hM (i := 1) (by decide) h1_2 (v := .ref (b + 2)) rfl dX10_addFour_19 ?_
  have h2_1 : f1 2 = .inl (kc 0, 2000, .inl (upd g2 0 x2.toInt8.toInt32)) := m_eq ef1
  have h2_2 : f2 2 = .inl (kc 0, 2000, .inl (upd g2 0 x2.toInt8.toInt32)) := m_ne ef2 h2_1 (by decide)
  refine m_alen C hM (j := 2) (by decide) 0 h2_2 rfl (v := 2000) rfl dX10_addFour_22 ?_
  refine lv_icmp_ge (tgt := 49) hx hb dX10_addFour_23 (by decide) (fun h => absurd h (by decide)) (fun _ => ?_)
  refine lv_aload_n hx hb dX10_addFour_26 rfl (lv_at hl 1 rfl) ?_
  refine m_get fl_X10_9_X10 C hM (i := 1) (by decide) h1_2 (v := .ref (b + 2)) rfl dX10_addFour_27 ?_
  refine lv_aload_n hx hb dX10_addFour_30 rfl (lv_at hl 1 rfl) ?_
  refine m_get fl_X10_15_X10 C hM (i := 1) (by decide) h1_2 (v := .int 1) rfl dX10_addFour_31 ?_
  refine lv_iload_n hx hb dX10_addFour_34 rfl (lv_at hl 2 rfl) ?_
  refine lv_iload_n hx hb dX10_addFour_35 rfl (lv_at hl 0 rfl) ?_
  obtain ⟨x3, ex3⟩ : ∃ z : Int32, (a0.toUInt32 >>> ((16 : Int32).toUInt32 &&& Int32.toUInt32 31)).toInt32 = z := ⟨_, rfl⟩
  refine lv_iushr hx hb dX10_addFour_36 ex3 ?_
  refine lv_i2b hx hb dX10_addFour_37 rfl ?_
  refine lv_topi (fun x4 ex4 => ?_)
  refine m_bast C hM (j := 2) (by decide) h2_2 (m_in (by decide)) dX10_addFour_38 (fun H locs f3 ef3 hM => ?_)
  have ef3 : f3 = va_up f2 2 (.inl (kc 0, 2000, .inl (upd (upd g2 0 x2.toInt8.toInt32) 1 x4.toInt8.toInt32))) := ef3
  refine lv_aload_n hx hb dX10_addFour_39 rfl (lv_at hl 1 rfl) ?_
  refine lv_dup hx hb dX10_addFour_40 rfl ?_
  have h1_3 : f3 1 = .inr (10, [.ref (b + 2), .int 1]) := m_ne ef3 h1_2 (by decide)
  refine m_get fl_X10_15_X10 C hM (i := 1) (by decide) h1_3 (v := .int 1) rfl dX10_addFour_41 ?_
  refine lv_iconst (v := 1) hx hb dX10_addFour_44 (by decide) ?_
  refine lv_iadd hx hb dX10_addFour_45 ?_
  refine m_vi (y := 2) (by decide) ?_
  refine m_put fl_X10_15_X10 C hM (i := 1) (by decide) h1_3 rfl rfl (Nat.le_of_ble_eq_true rfl) (fs1 := [.ref (b + 2), .int 2]) rfl dX10_addFour_46 (fun H locs f4 ef4 hM => ?_)
  refine lv_iinc (v := 8) (lv' := [(2, .int 8), (0, .ref (b + 1)), (1, .int a0)]) hx hb dX10_addFour_49 hl (k := 0) rfl (by decide) (by decide) rfl (fun ls hl => ?_)
  refine lv_goto (tgt := 3) hx hb dX10_addFour_52 (by decide) ?_
  refine lv_iload_n hx hb dX10_addFour_3 rfl (lv_at hl 0 rfl) ?_
  refine lv_if_lt (tgt := 55) hx hb dX10_addFour_4 (by decide) (fun h => absurd h (by decide)) (fun _ => ?_)
  refine lv_aload_n hx hb dX10_addFour_7 rfl (lv_at hl 1 rfl) ?_
  have h1_4 : f4 1 = .inr (10, [.ref (b + 2), .int 2]) := m_eq ef4
  refine m_get fl_X10_15_X10 C hM (i := 1) (by decide) h1_4 (v := .int 2) rfl dX10_addFour_8 ?_
  refine lv_if_lt (tgt := 49) hx hb dX10_addFour_11 (by decide) (fun h => absurd h (by decide)) (fun _ => ?_)
  refine lv_aload_n hx hb dX10_addFour_14 rfl (lv_at hl 1 rfl) ?_
  refine m_get fl_X10_15_X10 C hM (i := 1) (by decide) h1_4 (v := .int 2) rfl dX10_addFour_15 ?_
  refine lv_aload_n hx hb dX10_addFour_18 rfl (lv_at hl 1 rfl) ?_
  refine m_get fl_X10_9_X10 C hM (i := 1) (by decide) h1_4 (v := .ref (b + 2)) rfl dX10_addFour_19 ?_
  have h2_3 : f3 2 = .inl (kc 0, 2000, .inl (upd (upd g2 0 x2.toInt8.toInt32) 1 x4.toInt8.toInt32)) := m_eq ef3
  have h2_4 : f4 2 = .inl (kc 0, 2000, .inl (upd (upd g2 0 x2.toInt8.toInt32) 1 x4.toInt8.toInt32)) := m_ne ef4 h2_3 (by decide)
  refine m_alen C hM (j := 2) (by decide) 0 h2_4 rfl (v := 2000) rfl dX10_addFour_22 ?_
  refine lv_icmp_ge (tgt := 49) hx hb dX10_addFour_23 (by decide) (fun h => absurd h (by decide)) (fun _ => ?_)
  refine lv_aload_n hx hb dX10_addFour_26 rfl (lv_at hl 1 rfl) ?_
  refine m_get fl_X10_9_X10 C hM (i := 1) (by decide) h1_4 (v := .ref (b + 2)) rfl dX10_addFour_27 ?_
  refine lv_aload_n hx hb dX10_addFour_30 rfl (lv_at hl 1 rfl) ?_
  refine m_get fl_X10_15_X10 C hM (i := 1) (by decide) h1_4 (v := .int 2) rfl dX10_addFour_31 ?_
  refine lv_iload_n hx hb dX10_addFour_34 rfl (lv_at hl 2 rfl) ?_
  refine lv_iload_n hx hb dX10_addFour_35 rfl (lv_at hl 0 rfl) ?_
  obtain ⟨x5, ex5⟩ : ∃ z : Int32, (a0.toUInt32 >>> ((8 : Int32).toUInt32 &&& Int32.toUInt32 31)).toInt32 = z := ⟨_, rfl⟩
  refine lv_iushr hx hb dX10_addFour_36 ex5 ?_
  refine lv_i2b hx hb dX10_addFour_37 rfl ?_
  refine lv_topi (fun x6 ex6 => ?_)
  refine m_bast C hM (j := 2) (by decide) h2_4 (m_in (by decide)) dX10_addFour_38 (fun H locs f5 ef5 hM => ?_)
  have ef5 : f5 = va_up f4 2 (.inl (kc 0, 2000, .inl (upd (upd (upd g2 0 x2.toInt8.toInt32) 1 x4.toInt8.toInt32) 2 x6.toInt8.toInt32))) := ef5
  refine lv_aload_n hx hb dX10_addFour_39 rfl (lv_at hl 1 rfl) ?_
  refine lv_dup hx hb dX10_addFour_40 rfl ?_
  have h1_5 : f5 1 = .inr (10, [.ref (b + 2), .int 2]) := m_ne ef5 h1_4 (by decide)
  refine m_get fl_X10_15_X10 C hM (i := 1) (by decide) h1_5 (v := .int 2) rfl dX10_addFour_41 ?_
  refine lv_iconst (v := 1) hx hb dX10_addFour_44 (by decide) ?_
  refine lv_iadd hx hb dX10_addFour_45 ?_
  refine m_vi (y := 3) (by decide) ?_
  refine m_put fl_X10_15_X10 C hM (i := 1) (by decide) h1_5 rfl rfl (Nat.le_of_ble_eq_true rfl) (fs1 := [.ref (b + 2), .int 3]) rfl dX10_addFour_46 (fun H locs f6 ef6 hM => ?_)
  refine lv_iinc (v := 0) (lv' := [(2, .int 0), (0, .ref (b + 1)), (1, .int a0)]) hx hb dX10_addFour_49 hl (k := 0) rfl (by decide) (by decide) rfl (fun ls hl => ?_)
  refine lv_goto (tgt := 3) hx hb dX10_addFour_52 (by decide) ?_
  refine lv_iload_n hx hb dX10_addFour_3 rfl (lv_at hl 0 rfl) ?_
  refine lv_if_lt (tgt := 55) hx hb dX10_addFour_4 (by decide) (fun h => absurd h (by decide)) (fun _ => ?_)
  refine lv_aload_n hx hb dX10_addFour_7 rfl (lv_at hl 1 rfl) ?_
  have h1_6 : f6 1 = .inr (10, [.ref (b + 2), .int 3]) := m_eq ef6
  refine m_get fl_X10_15_X10 C hM (i := 1) (by decide) h1_6 (v := .int 3) rfl dX10_addFour_8 ?_
  refine lv_if_lt (tgt := 49) hx hb dX10_addFour_11 (by decide) (fun h => absurd h (by decide)) (fun _ => ?_)
  refine lv_aload_n hx hb dX10_addFour_14 rfl (lv_at hl 1 rfl) ?_
  refine m_get fl_X10_15_X10 C hM (i := 1) (by decide) h1_6 (v := .int 3) rfl dX10_addFour_15 ?_
  refine lv_aload_n hx hb dX10_addFour_18 rfl (lv_at hl 1 rfl) ?_
  refine m_get fl_X10_9_X10 C hM (i := 1) (by decide) h1_6 (v := .ref (b + 2)) rfl dX10_addFour_19 ?_
  have h2_5 : f5 2 = .inl (kc 0, 2000, .inl (upd (upd (upd g2 0 x2.toInt8.toInt32) 1 x4.toInt8.toInt32) 2 x6.toInt8.toInt32)) := m_eq ef5
  have h2_6 : f6 2 = .inl (kc 0, 2000, .inl (upd (upd (upd g2 0 x2.toInt8.toInt32) 1 x4.toInt8.toInt32) 2 x6.toInt8.toInt32)) := m_ne ef6 h2_5 (by decide)
  refine m_alen C hM (j := 2) (by decide) 0 h2_6 rfl (v := 2000) rfl dX10_addFour_22 ?_
  refine lv_icmp_ge (tgt := 49) hx hb dX10_addFour_23 (by decide) (fun h => absurd h (by decide)) (fun _ => ?_)
  refine lv_aload_n hx hb dX10_addFour_26 rfl (lv_at hl 1 rfl) ?_
  refine m_get fl_X10_9_X10 C hM (i := 1) (by decide) h1_6 (v := .ref (b + 2)) rfl dX10_addFour_27 ?_
  refine lv_aload_n hx hb dX10_addFour_30 rfl (lv_at hl 1 rfl) ?_
  refine m_get fl_X10_15_X10 C hM (i := 1) (by decide) h1_6 (v := .int 3) rfl dX10_addFour_31 ?_
  refine lv_iload_n hx hb dX10_addFour_34 rfl (lv_at hl 2 rfl) ?_
  refine lv_iload_n hx hb dX10_addFour_35 rfl (lv_at hl 0 rfl) ?_
  obtain ⟨x7, ex7⟩ : ∃ z : Int32, (a0.toUInt32 >>> ((0 : Int32).toUInt32 &&& Int32.toUInt32 31)).toInt32 = z := ⟨_, rfl⟩
  refine lv_iushr hx hb dX10_addFour_36 ex7 ?_
  refine lv_i2b hx hb dX10_addFour_37 rfl ?_
  refine lv_topi (fun x8 ex8 => ?_)
  refine m_bast C hM (j := 2) (by decide) h2_6 (m_in (by decide)) dX10_addFour_38 (fun H locs f7 ef7 hM => ?_)
  have ef7 : f7 = va_up f6 2 (.inl (kc 0, 2000, .inl (upd (upd (upd (upd g2 0 x2.toInt8.toInt32) 1 x4.toInt8.toInt32) 2 x6.toInt8.toInt32) 3 x8.toInt8.toInt32))) := ef7
  refine lv_aload_n hx hb dX10_addFour_39 rfl (lv_at hl 1 rfl) ?_
  refine lv_dup hx hb dX10_addFour_40 rfl ?_
  have h1_7 : f7 1 = .inr (10, [.ref (b + 2), .int 3]) := m_ne ef7 h1_6 (by decide)
  refine m_get fl_X10_15_X10 C hM (i := 1) (by decide) h1_7 (v := .int 3) rfl dX10_addFour_41 ?_
  refine lv_iconst (v := 1) hx hb dX10_addFour_44 (by decide) ?_
  refine lv_iadd hx hb dX10_addFour_45 ?_
  refine m_vi (y := 4) (by decide) ?_
  refine m_put fl_X10_15_X10 C hM (i := 1) (by decide) h1_7 rfl rfl (Nat.le_of_ble_eq_true rfl) (fs1 := [.ref (b + 2), .int 4]) rfl dX10_addFour_46 (fun H locs f8 ef8 hM => ?_)
  refine lv_iinc (v := (-8)) (lv' := [(2, .int (-8)), (0, .ref (b + 1)), (1, .int a0)]) hx hb dX10_addFour_49 hl (k := 0) rfl (by decide) (by decide) rfl (fun ls hl => ?_)
  refine lv_goto (tgt := 3) hx hb dX10_addFour_52 (by decide) ?_
  refine lv_iload_n hx hb dX10_addFour_3 rfl (lv_at hl 0 rfl) ?_
  refine lv_if_lt (tgt := 55) hx hb dX10_addFour_4 (by decide) (fun _ => ?_) (fun h => absurd (by decide) h)
  exact m_vret C hr hlk hM (⟨x2, x4, x6, x8, rfl, by rw [ef8, ef7, ef6, ef5, ef4, ef3, ef2, ef1]⟩) dX10_addFour_55
set_option maxHeartbeats 4000000 in
set_option maxRecDepth 100000 in
theorem a_X10_addFour_1 (l : Launch) (D : va_G) (kc : Nat → ClassId) (b : Nat) (f : Nat → va_E) (a1 : Int32) (g2 : Nat → Int32) (h1 : f 1 = .inr (10, [.ref (b + 2), .int 4])) (h2 : f 2 = .inl (kc 0, 2000, .inl (g2))) : mMv l yX10_addFour cX10_addFour 3 1 0 0 D kc b 220 f [.ref (b + 1), .int a1] (fun u => ∃ (x2 : Int32) (x4 : Int32) (x6 : Int32) (x8 : Int32), u.1 = 220 ∧ u.2 = va_up (va_up (va_up (va_up (va_up (va_up (va_up (va_up f 2 (.inl (kc 0, 2000, .inl (upd g2 4 x2.toInt8.toInt32)))) 1 (.inr (10, [.ref (b + 2), .int 5]))) 2 (.inl (kc 0, 2000, .inl (upd (upd g2 4 x2.toInt8.toInt32) 5 x4.toInt8.toInt32)))) 1 (.inr (10, [.ref (b + 2), .int 6]))) 2 (.inl (kc 0, 2000, .inl (upd (upd (upd g2 4 x2.toInt8.toInt32) 5 x4.toInt8.toInt32) 6 x6.toInt8.toInt32)))) 1 (.inr (10, [.ref (b + 2), .int 7]))) 2 (.inl (kc 0, 2000, .inl (upd (upd (upd (upd g2 4 x2.toInt8.toInt32) 5 x4.toInt8.toInt32) 6 x6.toInt8.toInt32) 7 x8.toInt8.toInt32)))) 1 (.inr (10, [.ref (b + 2), .int 8]))) := by
  refine m_start (by decide) (Nat.le_of_ble_eq_true rfl) ?_
  intro p e s m below meth c C hr hlk hnm hM ls hl
  obtain ⟨hx, hb, hml, hown, hts, hE, hbs⟩ := id C
  have hl : lv_has ls 3 [(0, .ref (b + 1)), (1, .int a1)] := hl
  refine lv_bipush (v := 24) hx hb dX10_addFour_0 (by decide) ?_
  refine lv_istore_n (lv' := [(2, .int 24), (0, .ref (b + 1)), (1, .int a1)]) hx hb dX10_addFour_2 rfl hl (by decide) rfl (fun ls hl => ?_)
  refine lv_iload_n hx hb dX10_addFour_3 rfl (lv_at hl 0 rfl) ?_
  refine lv_if_lt (tgt := 55) hx hb dX10_addFour_4 (by decide) (fun h => absurd h (by decide)) (fun _ => ?_)
  refine lv_aload_n hx hb dX10_addFour_7 rfl (lv_at hl 1 rfl) ?_
  refine m_get fl_X10_15_X10 C hM (i := 1) (by decide) h1 (v := .int 4) rfl dX10_addFour_8 ?_
  refine lv_if_lt (tgt := 49) hx hb dX10_addFour_11 (by decide) (fun h => absurd h (by decide)) (fun _ => ?_)
  refine lv_aload_n hx hb dX10_addFour_14 rfl (lv_at hl 1 rfl) ?_
  refine m_get fl_X10_15_X10 C hM (i := 1) (by decide) h1 (v := .int 4) rfl dX10_addFour_15 ?_
  refine lv_aload_n hx hb dX10_addFour_18 rfl (lv_at hl 1 rfl) ?_
  refine m_get fl_X10_9_X10 C hM (i := 1) (by decide) h1 (v := .ref (b + 2)) rfl dX10_addFour_19 ?_
  refine m_alen C hM (j := 2) (by decide) 0 h2 rfl (v := 2000) rfl dX10_addFour_22 ?_
  refine lv_icmp_ge (tgt := 49) hx hb dX10_addFour_23 (by decide) (fun h => absurd h (by decide)) (fun _ => ?_)
  refine lv_aload_n hx hb dX10_addFour_26 rfl (lv_at hl 1 rfl) ?_
  refine m_get fl_X10_9_X10 C hM (i := 1) (by decide) h1 (v := .ref (b + 2)) rfl dX10_addFour_27 ?_
  refine lv_aload_n hx hb dX10_addFour_30 rfl (lv_at hl 1 rfl) ?_
  refine m_get fl_X10_15_X10 C hM (i := 1) (by decide) h1 (v := .int 4) rfl dX10_addFour_31 ?_
  refine lv_iload_n hx hb dX10_addFour_34 rfl (lv_at hl 2 rfl) ?_
  refine lv_iload_n hx hb dX10_addFour_35 rfl (lv_at hl 0 rfl) ?_
  obtain ⟨x1, ex1⟩ : ∃ z : Int32, (a1.toUInt32 >>> ((24 : Int32).toUInt32 &&& Int32.toUInt32 31)).toInt32 = z := ⟨_, rfl⟩
  refine lv_iushr hx hb dX10_addFour_36 ex1 ?_
  refine lv_i2b hx hb dX10_addFour_37 rfl ?_
  refine lv_topi (fun x2 ex2 => ?_)
  refine m_bast C hM (j := 2) (by decide) h2 (m_in (by decide)) dX10_addFour_38 (fun H locs f1 ef1 hM => ?_)
  have ef1 : f1 = va_up f 2 (.inl (kc 0, 2000, .inl (upd g2 4 x2.toInt8.toInt32))) := ef1
  refine lv_aload_n hx hb dX10_addFour_39 rfl (lv_at hl 1 rfl) ?_
  refine lv_dup hx hb dX10_addFour_40 rfl ?_
  have h1_1 : f1 1 = .inr (10, [.ref (b + 2), .int 4]) := m_ne ef1 h1 (by decide)
  refine m_get fl_X10_15_X10 C hM (i := 1) (by decide) h1_1 (v := .int 4) rfl dX10_addFour_41 ?_
  refine lv_iconst (v := 1) hx hb dX10_addFour_44 (by decide) ?_
  refine lv_iadd hx hb dX10_addFour_45 ?_
  refine m_vi (y := 5) (by decide) ?_
  refine m_put fl_X10_15_X10 C hM (i := 1) (by decide) h1_1 rfl rfl (Nat.le_of_ble_eq_true rfl) (fs1 := [.ref (b + 2), .int 5]) rfl dX10_addFour_46 (fun H locs f2 ef2 hM => ?_)
  refine lv_iinc (v := 16) (lv' := [(2, .int 16), (0, .ref (b + 1)), (1, .int a1)]) hx hb dX10_addFour_49 hl (k := 0) rfl (by decide) (by decide) rfl (fun ls hl => ?_)
  refine lv_goto (tgt := 3) hx hb dX10_addFour_52 (by decide) ?_
  refine lv_iload_n hx hb dX10_addFour_3 rfl (lv_at hl 0 rfl) ?_
  refine lv_if_lt (tgt := 55) hx hb dX10_addFour_4 (by decide) (fun h => absurd h (by decide)) (fun _ => ?_)
  refine lv_aload_n hx hb dX10_addFour_7 rfl (lv_at hl 1 rfl) ?_
  have h1_2 : f2 1 = .inr (10, [.ref (b + 2), .int 5]) := m_eq ef2
  refine m_get fl_X10_15_X10 C hM (i := 1) (by decide) h1_2 (v := .int 5) rfl dX10_addFour_8 ?_
  refine lv_if_lt (tgt := 49) hx hb dX10_addFour_11 (by decide) (fun h => absurd h (by decide)) (fun _ => ?_)
  refine lv_aload_n hx hb dX10_addFour_14 rfl (lv_at hl 1 rfl) ?_
  refine m_get fl_X10_15_X10 C hM (i := 1) (by decide) h1_2 (v := .int 5) rfl dX10_addFour_15 ?_
  refine lv_aload_n hx hb dX10_addFour_18 rfl (lv_at hl 1 rfl) ?_
  refine m_get fl_X10_9_X10 C hM (i := 1) (by decide) h1_2 (v := .ref (b + 2)) rfl dX10_addFour_19 ?_
  have h2_1 : f1 2 = .inl (kc 0, 2000, .inl (upd g2 4 x2.toInt8.toInt32)) := m_eq ef1
  have h2_2 : f2 2 = .inl (kc 0, 2000, .inl (upd g2 4 x2.toInt8.toInt32)) := m_ne ef2 h2_1 (by decide)
  refine m_alen C hM (j := 2) (by decide) 0 h2_2 rfl (v := 2000) rfl dX10_addFour_22 ?_
  refine lv_icmp_ge (tgt := 49) hx hb dX10_addFour_23 (by decide) (fun h => absurd h (by decide)) (fun _ => ?_)
  refine lv_aload_n hx hb dX10_addFour_26 rfl (lv_at hl 1 rfl) ?_
  refine m_get fl_X10_9_X10 C hM (i := 1) (by decide) h1_2 (v := .ref (b + 2)) rfl dX10_addFour_27 ?_
  refine lv_aload_n hx hb dX10_addFour_30 rfl (lv_at hl 1 rfl) ?_
  refine m_get fl_X10_15_X10 C hM (i := 1) (by decide) h1_2 (v := .int 5) rfl dX10_addFour_31 ?_
  refine lv_iload_n hx hb dX10_addFour_34 rfl (lv_at hl 2 rfl) ?_
  refine lv_iload_n hx hb dX10_addFour_35 rfl (lv_at hl 0 rfl) ?_
  obtain ⟨x3, ex3⟩ : ∃ z : Int32, (a1.toUInt32 >>> ((16 : Int32).toUInt32 &&& Int32.toUInt32 31)).toInt32 = z := ⟨_, rfl⟩
  refine lv_iushr hx hb dX10_addFour_36 ex3 ?_
  refine lv_i2b hx hb dX10_addFour_37 rfl ?_
  refine lv_topi (fun x4 ex4 => ?_)
  refine m_bast C hM (j := 2) (by decide) h2_2 (m_in (by decide)) dX10_addFour_38 (fun H locs f3 ef3 hM => ?_)
  have ef3 : f3 = va_up f2 2 (.inl (kc 0, 2000, .inl (upd (upd g2 4 x2.toInt8.toInt32) 5 x4.toInt8.toInt32))) := ef3
  refine lv_aload_n hx hb dX10_addFour_39 rfl (lv_at hl 1 rfl) ?_
  refine lv_dup hx hb dX10_addFour_40 rfl ?_
  have h1_3 : f3 1 = .inr (10, [.ref (b + 2), .int 5]) := m_ne ef3 h1_2 (by decide)
  refine m_get fl_X10_15_X10 C hM (i := 1) (by decide) h1_3 (v := .int 5) rfl dX10_addFour_41 ?_
  refine lv_iconst (v := 1) hx hb dX10_addFour_44 (by decide) ?_
  refine lv_iadd hx hb dX10_addFour_45 ?_
  refine m_vi (y := 6) (by decide) ?_
  refine m_put fl_X10_15_X10 C hM (i := 1) (by decide) h1_3 rfl rfl (Nat.le_of_ble_eq_true rfl) (fs1 := [.ref (b + 2), .int 6]) rfl dX10_addFour_46 (fun H locs f4 ef4 hM => ?_)
  refine lv_iinc (v := 8) (lv' := [(2, .int 8), (0, .ref (b + 1)), (1, .int a1)]) hx hb dX10_addFour_49 hl (k := 0) rfl (by decide) (by decide) rfl (fun ls hl => ?_)
  refine lv_goto (tgt := 3) hx hb dX10_addFour_52 (by decide) ?_
  refine lv_iload_n hx hb dX10_addFour_3 rfl (lv_at hl 0 rfl) ?_
  refine lv_if_lt (tgt := 55) hx hb dX10_addFour_4 (by decide) (fun h => absurd h (by decide)) (fun _ => ?_)
  refine lv_aload_n hx hb dX10_addFour_7 rfl (lv_at hl 1 rfl) ?_
  have h1_4 : f4 1 = .inr (10, [.ref (b + 2), .int 6]) := m_eq ef4
  refine m_get fl_X10_15_X10 C hM (i := 1) (by decide) h1_4 (v := .int 6) rfl dX10_addFour_8 ?_
  refine lv_if_lt (tgt := 49) hx hb dX10_addFour_11 (by decide) (fun h => absurd h (by decide)) (fun _ => ?_)
  refine lv_aload_n hx hb dX10_addFour_14 rfl (lv_at hl 1 rfl) ?_
  refine m_get fl_X10_15_X10 C hM (i := 1) (by decide) h1_4 (v := .int 6) rfl dX10_addFour_15 ?_
  refine lv_aload_n hx hb dX10_addFour_18 rfl (lv_at hl 1 rfl) ?_
  refine m_get fl_X10_9_X10 C hM (i := 1) (by decide) h1_4 (v := .ref (b + 2)) rfl dX10_addFour_19 ?_
  have h2_3 : f3 2 = .inl (kc 0, 2000, .inl (upd (upd g2 4 x2.toInt8.toInt32) 5 x4.toInt8.toInt32)) := m_eq ef3
  have h2_4 : f4 2 = .inl (kc 0, 2000, .inl (upd (upd g2 4 x2.toInt8.toInt32) 5 x4.toInt8.toInt32)) := m_ne ef4 h2_3 (by decide)
  refine m_alen C hM (j := 2) (by decide) 0 h2_4 rfl (v := 2000) rfl dX10_addFour_22 ?_
  refine lv_icmp_ge (tgt := 49) hx hb dX10_addFour_23 (by decide) (fun h => absurd h (by decide)) (fun _ => ?_)
  refine lv_aload_n hx hb dX10_addFour_26 rfl (lv_at hl 1 rfl) ?_
  refine m_get fl_X10_9_X10 C hM (i := 1) (by decide) h1_4 (v := .ref (b + 2)) rfl dX10_addFour_27 ?_
  refine lv_aload_n hx hb dX10_addFour_30 rfl (lv_at hl 1 rfl) ?_
  refine m_get fl_X10_15_X10 C hM (i := 1) (by decide) h1_4 (v := .int 6) rfl dX10_addFour_31 ?_
  refine lv_iload_n hx hb dX10_addFour_34 rfl (lv_at hl 2 rfl) ?_
  refine lv_iload_n hx hb dX10_addFour_35 rfl (lv_at hl 0 rfl) ?_
  obtain ⟨x5, ex5⟩ : ∃ z : Int32, (a1.toUInt32 >>> ((8 : Int32).toUInt32 &&& Int32.toUInt32 31)).toInt32 = z := ⟨_, rfl⟩
  refine lv_iushr hx hb dX10_addFour_36 ex5 ?_
  refine lv_i2b hx hb dX10_addFour_37 rfl ?_
  refine lv_topi (fun x6 ex6 => ?_)
  refine m_bast C hM (j := 2) (by decide) h2_4 (m_in (by decide)) dX10_addFour_38 (fun H locs f5 ef5 hM => ?_)
  have ef5 : f5 = va_up f4 2 (.inl (kc 0, 2000, .inl (upd (upd (upd g2 4 x2.toInt8.toInt32) 5 x4.toInt8.toInt32) 6 x6.toInt8.toInt32))) := ef5
  refine lv_aload_n hx hb dX10_addFour_39 rfl (lv_at hl 1 rfl) ?_
  refine lv_dup hx hb dX10_addFour_40 rfl ?_
  have h1_5 : f5 1 = .inr (10, [.ref (b + 2), .int 6]) := m_ne ef5 h1_4 (by decide)
  refine m_get fl_X10_15_X10 C hM (i := 1) (by decide) h1_5 (v := .int 6) rfl dX10_addFour_41 ?_
  refine lv_iconst (v := 1) hx hb dX10_addFour_44 (by decide) ?_
  refine lv_iadd hx hb dX10_addFour_45 ?_
  refine m_vi (y := 7) (by decide) ?_
  refine m_put fl_X10_15_X10 C hM (i := 1) (by decide) h1_5 rfl rfl (Nat.le_of_ble_eq_true rfl) (fs1 := [.ref (b + 2), .int 7]) rfl dX10_addFour_46 (fun H locs f6 ef6 hM => ?_)
  refine lv_iinc (v := 0) (lv' := [(2, .int 0), (0, .ref (b + 1)), (1, .int a1)]) hx hb dX10_addFour_49 hl (k := 0) rfl (by decide) (by decide) rfl (fun ls hl => ?_)
  refine lv_goto (tgt := 3) hx hb dX10_addFour_52 (by decide) ?_
  refine lv_iload_n hx hb dX10_addFour_3 rfl (lv_at hl 0 rfl) ?_
  refine lv_if_lt (tgt := 55) hx hb dX10_addFour_4 (by decide) (fun h => absurd h (by decide)) (fun _ => ?_)
  refine lv_aload_n hx hb dX10_addFour_7 rfl (lv_at hl 1 rfl) ?_
  have h1_6 : f6 1 = .inr (10, [.ref (b + 2), .int 7]) := m_eq ef6
  refine m_get fl_X10_15_X10 C hM (i := 1) (by decide) h1_6 (v := .int 7) rfl dX10_addFour_8 ?_
  refine lv_if_lt (tgt := 49) hx hb dX10_addFour_11 (by decide) (fun h => absurd h (by decide)) (fun _ => ?_)
  refine lv_aload_n hx hb dX10_addFour_14 rfl (lv_at hl 1 rfl) ?_
  refine m_get fl_X10_15_X10 C hM (i := 1) (by decide) h1_6 (v := .int 7) rfl dX10_addFour_15 ?_
  refine lv_aload_n hx hb dX10_addFour_18 rfl (lv_at hl 1 rfl) ?_
  refine m_get fl_X10_9_X10 C hM (i := 1) (by decide) h1_6 (v := .ref (b + 2)) rfl dX10_addFour_19 ?_
  have h2_5 : f5 2 = .inl (kc 0, 2000, .inl (upd (upd (upd g2 4 x2.toInt8.toInt32) 5 x4.toInt8.toInt32) 6 x6.toInt8.toInt32)) := m_eq ef5
  have h2_6 : f6 2 = .inl (kc 0, 2000, .inl (upd (upd (upd g2 4 x2.toInt8.toInt32) 5 x4.toInt8.toInt32) 6 x6.toInt8.toInt32)) := m_ne ef6 h2_5 (by decide)
  refine m_alen C hM (j := 2) (by decide) 0 h2_6 rfl (v := 2000) rfl dX10_addFour_22 ?_
  refine lv_icmp_ge (tgt := 49) hx hb dX10_addFour_23 (by decide) (fun h => absurd h (by decide)) (fun _ => ?_)
  refine lv_aload_n hx hb dX10_addFour_26 rfl (lv_at hl 1 rfl) ?_
  refine m_get fl_X10_9_X10 C hM (i := 1) (by decide) h1_6 (v := .ref (b + 2)) rfl dX10_addFour_27 ?_
  refine lv_aload_n hx hb dX10_addFour_30 rfl (lv_at hl 1 rfl) ?_
  refine m_get fl_X10_15_X10 C hM (i := 1) (by decide) h1_6 (v := .int 7) rfl dX10_addFour_31 ?_
  refine lv_iload_n hx hb dX10_addFour_34 rfl (lv_at hl 2 rfl) ?_
  refine lv_iload_n hx hb dX10_addFour_35 rfl (lv_at hl 0 rfl) ?_
  obtain ⟨x7, ex7⟩ : ∃ z : Int32, (a1.toUInt32 >>> ((0 : Int32).toUInt32 &&& Int32.toUInt32 31)).toInt32 = z := ⟨_, rfl⟩
  refine lv_iushr hx hb dX10_addFour_36 ex7 ?_
  refine lv_i2b hx hb dX10_addFour_37 rfl ?_
  refine lv_topi (fun x8 ex8 => ?_)
  refine m_bast C hM (j := 2) (by decide) h2_6 (m_in (by decide)) dX10_addFour_38 (fun H locs f7 ef7 hM => ?_)
  have ef7 : f7 = va_up f6 2 (.inl (kc 0, 2000, .inl (upd (upd (upd (upd g2 4 x2.toInt8.toInt32) 5 x4.toInt8.toInt32) 6 x6.toInt8.toInt32) 7 x8.toInt8.toInt32))) := ef7
  refine lv_aload_n hx hb dX10_addFour_39 rfl (lv_at hl 1 rfl) ?_
  refine lv_dup hx hb dX10_addFour_40 rfl ?_
  have h1_7 : f7 1 = .inr (10, [.ref (b + 2), .int 7]) := m_ne ef7 h1_6 (by decide)
  refine m_get fl_X10_15_X10 C hM (i := 1) (by decide) h1_7 (v := .int 7) rfl dX10_addFour_41 ?_
  refine lv_iconst (v := 1) hx hb dX10_addFour_44 (by decide) ?_
  refine lv_iadd hx hb dX10_addFour_45 ?_
  refine m_vi (y := 8) (by decide) ?_
  refine m_put fl_X10_15_X10 C hM (i := 1) (by decide) h1_7 rfl rfl (Nat.le_of_ble_eq_true rfl) (fs1 := [.ref (b + 2), .int 8]) rfl dX10_addFour_46 (fun H locs f8 ef8 hM => ?_)
  refine lv_iinc (v := (-8)) (lv' := [(2, .int (-8)), (0, .ref (b + 1)), (1, .int a1)]) hx hb dX10_addFour_49 hl (k := 0) rfl (by decide) (by decide) rfl (fun ls hl => ?_)
  refine lv_goto (tgt := 3) hx hb dX10_addFour_52 (by decide) ?_
  refine lv_iload_n hx hb dX10_addFour_3 rfl (lv_at hl 0 rfl) ?_
  refine lv_if_lt (tgt := 55) hx hb dX10_addFour_4 (by decide) (fun _ => ?_) (fun h => absurd (by decide) h)
  exact m_vret C hr hlk hM (⟨x2, x4, x6, x8, rfl, by rw [ef8, ef7, ef6, ef5, ef4, ef3, ef2, ef1]⟩) dX10_addFour_55
set_option maxHeartbeats 4000000 in
set_option maxRecDepth 100000 in
theorem a_X10_addFour_2 (l : Launch) (D : va_G) (kc : Nat → ClassId) (b : Nat) (f : Nat → va_E) (a2 : Int32) (g2 : Nat → Int32) (h1 : f 1 = .inr (10, [.ref (b + 2), .int 8])) (h2 : f 2 = .inl (kc 0, 2000, .inl (g2))) : mMv l yX10_addFour cX10_addFour 3 1 0 0 D kc b 220 f [.ref (b + 1), .int a2] (fun u => ∃ (x2 : Int32) (x4 : Int32) (x6 : Int32) (x8 : Int32), u.1 = 220 ∧ u.2 = va_up (va_up (va_up (va_up (va_up (va_up (va_up (va_up f 2 (.inl (kc 0, 2000, .inl (upd g2 8 x2.toInt8.toInt32)))) 1 (.inr (10, [.ref (b + 2), .int 9]))) 2 (.inl (kc 0, 2000, .inl (upd (upd g2 8 x2.toInt8.toInt32) 9 x4.toInt8.toInt32)))) 1 (.inr (10, [.ref (b + 2), .int 10]))) 2 (.inl (kc 0, 2000, .inl (upd (upd (upd g2 8 x2.toInt8.toInt32) 9 x4.toInt8.toInt32) 10 x6.toInt8.toInt32)))) 1 (.inr (10, [.ref (b + 2), .int 11]))) 2 (.inl (kc 0, 2000, .inl (upd (upd (upd (upd g2 8 x2.toInt8.toInt32) 9 x4.toInt8.toInt32) 10 x6.toInt8.toInt32) 11 x8.toInt8.toInt32)))) 1 (.inr (10, [.ref (b + 2), .int 12]))) := by
  refine m_start (by decide) (Nat.le_of_ble_eq_true rfl) ?_
  intro p e s m below meth c C hr hlk hnm hM ls hl
  obtain ⟨hx, hb, hml, hown, hts, hE, hbs⟩ := id C
  have hl : lv_has ls 3 [(0, .ref (b + 1)), (1, .int a2)] := hl
  refine lv_bipush (v := 24) hx hb dX10_addFour_0 (by decide) ?_
  refine lv_istore_n (lv' := [(2, .int 24), (0, .ref (b + 1)), (1, .int a2)]) hx hb dX10_addFour_2 rfl hl (by decide) rfl (fun ls hl => ?_)
  refine lv_iload_n hx hb dX10_addFour_3 rfl (lv_at hl 0 rfl) ?_
  refine lv_if_lt (tgt := 55) hx hb dX10_addFour_4 (by decide) (fun h => absurd h (by decide)) (fun _ => ?_)
  refine lv_aload_n hx hb dX10_addFour_7 rfl (lv_at hl 1 rfl) ?_
  refine m_get fl_X10_15_X10 C hM (i := 1) (by decide) h1 (v := .int 8) rfl dX10_addFour_8 ?_
  refine lv_if_lt (tgt := 49) hx hb dX10_addFour_11 (by decide) (fun h => absurd h (by decide)) (fun _ => ?_)
  refine lv_aload_n hx hb dX10_addFour_14 rfl (lv_at hl 1 rfl) ?_
  refine m_get fl_X10_15_X10 C hM (i := 1) (by decide) h1 (v := .int 8) rfl dX10_addFour_15 ?_
  refine lv_aload_n hx hb dX10_addFour_18 rfl (lv_at hl 1 rfl) ?_
  refine m_get fl_X10_9_X10 C hM (i := 1) (by decide) h1 (v := .ref (b + 2)) rfl dX10_addFour_19 ?_
  refine m_alen C hM (j := 2) (by decide) 0 h2 rfl (v := 2000) rfl dX10_addFour_22 ?_
  refine lv_icmp_ge (tgt := 49) hx hb dX10_addFour_23 (by decide) (fun h => absurd h (by decide)) (fun _ => ?_)
  refine lv_aload_n hx hb dX10_addFour_26 rfl (lv_at hl 1 rfl) ?_
  refine m_get fl_X10_9_X10 C hM (i := 1) (by decide) h1 (v := .ref (b + 2)) rfl dX10_addFour_27 ?_
  refine lv_aload_n hx hb dX10_addFour_30 rfl (lv_at hl 1 rfl) ?_
  refine m_get fl_X10_15_X10 C hM (i := 1) (by decide) h1 (v := .int 8) rfl dX10_addFour_31 ?_
  refine lv_iload_n hx hb dX10_addFour_34 rfl (lv_at hl 2 rfl) ?_
  refine lv_iload_n hx hb dX10_addFour_35 rfl (lv_at hl 0 rfl) ?_
  obtain ⟨x1, ex1⟩ : ∃ z : Int32, (a2.toUInt32 >>> ((24 : Int32).toUInt32 &&& Int32.toUInt32 31)).toInt32 = z := ⟨_, rfl⟩
  refine lv_iushr hx hb dX10_addFour_36 ex1 ?_
  refine lv_i2b hx hb dX10_addFour_37 rfl ?_
  refine lv_topi (fun x2 ex2 => ?_)
  refine m_bast C hM (j := 2) (by decide) h2 (m_in (by decide)) dX10_addFour_38 (fun H locs f1 ef1 hM => ?_)
  have ef1 : f1 = va_up f 2 (.inl (kc 0, 2000, .inl (upd g2 8 x2.toInt8.toInt32))) := ef1
  refine lv_aload_n hx hb dX10_addFour_39 rfl (lv_at hl 1 rfl) ?_
  refine lv_dup hx hb dX10_addFour_40 rfl ?_
  have h1_1 : f1 1 = .inr (10, [.ref (b + 2), .int 8]) := m_ne ef1 h1 (by decide)
  refine m_get fl_X10_15_X10 C hM (i := 1) (by decide) h1_1 (v := .int 8) rfl dX10_addFour_41 ?_
  refine lv_iconst (v := 1) hx hb dX10_addFour_44 (by decide) ?_
  refine lv_iadd hx hb dX10_addFour_45 ?_
  refine m_vi (y := 9) (by decide) ?_
  refine m_put fl_X10_15_X10 C hM (i := 1) (by decide) h1_1 rfl rfl (Nat.le_of_ble_eq_true rfl) (fs1 := [.ref (b + 2), .int 9]) rfl dX10_addFour_46 (fun H locs f2 ef2 hM => ?_)
  refine lv_iinc (v := 16) (lv' := [(2, .int 16), (0, .ref (b + 1)), (1, .int a2)]) hx hb dX10_addFour_49 hl (k := 0) rfl (by decide) (by decide) rfl (fun ls hl => ?_)
  refine lv_goto (tgt := 3) hx hb dX10_addFour_52 (by decide) ?_
  refine lv_iload_n hx hb dX10_addFour_3 rfl (lv_at hl 0 rfl) ?_
  refine lv_if_lt (tgt := 55) hx hb dX10_addFour_4 (by decide) (fun h => absurd h (by decide)) (fun _ => ?_)
  refine lv_aload_n hx hb dX10_addFour_7 rfl (lv_at hl 1 rfl) ?_
  have h1_2 : f2 1 = .inr (10, [.ref (b + 2), .int 9]) := m_eq ef2
  refine m_get fl_X10_15_X10 C hM (i := 1) (by decide) h1_2 (v := .int 9) rfl dX10_addFour_8 ?_
  refine lv_if_lt (tgt := 49) hx hb dX10_addFour_11 (by decide) (fun h => absurd h (by decide)) (fun _ => ?_)
  refine lv_aload_n hx hb dX10_addFour_14 rfl (lv_at hl 1 rfl) ?_
  refine m_get fl_X10_15_X10 C hM (i := 1) (by decide) h1_2 (v := .int 9) rfl dX10_addFour_15 ?_
  refine lv_aload_n hx hb dX10_addFour_18 rfl (lv_at hl 1 rfl) ?_
  refine m_get fl_X10_9_X10 C hM (i := 1) (by decide) h1_2 (v := .ref (b + 2)) rfl dX10_addFour_19 ?_
  have h2_1 : f1 2 = .inl (kc 0, 2000, .inl (upd g2 8 x2.toInt8.toInt32)) := m_eq ef1
  have h2_2 : f2 2 = .inl (kc 0, 2000, .inl (upd g2 8 x2.toInt8.toInt32)) := m_ne ef2 h2_1 (by decide)
  refine m_alen C hM (j := 2) (by decide) 0 h2_2 rfl (v := 2000) rfl dX10_addFour_22 ?_
  refine lv_icmp_ge (tgt := 49) hx hb dX10_addFour_23 (by decide) (fun h => absurd h (by decide)) (fun _ => ?_)
  refine lv_aload_n hx hb dX10_addFour_26 rfl (lv_at hl 1 rfl) ?_
  refine m_get fl_X10_9_X10 C hM (i := 1) (by decide) h1_2 (v := .ref (b + 2)) rfl dX10_addFour_27 ?_
  refine lv_aload_n hx hb dX10_addFour_30 rfl (lv_at hl 1 rfl) ?_
  refine m_get fl_X10_15_X10 C hM (i := 1) (by decide) h1_2 (v := .int 9) rfl dX10_addFour_31 ?_
  refine lv_iload_n hx hb dX10_addFour_34 rfl (lv_at hl 2 rfl) ?_
  refine lv_iload_n hx hb dX10_addFour_35 rfl (lv_at hl 0 rfl) ?_
  obtain ⟨x3, ex3⟩ : ∃ z : Int32, (a2.toUInt32 >>> ((16 : Int32).toUInt32 &&& Int32.toUInt32 31)).toInt32 = z := ⟨_, rfl⟩
  refine lv_iushr hx hb dX10_addFour_36 ex3 ?_
  refine lv_i2b hx hb dX10_addFour_37 rfl ?_
  refine lv_topi (fun x4 ex4 => ?_)
  refine m_bast C hM (j := 2) (by decide) h2_2 (m_in (by decide)) dX10_addFour_38 (fun H locs f3 ef3 hM => ?_)
  have ef3 : f3 = va_up f2 2 (.inl (kc 0, 2000, .inl (upd (upd g2 8 x2.toInt8.toInt32) 9 x4.toInt8.toInt32))) := ef3
  refine lv_aload_n hx hb dX10_addFour_39 rfl (lv_at hl 1 rfl) ?_
  refine lv_dup hx hb dX10_addFour_40 rfl ?_
  have h1_3 : f3 1 = .inr (10, [.ref (b + 2), .int 9]) := m_ne ef3 h1_2 (by decide)
  refine m_get fl_X10_15_X10 C hM (i := 1) (by decide) h1_3 (v := .int 9) rfl dX10_addFour_41 ?_
  refine lv_iconst (v := 1) hx hb dX10_addFour_44 (by decide) ?_
  refine lv_iadd hx hb dX10_addFour_45 ?_
  refine m_vi (y := 10) (by decide) ?_
  refine m_put fl_X10_15_X10 C hM (i := 1) (by decide) h1_3 rfl rfl (Nat.le_of_ble_eq_true rfl) (fs1 := [.ref (b + 2), .int 10]) rfl dX10_addFour_46 (fun H locs f4 ef4 hM => ?_)
  refine lv_iinc (v := 8) (lv' := [(2, .int 8), (0, .ref (b + 1)), (1, .int a2)]) hx hb dX10_addFour_49 hl (k := 0) rfl (by decide) (by decide) rfl (fun ls hl => ?_)
  refine lv_goto (tgt := 3) hx hb dX10_addFour_52 (by decide) ?_
  refine lv_iload_n hx hb dX10_addFour_3 rfl (lv_at hl 0 rfl) ?_
  refine lv_if_lt (tgt := 55) hx hb dX10_addFour_4 (by decide) (fun h => absurd h (by decide)) (fun _ => ?_)
  refine lv_aload_n hx hb dX10_addFour_7 rfl (lv_at hl 1 rfl) ?_
  have h1_4 : f4 1 = .inr (10, [.ref (b + 2), .int 10]) := m_eq ef4
  refine m_get fl_X10_15_X10 C hM (i := 1) (by decide) h1_4 (v := .int 10) rfl dX10_addFour_8 ?_
  refine lv_if_lt (tgt := 49) hx hb dX10_addFour_11 (by decide) (fun h => absurd h (by decide)) (fun _ => ?_)
  refine lv_aload_n hx hb dX10_addFour_14 rfl (lv_at hl 1 rfl) ?_
  refine m_get fl_X10_15_X10 C hM (i := 1) (by decide) h1_4 (v := .int 10) rfl dX10_addFour_15 ?_
  refine lv_aload_n hx hb dX10_addFour_18 rfl (lv_at hl 1 rfl) ?_
  refine m_get fl_X10_9_X10 C hM (i := 1) (by decide) h1_4 (v := .ref (b + 2)) rfl dX10_addFour_19 ?_
  have h2_3 : f3 2 = .inl (kc 0, 2000, .inl (upd (upd g2 8 x2.toInt8.toInt32) 9 x4.toInt8.toInt32)) := m_eq ef3
  have h2_4 : f4 2 = .inl (kc 0, 2000, .inl (upd (upd g2 8 x2.toInt8.toInt32) 9 x4.toInt8.toInt32)) := m_ne ef4 h2_3 (by decide)
  refine m_alen C hM (j := 2) (by decide) 0 h2_4 rfl (v := 2000) rfl dX10_addFour_22 ?_
  refine lv_icmp_ge (tgt := 49) hx hb dX10_addFour_23 (by decide) (fun h => absurd h (by decide)) (fun _ => ?_)
  refine lv_aload_n hx hb dX10_addFour_26 rfl (lv_at hl 1 rfl) ?_
  refine m_get fl_X10_9_X10 C hM (i := 1) (by decide) h1_4 (v := .ref (b + 2)) rfl dX10_addFour_27 ?_
  refine lv_aload_n hx hb dX10_addFour_30 rfl (lv_at hl 1 rfl) ?_
  refine m_get fl_X10_15_X10 C hM (i := 1) (by decide) h1_4 (v := .int 10) rfl dX10_addFour_31 ?_
  refine lv_iload_n hx hb dX10_addFour_34 rfl (lv_at hl 2 rfl) ?_
  refine lv_iload_n hx hb dX10_addFour_35 rfl (lv_at hl 0 rfl) ?_
  obtain ⟨x5, ex5⟩ : ∃ z : Int32, (a2.toUInt32 >>> ((8 : Int32).toUInt32 &&& Int32.toUInt32 31)).toInt32 = z := ⟨_, rfl⟩
  refine lv_iushr hx hb dX10_addFour_36 ex5 ?_
  refine lv_i2b hx hb dX10_addFour_37 rfl ?_
  refine lv_topi (fun x6 ex6 => ?_)
  refine m_bast C hM (j := 2) (by decide) h2_4 (m_in (by decide)) dX10_addFour_38 (fun H locs f5 ef5 hM => ?_)
  have ef5 : f5 = va_up f4 2 (.inl (kc 0, 2000, .inl (upd (upd (upd g2 8 x2.toInt8.toInt32) 9 x4.toInt8.toInt32) 10 x6.toInt8.toInt32))) := ef5
  refine lv_aload_n hx hb dX10_addFour_39 rfl (lv_at hl 1 rfl) ?_
  refine lv_dup hx hb dX10_addFour_40 rfl ?_
  have h1_5 : f5 1 = .inr (10, [.ref (b + 2), .int 10]) := m_ne ef5 h1_4 (by decide)
  refine m_get fl_X10_15_X10 C hM (i := 1) (by decide) h1_5 (v := .int 10) rfl dX10_addFour_41 ?_
  refine lv_iconst (v := 1) hx hb dX10_addFour_44 (by decide) ?_
  refine lv_iadd hx hb dX10_addFour_45 ?_
  refine m_vi (y := 11) (by decide) ?_
  refine m_put fl_X10_15_X10 C hM (i := 1) (by decide) h1_5 rfl rfl (Nat.le_of_ble_eq_true rfl) (fs1 := [.ref (b + 2), .int 11]) rfl dX10_addFour_46 (fun H locs f6 ef6 hM => ?_)
  refine lv_iinc (v := 0) (lv' := [(2, .int 0), (0, .ref (b + 1)), (1, .int a2)]) hx hb dX10_addFour_49 hl (k := 0) rfl (by decide) (by decide) rfl (fun ls hl => ?_)
  refine lv_goto (tgt := 3) hx hb dX10_addFour_52 (by decide) ?_
  refine lv_iload_n hx hb dX10_addFour_3 rfl (lv_at hl 0 rfl) ?_
  refine lv_if_lt (tgt := 55) hx hb dX10_addFour_4 (by decide) (fun h => absurd h (by decide)) (fun _ => ?_)
  refine lv_aload_n hx hb dX10_addFour_7 rfl (lv_at hl 1 rfl) ?_
  have h1_6 : f6 1 = .inr (10, [.ref (b + 2), .int 11]) := m_eq ef6
  refine m_get fl_X10_15_X10 C hM (i := 1) (by decide) h1_6 (v := .int 11) rfl dX10_addFour_8 ?_
  refine lv_if_lt (tgt := 49) hx hb dX10_addFour_11 (by decide) (fun h => absurd h (by decide)) (fun _ => ?_)
  refine lv_aload_n hx hb dX10_addFour_14 rfl (lv_at hl 1 rfl) ?_
  refine m_get fl_X10_15_X10 C hM (i := 1) (by decide) h1_6 (v := .int 11) rfl dX10_addFour_15 ?_
  refine lv_aload_n hx hb dX10_addFour_18 rfl (lv_at hl 1 rfl) ?_
  refine m_get fl_X10_9_X10 C hM (i := 1) (by decide) h1_6 (v := .ref (b + 2)) rfl dX10_addFour_19 ?_
  have h2_5 : f5 2 = .inl (kc 0, 2000, .inl (upd (upd (upd g2 8 x2.toInt8.toInt32) 9 x4.toInt8.toInt32) 10 x6.toInt8.toInt32)) := m_eq ef5
  have h2_6 : f6 2 = .inl (kc 0, 2000, .inl (upd (upd (upd g2 8 x2.toInt8.toInt32) 9 x4.toInt8.toInt32) 10 x6.toInt8.toInt32)) := m_ne ef6 h2_5 (by decide)
  refine m_alen C hM (j := 2) (by decide) 0 h2_6 rfl (v := 2000) rfl dX10_addFour_22 ?_
  refine lv_icmp_ge (tgt := 49) hx hb dX10_addFour_23 (by decide) (fun h => absurd h (by decide)) (fun _ => ?_)
  refine lv_aload_n hx hb dX10_addFour_26 rfl (lv_at hl 1 rfl) ?_
  refine m_get fl_X10_9_X10 C hM (i := 1) (by decide) h1_6 (v := .ref (b + 2)) rfl dX10_addFour_27 ?_
  refine lv_aload_n hx hb dX10_addFour_30 rfl (lv_at hl 1 rfl) ?_
  refine m_get fl_X10_15_X10 C hM (i := 1) (by decide) h1_6 (v := .int 11) rfl dX10_addFour_31 ?_
  refine lv_iload_n hx hb dX10_addFour_34 rfl (lv_at hl 2 rfl) ?_
  refine lv_iload_n hx hb dX10_addFour_35 rfl (lv_at hl 0 rfl) ?_
  obtain ⟨x7, ex7⟩ : ∃ z : Int32, (a2.toUInt32 >>> ((0 : Int32).toUInt32 &&& Int32.toUInt32 31)).toInt32 = z := ⟨_, rfl⟩
  refine lv_iushr hx hb dX10_addFour_36 ex7 ?_
  refine lv_i2b hx hb dX10_addFour_37 rfl ?_
  refine lv_topi (fun x8 ex8 => ?_)
  refine m_bast C hM (j := 2) (by decide) h2_6 (m_in (by decide)) dX10_addFour_38 (fun H locs f7 ef7 hM => ?_)
  have ef7 : f7 = va_up f6 2 (.inl (kc 0, 2000, .inl (upd (upd (upd (upd g2 8 x2.toInt8.toInt32) 9 x4.toInt8.toInt32) 10 x6.toInt8.toInt32) 11 x8.toInt8.toInt32))) := ef7
  refine lv_aload_n hx hb dX10_addFour_39 rfl (lv_at hl 1 rfl) ?_
  refine lv_dup hx hb dX10_addFour_40 rfl ?_
  have h1_7 : f7 1 = .inr (10, [.ref (b + 2), .int 11]) := m_ne ef7 h1_6 (by decide)
  refine m_get fl_X10_15_X10 C hM (i := 1) (by decide) h1_7 (v := .int 11) rfl dX10_addFour_41 ?_
  refine lv_iconst (v := 1) hx hb dX10_addFour_44 (by decide) ?_
  refine lv_iadd hx hb dX10_addFour_45 ?_
  refine m_vi (y := 12) (by decide) ?_
  refine m_put fl_X10_15_X10 C hM (i := 1) (by decide) h1_7 rfl rfl (Nat.le_of_ble_eq_true rfl) (fs1 := [.ref (b + 2), .int 12]) rfl dX10_addFour_46 (fun H locs f8 ef8 hM => ?_)
  refine lv_iinc (v := (-8)) (lv' := [(2, .int (-8)), (0, .ref (b + 1)), (1, .int a2)]) hx hb dX10_addFour_49 hl (k := 0) rfl (by decide) (by decide) rfl (fun ls hl => ?_)
  refine lv_goto (tgt := 3) hx hb dX10_addFour_52 (by decide) ?_
  refine lv_iload_n hx hb dX10_addFour_3 rfl (lv_at hl 0 rfl) ?_
  refine lv_if_lt (tgt := 55) hx hb dX10_addFour_4 (by decide) (fun _ => ?_) (fun h => absurd (by decide) h)
  exact m_vret C hr hlk hM (⟨x2, x4, x6, x8, rfl, by rw [ef8, ef7, ef6, ef5, ef4, ef3, ef2, ef1]⟩) dX10_addFour_55
set_option maxHeartbeats 4000000 in
set_option maxRecDepth 100000 in
theorem a_X10_addFour_3 (l : Launch) (D : va_G) (kc : Nat → ClassId) (b : Nat) (f : Nat → va_E) (a3 : Int32) (g2 : Nat → Int32) (h1 : f 1 = .inr (10, [.ref (b + 2), .int 12])) (h2 : f 2 = .inl (kc 0, 2000, .inl (g2))) : mMv l yX10_addFour cX10_addFour 3 1 0 0 D kc b 220 f [.ref (b + 1), .int a3] (fun u => ∃ (x2 : Int32) (x4 : Int32) (x6 : Int32) (x8 : Int32), u.1 = 220 ∧ u.2 = va_up (va_up (va_up (va_up (va_up (va_up (va_up (va_up f 2 (.inl (kc 0, 2000, .inl (upd g2 12 x2.toInt8.toInt32)))) 1 (.inr (10, [.ref (b + 2), .int 13]))) 2 (.inl (kc 0, 2000, .inl (upd (upd g2 12 x2.toInt8.toInt32) 13 x4.toInt8.toInt32)))) 1 (.inr (10, [.ref (b + 2), .int 14]))) 2 (.inl (kc 0, 2000, .inl (upd (upd (upd g2 12 x2.toInt8.toInt32) 13 x4.toInt8.toInt32) 14 x6.toInt8.toInt32)))) 1 (.inr (10, [.ref (b + 2), .int 15]))) 2 (.inl (kc 0, 2000, .inl (upd (upd (upd (upd g2 12 x2.toInt8.toInt32) 13 x4.toInt8.toInt32) 14 x6.toInt8.toInt32) 15 x8.toInt8.toInt32)))) 1 (.inr (10, [.ref (b + 2), .int 16]))) := by
  refine m_start (by decide) (Nat.le_of_ble_eq_true rfl) ?_
  intro p e s m below meth c C hr hlk hnm hM ls hl
  obtain ⟨hx, hb, hml, hown, hts, hE, hbs⟩ := id C
  have hl : lv_has ls 3 [(0, .ref (b + 1)), (1, .int a3)] := hl
  refine lv_bipush (v := 24) hx hb dX10_addFour_0 (by decide) ?_
  refine lv_istore_n (lv' := [(2, .int 24), (0, .ref (b + 1)), (1, .int a3)]) hx hb dX10_addFour_2 rfl hl (by decide) rfl (fun ls hl => ?_)
  refine lv_iload_n hx hb dX10_addFour_3 rfl (lv_at hl 0 rfl) ?_
  refine lv_if_lt (tgt := 55) hx hb dX10_addFour_4 (by decide) (fun h => absurd h (by decide)) (fun _ => ?_)
  refine lv_aload_n hx hb dX10_addFour_7 rfl (lv_at hl 1 rfl) ?_
  refine m_get fl_X10_15_X10 C hM (i := 1) (by decide) h1 (v := .int 12) rfl dX10_addFour_8 ?_
  refine lv_if_lt (tgt := 49) hx hb dX10_addFour_11 (by decide) (fun h => absurd h (by decide)) (fun _ => ?_)
  refine lv_aload_n hx hb dX10_addFour_14 rfl (lv_at hl 1 rfl) ?_
  refine m_get fl_X10_15_X10 C hM (i := 1) (by decide) h1 (v := .int 12) rfl dX10_addFour_15 ?_
  refine lv_aload_n hx hb dX10_addFour_18 rfl (lv_at hl 1 rfl) ?_
  refine m_get fl_X10_9_X10 C hM (i := 1) (by decide) h1 (v := .ref (b + 2)) rfl dX10_addFour_19 ?_
  refine m_alen C hM (j := 2) (by decide) 0 h2 rfl (v := 2000) rfl dX10_addFour_22 ?_
  refine lv_icmp_ge (tgt := 49) hx hb dX10_addFour_23 (by decide) (fun h => absurd h (by decide)) (fun _ => ?_)
  refine lv_aload_n hx hb dX10_addFour_26 rfl (lv_at hl 1 rfl) ?_
  refine m_get fl_X10_9_X10 C hM (i := 1) (by decide) h1 (v := .ref (b + 2)) rfl dX10_addFour_27 ?_
  refine lv_aload_n hx hb dX10_addFour_30 rfl (lv_at hl 1 rfl) ?_
  refine m_get fl_X10_15_X10 C hM (i := 1) (by decide) h1 (v := .int 12) rfl dX10_addFour_31 ?_
  refine lv_iload_n hx hb dX10_addFour_34 rfl (lv_at hl 2 rfl) ?_
  refine lv_iload_n hx hb dX10_addFour_35 rfl (lv_at hl 0 rfl) ?_
  obtain ⟨x1, ex1⟩ : ∃ z : Int32, (a3.toUInt32 >>> ((24 : Int32).toUInt32 &&& Int32.toUInt32 31)).toInt32 = z := ⟨_, rfl⟩
  refine lv_iushr hx hb dX10_addFour_36 ex1 ?_
  refine lv_i2b hx hb dX10_addFour_37 rfl ?_
  refine lv_topi (fun x2 ex2 => ?_)
  refine m_bast C hM (j := 2) (by decide) h2 (m_in (by decide)) dX10_addFour_38 (fun H locs f1 ef1 hM => ?_)
  have ef1 : f1 = va_up f 2 (.inl (kc 0, 2000, .inl (upd g2 12 x2.toInt8.toInt32))) := ef1
  refine lv_aload_n hx hb dX10_addFour_39 rfl (lv_at hl 1 rfl) ?_
  refine lv_dup hx hb dX10_addFour_40 rfl ?_
  have h1_1 : f1 1 = .inr (10, [.ref (b + 2), .int 12]) := m_ne ef1 h1 (by decide)
  refine m_get fl_X10_15_X10 C hM (i := 1) (by decide) h1_1 (v := .int 12) rfl dX10_addFour_41 ?_
  refine lv_iconst (v := 1) hx hb dX10_addFour_44 (by decide) ?_
  refine lv_iadd hx hb dX10_addFour_45 ?_
  refine m_vi (y := 13) (by decide) ?_
  refine m_put fl_X10_15_X10 C hM (i := 1) (by decide) h1_1 rfl rfl (Nat.le_of_ble_eq_true rfl) (fs1 := [.ref (b + 2), .int 13]) rfl dX10_addFour_46 (fun H locs f2 ef2 hM => ?_)
  refine lv_iinc (v := 16) (lv' := [(2, .int 16), (0, .ref (b + 1)), (1, .int a3)]) hx hb dX10_addFour_49 hl (k := 0) rfl (by decide) (by decide) rfl (fun ls hl => ?_)
  refine lv_goto (tgt := 3) hx hb dX10_addFour_52 (by decide) ?_
  refine lv_iload_n hx hb dX10_addFour_3 rfl (lv_at hl 0 rfl) ?_
  refine lv_if_lt (tgt := 55) hx hb dX10_addFour_4 (by decide) (fun h => absurd h (by decide)) (fun _ => ?_)
  refine lv_aload_n hx hb dX10_addFour_7 rfl (lv_at hl 1 rfl) ?_
  have h1_2 : f2 1 = .inr (10, [.ref (b + 2), .int 13]) := m_eq ef2
  refine m_get fl_X10_15_X10 C hM (i := 1) (by decide) h1_2 (v := .int 13) rfl dX10_addFour_8 ?_
  refine lv_if_lt (tgt := 49) hx hb dX10_addFour_11 (by decide) (fun h => absurd h (by decide)) (fun _ => ?_)
  refine lv_aload_n hx hb dX10_addFour_14 rfl (lv_at hl 1 rfl) ?_
  refine m_get fl_X10_15_X10 C hM (i := 1) (by decide) h1_2 (v := .int 13) rfl dX10_addFour_15 ?_
  refine lv_aload_n hx hb dX10_addFour_18 rfl (lv_at hl 1 rfl) ?_
  refine m_get fl_X10_9_X10 C hM (i := 1) (by decide) h1_2 (v := .ref (b + 2)) rfl dX10_addFour_19 ?_
  have h2_1 : f1 2 = .inl (kc 0, 2000, .inl (upd g2 12 x2.toInt8.toInt32)) := m_eq ef1
  have h2_2 : f2 2 = .inl (kc 0, 2000, .inl (upd g2 12 x2.toInt8.toInt32)) := m_ne ef2 h2_1 (by decide)
  refine m_alen C hM (j := 2) (by decide) 0 h2_2 rfl (v := 2000) rfl dX10_addFour_22 ?_
  refine lv_icmp_ge (tgt := 49) hx hb dX10_addFour_23 (by decide) (fun h => absurd h (by decide)) (fun _ => ?_)
  refine lv_aload_n hx hb dX10_addFour_26 rfl (lv_at hl 1 rfl) ?_
  refine m_get fl_X10_9_X10 C hM (i := 1) (by decide) h1_2 (v := .ref (b + 2)) rfl dX10_addFour_27 ?_
  refine lv_aload_n hx hb dX10_addFour_30 rfl (lv_at hl 1 rfl) ?_
  refine m_get fl_X10_15_X10 C hM (i := 1) (by decide) h1_2 (v := .int 13) rfl dX10_addFour_31 ?_
  refine lv_iload_n hx hb dX10_addFour_34 rfl (lv_at hl 2 rfl) ?_
  refine lv_iload_n hx hb dX10_addFour_35 rfl (lv_at hl 0 rfl) ?_
  obtain ⟨x3, ex3⟩ : ∃ z : Int32, (a3.toUInt32 >>> ((16 : Int32).toUInt32 &&& Int32.toUInt32 31)).toInt32 = z := ⟨_, rfl⟩
  refine lv_iushr hx hb dX10_addFour_36 ex3 ?_
  refine lv_i2b hx hb dX10_addFour_37 rfl ?_
  refine lv_topi (fun x4 ex4 => ?_)
  refine m_bast C hM (j := 2) (by decide) h2_2 (m_in (by decide)) dX10_addFour_38 (fun H locs f3 ef3 hM => ?_)
  have ef3 : f3 = va_up f2 2 (.inl (kc 0, 2000, .inl (upd (upd g2 12 x2.toInt8.toInt32) 13 x4.toInt8.toInt32))) := ef3
  refine lv_aload_n hx hb dX10_addFour_39 rfl (lv_at hl 1 rfl) ?_
  refine lv_dup hx hb dX10_addFour_40 rfl ?_
  have h1_3 : f3 1 = .inr (10, [.ref (b + 2), .int 13]) := m_ne ef3 h1_2 (by decide)
  refine m_get fl_X10_15_X10 C hM (i := 1) (by decide) h1_3 (v := .int 13) rfl dX10_addFour_41 ?_
  refine lv_iconst (v := 1) hx hb dX10_addFour_44 (by decide) ?_
  refine lv_iadd hx hb dX10_addFour_45 ?_
  refine m_vi (y := 14) (by decide) ?_
  refine m_put fl_X10_15_X10 C hM (i := 1) (by decide) h1_3 rfl rfl (Nat.le_of_ble_eq_true rfl) (fs1 := [.ref (b + 2), .int 14]) rfl dX10_addFour_46 (fun H locs f4 ef4 hM => ?_)
  refine lv_iinc (v := 8) (lv' := [(2, .int 8), (0, .ref (b + 1)), (1, .int a3)]) hx hb dX10_addFour_49 hl (k := 0) rfl (by decide) (by decide) rfl (fun ls hl => ?_)
  refine lv_goto (tgt := 3) hx hb dX10_addFour_52 (by decide) ?_
  refine lv_iload_n hx hb dX10_addFour_3 rfl (lv_at hl 0 rfl) ?_
  refine lv_if_lt (tgt := 55) hx hb dX10_addFour_4 (by decide) (fun h => absurd h (by decide)) (fun _ => ?_)
  refine lv_aload_n hx hb dX10_addFour_7 rfl (lv_at hl 1 rfl) ?_
  have h1_4 : f4 1 = .inr (10, [.ref (b + 2), .int 14]) := m_eq ef4
  refine m_get fl_X10_15_X10 C hM (i := 1) (by decide) h1_4 (v := .int 14) rfl dX10_addFour_8 ?_
  refine lv_if_lt (tgt := 49) hx hb dX10_addFour_11 (by decide) (fun h => absurd h (by decide)) (fun _ => ?_)
  refine lv_aload_n hx hb dX10_addFour_14 rfl (lv_at hl 1 rfl) ?_
  refine m_get fl_X10_15_X10 C hM (i := 1) (by decide) h1_4 (v := .int 14) rfl dX10_addFour_15 ?_
  refine lv_aload_n hx hb dX10_addFour_18 rfl (lv_at hl 1 rfl) ?_
  refine m_get fl_X10_9_X10 C hM (i := 1) (by decide) h1_4 (v := .ref (b + 2)) rfl dX10_addFour_19 ?_
  have h2_3 : f3 2 = .inl (kc 0, 2000, .inl (upd (upd g2 12 x2.toInt8.toInt32) 13 x4.toInt8.toInt32)) := m_eq ef3
  have h2_4 : f4 2 = .inl (kc 0, 2000, .inl (upd (upd g2 12 x2.toInt8.toInt32) 13 x4.toInt8.toInt32)) := m_ne ef4 h2_3 (by decide)
  refine m_alen C hM (j := 2) (by decide) 0 h2_4 rfl (v := 2000) rfl dX10_addFour_22 ?_
  refine lv_icmp_ge (tgt := 49) hx hb dX10_addFour_23 (by decide) (fun h => absurd h (by decide)) (fun _ => ?_)
  refine lv_aload_n hx hb dX10_addFour_26 rfl (lv_at hl 1 rfl) ?_
  refine m_get fl_X10_9_X10 C hM (i := 1) (by decide) h1_4 (v := .ref (b + 2)) rfl dX10_addFour_27 ?_
  refine lv_aload_n hx hb dX10_addFour_30 rfl (lv_at hl 1 rfl) ?_
  refine m_get fl_X10_15_X10 C hM (i := 1) (by decide) h1_4 (v := .int 14) rfl dX10_addFour_31 ?_
  refine lv_iload_n hx hb dX10_addFour_34 rfl (lv_at hl 2 rfl) ?_
  refine lv_iload_n hx hb dX10_addFour_35 rfl (lv_at hl 0 rfl) ?_
  obtain ⟨x5, ex5⟩ : ∃ z : Int32, (a3.toUInt32 >>> ((8 : Int32).toUInt32 &&& Int32.toUInt32 31)).toInt32 = z := ⟨_, rfl⟩
  refine lv_iushr hx hb dX10_addFour_36 ex5 ?_
  refine lv_i2b hx hb dX10_addFour_37 rfl ?_
  refine lv_topi (fun x6 ex6 => ?_)
  refine m_bast C hM (j := 2) (by decide) h2_4 (m_in (by decide)) dX10_addFour_38 (fun H locs f5 ef5 hM => ?_)
  have ef5 : f5 = va_up f4 2 (.inl (kc 0, 2000, .inl (upd (upd (upd g2 12 x2.toInt8.toInt32) 13 x4.toInt8.toInt32) 14 x6.toInt8.toInt32))) := ef5
  refine lv_aload_n hx hb dX10_addFour_39 rfl (lv_at hl 1 rfl) ?_
  refine lv_dup hx hb dX10_addFour_40 rfl ?_
  have h1_5 : f5 1 = .inr (10, [.ref (b + 2), .int 14]) := m_ne ef5 h1_4 (by decide)
  refine m_get fl_X10_15_X10 C hM (i := 1) (by decide) h1_5 (v := .int 14) rfl dX10_addFour_41 ?_
  refine lv_iconst (v := 1) hx hb dX10_addFour_44 (by decide) ?_
  refine lv_iadd hx hb dX10_addFour_45 ?_
  refine m_vi (y := 15) (by decide) ?_
  refine m_put fl_X10_15_X10 C hM (i := 1) (by decide) h1_5 rfl rfl (Nat.le_of_ble_eq_true rfl) (fs1 := [.ref (b + 2), .int 15]) rfl dX10_addFour_46 (fun H locs f6 ef6 hM => ?_)
  refine lv_iinc (v := 0) (lv' := [(2, .int 0), (0, .ref (b + 1)), (1, .int a3)]) hx hb dX10_addFour_49 hl (k := 0) rfl (by decide) (by decide) rfl (fun ls hl => ?_)
  refine lv_goto (tgt := 3) hx hb dX10_addFour_52 (by decide) ?_
  refine lv_iload_n hx hb dX10_addFour_3 rfl (lv_at hl 0 rfl) ?_
  refine lv_if_lt (tgt := 55) hx hb dX10_addFour_4 (by decide) (fun h => absurd h (by decide)) (fun _ => ?_)
  refine lv_aload_n hx hb dX10_addFour_7 rfl (lv_at hl 1 rfl) ?_
  have h1_6 : f6 1 = .inr (10, [.ref (b + 2), .int 15]) := m_eq ef6
  refine m_get fl_X10_15_X10 C hM (i := 1) (by decide) h1_6 (v := .int 15) rfl dX10_addFour_8 ?_
  refine lv_if_lt (tgt := 49) hx hb dX10_addFour_11 (by decide) (fun h => absurd h (by decide)) (fun _ => ?_)
  refine lv_aload_n hx hb dX10_addFour_14 rfl (lv_at hl 1 rfl) ?_
  refine m_get fl_X10_15_X10 C hM (i := 1) (by decide) h1_6 (v := .int 15) rfl dX10_addFour_15 ?_
  refine lv_aload_n hx hb dX10_addFour_18 rfl (lv_at hl 1 rfl) ?_
  refine m_get fl_X10_9_X10 C hM (i := 1) (by decide) h1_6 (v := .ref (b + 2)) rfl dX10_addFour_19 ?_
  have h2_5 : f5 2 = .inl (kc 0, 2000, .inl (upd (upd (upd g2 12 x2.toInt8.toInt32) 13 x4.toInt8.toInt32) 14 x6.toInt8.toInt32)) := m_eq ef5
  have h2_6 : f6 2 = .inl (kc 0, 2000, .inl (upd (upd (upd g2 12 x2.toInt8.toInt32) 13 x4.toInt8.toInt32) 14 x6.toInt8.toInt32)) := m_ne ef6 h2_5 (by decide)
  refine m_alen C hM (j := 2) (by decide) 0 h2_6 rfl (v := 2000) rfl dX10_addFour_22 ?_
  refine lv_icmp_ge (tgt := 49) hx hb dX10_addFour_23 (by decide) (fun h => absurd h (by decide)) (fun _ => ?_)
  refine lv_aload_n hx hb dX10_addFour_26 rfl (lv_at hl 1 rfl) ?_
  refine m_get fl_X10_9_X10 C hM (i := 1) (by decide) h1_6 (v := .ref (b + 2)) rfl dX10_addFour_27 ?_
  refine lv_aload_n hx hb dX10_addFour_30 rfl (lv_at hl 1 rfl) ?_
  refine m_get fl_X10_15_X10 C hM (i := 1) (by decide) h1_6 (v := .int 15) rfl dX10_addFour_31 ?_
  refine lv_iload_n hx hb dX10_addFour_34 rfl (lv_at hl 2 rfl) ?_
  refine lv_iload_n hx hb dX10_addFour_35 rfl (lv_at hl 0 rfl) ?_
  obtain ⟨x7, ex7⟩ : ∃ z : Int32, (a3.toUInt32 >>> ((0 : Int32).toUInt32 &&& Int32.toUInt32 31)).toInt32 = z := ⟨_, rfl⟩
  refine lv_iushr hx hb dX10_addFour_36 ex7 ?_
  refine lv_i2b hx hb dX10_addFour_37 rfl ?_
  refine lv_topi (fun x8 ex8 => ?_)
  refine m_bast C hM (j := 2) (by decide) h2_6 (m_in (by decide)) dX10_addFour_38 (fun H locs f7 ef7 hM => ?_)
  have ef7 : f7 = va_up f6 2 (.inl (kc 0, 2000, .inl (upd (upd (upd (upd g2 12 x2.toInt8.toInt32) 13 x4.toInt8.toInt32) 14 x6.toInt8.toInt32) 15 x8.toInt8.toInt32))) := ef7
  refine lv_aload_n hx hb dX10_addFour_39 rfl (lv_at hl 1 rfl) ?_
  refine lv_dup hx hb dX10_addFour_40 rfl ?_
  have h1_7 : f7 1 = .inr (10, [.ref (b + 2), .int 15]) := m_ne ef7 h1_6 (by decide)
  refine m_get fl_X10_15_X10 C hM (i := 1) (by decide) h1_7 (v := .int 15) rfl dX10_addFour_41 ?_
  refine lv_iconst (v := 1) hx hb dX10_addFour_44 (by decide) ?_
  refine lv_iadd hx hb dX10_addFour_45 ?_
  refine m_vi (y := 16) (by decide) ?_
  refine m_put fl_X10_15_X10 C hM (i := 1) (by decide) h1_7 rfl rfl (Nat.le_of_ble_eq_true rfl) (fs1 := [.ref (b + 2), .int 16]) rfl dX10_addFour_46 (fun H locs f8 ef8 hM => ?_)
  refine lv_iinc (v := (-8)) (lv' := [(2, .int (-8)), (0, .ref (b + 1)), (1, .int a3)]) hx hb dX10_addFour_49 hl (k := 0) rfl (by decide) (by decide) rfl (fun ls hl => ?_)
  refine lv_goto (tgt := 3) hx hb dX10_addFour_52 (by decide) ?_
  refine lv_iload_n hx hb dX10_addFour_3 rfl (lv_at hl 0 rfl) ?_
  refine lv_if_lt (tgt := 55) hx hb dX10_addFour_4 (by decide) (fun _ => ?_) (fun h => absurd (by decide) h)
  exact m_vret C hr hlk hM (⟨x2, x4, x6, x8, rfl, by rw [ef8, ef7, ef6, ef5, ef4, ef3, ef2, ef1]⟩) dX10_addFour_55
set_option maxHeartbeats 4000000 in
set_option maxRecDepth 100000 in
theorem a_X10_addFour_4 (l : Launch) (D : va_G) (kc : Nat → ClassId) (b : Nat) (f : Nat → va_E) (a4 : Int32) (g2 : Nat → Int32) (h1 : f 1 = .inr (10, [.ref (b + 2), .int 16])) (h2 : f 2 = .inl (kc 0, 2000, .inl (g2))) : mMv l yX10_addFour cX10_addFour 3 1 0 0 D kc b 220 f [.ref (b + 1), .int a4] (fun u => ∃ (x2 : Int32) (x4 : Int32) (x6 : Int32) (x8 : Int32), u.1 = 220 ∧ u.2 = va_up (va_up (va_up (va_up (va_up (va_up (va_up (va_up f 2 (.inl (kc 0, 2000, .inl (upd g2 16 x2.toInt8.toInt32)))) 1 (.inr (10, [.ref (b + 2), .int 17]))) 2 (.inl (kc 0, 2000, .inl (upd (upd g2 16 x2.toInt8.toInt32) 17 x4.toInt8.toInt32)))) 1 (.inr (10, [.ref (b + 2), .int 18]))) 2 (.inl (kc 0, 2000, .inl (upd (upd (upd g2 16 x2.toInt8.toInt32) 17 x4.toInt8.toInt32) 18 x6.toInt8.toInt32)))) 1 (.inr (10, [.ref (b + 2), .int 19]))) 2 (.inl (kc 0, 2000, .inl (upd (upd (upd (upd g2 16 x2.toInt8.toInt32) 17 x4.toInt8.toInt32) 18 x6.toInt8.toInt32) 19 x8.toInt8.toInt32)))) 1 (.inr (10, [.ref (b + 2), .int 20]))) := by
  refine m_start (by decide) (Nat.le_of_ble_eq_true rfl) ?_
  intro p e s m below meth c C hr hlk hnm hM ls hl
  obtain ⟨hx, hb, hml, hown, hts, hE, hbs⟩ := id C
  have hl : lv_has ls 3 [(0, .ref (b + 1)), (1, .int a4)] := hl
  refine lv_bipush (v := 24) hx hb dX10_addFour_0 (by decide) ?_
  refine lv_istore_n (lv' := [(2, .int 24), (0, .ref (b + 1)), (1, .int a4)]) hx hb dX10_addFour_2 rfl hl (by decide) rfl (fun ls hl => ?_)
  refine lv_iload_n hx hb dX10_addFour_3 rfl (lv_at hl 0 rfl) ?_
  refine lv_if_lt (tgt := 55) hx hb dX10_addFour_4 (by decide) (fun h => absurd h (by decide)) (fun _ => ?_)
  refine lv_aload_n hx hb dX10_addFour_7 rfl (lv_at hl 1 rfl) ?_
  refine m_get fl_X10_15_X10 C hM (i := 1) (by decide) h1 (v := .int 16) rfl dX10_addFour_8 ?_
  refine lv_if_lt (tgt := 49) hx hb dX10_addFour_11 (by decide) (fun h => absurd h (by decide)) (fun _ => ?_)
  refine lv_aload_n hx hb dX10_addFour_14 rfl (lv_at hl 1 rfl) ?_
  refine m_get fl_X10_15_X10 C hM (i := 1) (by decide) h1 (v := .int 16) rfl dX10_addFour_15 ?_
  refine lv_aload_n hx hb dX10_addFour_18 rfl (lv_at hl 1 rfl) ?_
  refine m_get fl_X10_9_X10 C hM (i := 1) (by decide) h1 (v := .ref (b + 2)) rfl dX10_addFour_19 ?_
  refine m_alen C hM (j := 2) (by decide) 0 h2 rfl (v := 2000) rfl dX10_addFour_22 ?_
  refine lv_icmp_ge (tgt := 49) hx hb dX10_addFour_23 (by decide) (fun h => absurd h (by decide)) (fun _ => ?_)
  refine lv_aload_n hx hb dX10_addFour_26 rfl (lv_at hl 1 rfl) ?_
  refine m_get fl_X10_9_X10 C hM (i := 1) (by decide) h1 (v := .ref (b + 2)) rfl dX10_addFour_27 ?_
  refine lv_aload_n hx hb dX10_addFour_30 rfl (lv_at hl 1 rfl) ?_
  refine m_get fl_X10_15_X10 C hM (i := 1) (by decide) h1 (v := .int 16) rfl dX10_addFour_31 ?_
  refine lv_iload_n hx hb dX10_addFour_34 rfl (lv_at hl 2 rfl) ?_
  refine lv_iload_n hx hb dX10_addFour_35 rfl (lv_at hl 0 rfl) ?_
  obtain ⟨x1, ex1⟩ : ∃ z : Int32, (a4.toUInt32 >>> ((24 : Int32).toUInt32 &&& Int32.toUInt32 31)).toInt32 = z := ⟨_, rfl⟩
  refine lv_iushr hx hb dX10_addFour_36 ex1 ?_
  refine lv_i2b hx hb dX10_addFour_37 rfl ?_
  refine lv_topi (fun x2 ex2 => ?_)
  refine m_bast C hM (j := 2) (by decide) h2 (m_in (by decide)) dX10_addFour_38 (fun H locs f1 ef1 hM => ?_)
  have ef1 : f1 = va_up f 2 (.inl (kc 0, 2000, .inl (upd g2 16 x2.toInt8.toInt32))) := ef1
  refine lv_aload_n hx hb dX10_addFour_39 rfl (lv_at hl 1 rfl) ?_
  refine lv_dup hx hb dX10_addFour_40 rfl ?_
  have h1_1 : f1 1 = .inr (10, [.ref (b + 2), .int 16]) := m_ne ef1 h1 (by decide)
  refine m_get fl_X10_15_X10 C hM (i := 1) (by decide) h1_1 (v := .int 16) rfl dX10_addFour_41 ?_
  refine lv_iconst (v := 1) hx hb dX10_addFour_44 (by decide) ?_
  refine lv_iadd hx hb dX10_addFour_45 ?_
  refine m_vi (y := 17) (by decide) ?_
  refine m_put fl_X10_15_X10 C hM (i := 1) (by decide) h1_1 rfl rfl (Nat.le_of_ble_eq_true rfl) (fs1 := [.ref (b + 2), .int 17]) rfl dX10_addFour_46 (fun H locs f2 ef2 hM => ?_)
  refine lv_iinc (v := 16) (lv' := [(2, .int 16), (0, .ref (b + 1)), (1, .int a4)]) hx hb dX10_addFour_49 hl (k := 0) rfl (by decide) (by decide) rfl (fun ls hl => ?_)
  refine lv_goto (tgt := 3) hx hb dX10_addFour_52 (by decide) ?_
  refine lv_iload_n hx hb dX10_addFour_3 rfl (lv_at hl 0 rfl) ?_
  refine lv_if_lt (tgt := 55) hx hb dX10_addFour_4 (by decide) (fun h => absurd h (by decide)) (fun _ => ?_)
  refine lv_aload_n hx hb dX10_addFour_7 rfl (lv_at hl 1 rfl) ?_
  have h1_2 : f2 1 = .inr (10, [.ref (b + 2), .int 17]) := m_eq ef2
  refine m_get fl_X10_15_X10 C hM (i := 1) (by decide) h1_2 (v := .int 17) rfl dX10_addFour_8 ?_
  refine lv_if_lt (tgt := 49) hx hb dX10_addFour_11 (by decide) (fun h => absurd h (by decide)) (fun _ => ?_)
  refine lv_aload_n hx hb dX10_addFour_14 rfl (lv_at hl 1 rfl) ?_
  refine m_get fl_X10_15_X10 C hM (i := 1) (by decide) h1_2 (v := .int 17) rfl dX10_addFour_15 ?_
  refine lv_aload_n hx hb dX10_addFour_18 rfl (lv_at hl 1 rfl) ?_
  refine m_get fl_X10_9_X10 C hM (i := 1) (by decide) h1_2 (v := .ref (b + 2)) rfl dX10_addFour_19 ?_
  have h2_1 : f1 2 = .inl (kc 0, 2000, .inl (upd g2 16 x2.toInt8.toInt32)) := m_eq ef1
  have h2_2 : f2 2 = .inl (kc 0, 2000, .inl (upd g2 16 x2.toInt8.toInt32)) := m_ne ef2 h2_1 (by decide)
  refine m_alen C hM (j := 2) (by decide) 0 h2_2 rfl (v := 2000) rfl dX10_addFour_22 ?_
  refine lv_icmp_ge (tgt := 49) hx hb dX10_addFour_23 (by decide) (fun h => absurd h (by decide)) (fun _ => ?_)
  refine lv_aload_n hx hb dX10_addFour_26 rfl (lv_at hl 1 rfl) ?_
  refine m_get fl_X10_9_X10 C hM (i := 1) (by decide) h1_2 (v := .ref (b + 2)) rfl dX10_addFour_27 ?_
  refine lv_aload_n hx hb dX10_addFour_30 rfl (lv_at hl 1 rfl) ?_
  refine m_get fl_X10_15_X10 C hM (i := 1) (by decide) h1_2 (v := .int 17) rfl dX10_addFour_31 ?_
  refine lv_iload_n hx hb dX10_addFour_34 rfl (lv_at hl 2 rfl) ?_
  refine lv_iload_n hx hb dX10_addFour_35 rfl (lv_at hl 0 rfl) ?_
  obtain ⟨x3, ex3⟩ : ∃ z : Int32, (a4.toUInt32 >>> ((16 : Int32).toUInt32 &&& Int32.toUInt32 31)).toInt32 = z := ⟨_, rfl⟩
  refine lv_iushr hx hb dX10_addFour_36 ex3 ?_
  refine lv_i2b hx hb dX10_addFour_37 rfl ?_
  refine lv_topi (fun x4 ex4 => ?_)
  refine m_bast C hM (j := 2) (by decide) h2_2 (m_in (by decide)) dX10_addFour_38 (fun H locs f3 ef3 hM => ?_)
  have ef3 : f3 = va_up f2 2 (.inl (kc 0, 2000, .inl (upd (upd g2 16 x2.toInt8.toInt32) 17 x4.toInt8.toInt32))) := ef3
  refine lv_aload_n hx hb dX10_addFour_39 rfl (lv_at hl 1 rfl) ?_
  refine lv_dup hx hb dX10_addFour_40 rfl ?_
  have h1_3 : f3 1 = .inr (10, [.ref (b + 2), .int 17]) := m_ne ef3 h1_2 (by decide)
  refine m_get fl_X10_15_X10 C hM (i := 1) (by decide) h1_3 (v := .int 17) rfl dX10_addFour_41 ?_
  refine lv_iconst (v := 1) hx hb dX10_addFour_44 (by decide) ?_
  refine lv_iadd hx hb dX10_addFour_45 ?_
  refine m_vi (y := 18) (by decide) ?_
  refine m_put fl_X10_15_X10 C hM (i := 1) (by decide) h1_3 rfl rfl (Nat.le_of_ble_eq_true rfl) (fs1 := [.ref (b + 2), .int 18]) rfl dX10_addFour_46 (fun H locs f4 ef4 hM => ?_)
  refine lv_iinc (v := 8) (lv' := [(2, .int 8), (0, .ref (b + 1)), (1, .int a4)]) hx hb dX10_addFour_49 hl (k := 0) rfl (by decide) (by decide) rfl (fun ls hl => ?_)
  refine lv_goto (tgt := 3) hx hb dX10_addFour_52 (by decide) ?_
  refine lv_iload_n hx hb dX10_addFour_3 rfl (lv_at hl 0 rfl) ?_
  refine lv_if_lt (tgt := 55) hx hb dX10_addFour_4 (by decide) (fun h => absurd h (by decide)) (fun _ => ?_)
  refine lv_aload_n hx hb dX10_addFour_7 rfl (lv_at hl 1 rfl) ?_
  have h1_4 : f4 1 = .inr (10, [.ref (b + 2), .int 18]) := m_eq ef4
  refine m_get fl_X10_15_X10 C hM (i := 1) (by decide) h1_4 (v := .int 18) rfl dX10_addFour_8 ?_
  refine lv_if_lt (tgt := 49) hx hb dX10_addFour_11 (by decide) (fun h => absurd h (by decide)) (fun _ => ?_)
  refine lv_aload_n hx hb dX10_addFour_14 rfl (lv_at hl 1 rfl) ?_
  refine m_get fl_X10_15_X10 C hM (i := 1) (by decide) h1_4 (v := .int 18) rfl dX10_addFour_15 ?_
  refine lv_aload_n hx hb dX10_addFour_18 rfl (lv_at hl 1 rfl) ?_
  refine m_get fl_X10_9_X10 C hM (i := 1) (by decide) h1_4 (v := .ref (b + 2)) rfl dX10_addFour_19 ?_
  have h2_3 : f3 2 = .inl (kc 0, 2000, .inl (upd (upd g2 16 x2.toInt8.toInt32) 17 x4.toInt8.toInt32)) := m_eq ef3
  have h2_4 : f4 2 = .inl (kc 0, 2000, .inl (upd (upd g2 16 x2.toInt8.toInt32) 17 x4.toInt8.toInt32)) := m_ne ef4 h2_3 (by decide)
  refine m_alen C hM (j := 2) (by decide) 0 h2_4 rfl (v := 2000) rfl dX10_addFour_22 ?_
  refine lv_icmp_ge (tgt := 49) hx hb dX10_addFour_23 (by decide) (fun h => absurd h (by decide)) (fun _ => ?_)
  refine lv_aload_n hx hb dX10_addFour_26 rfl (lv_at hl 1 rfl) ?_
  refine m_get fl_X10_9_X10 C hM (i := 1) (by decide) h1_4 (v := .ref (b + 2)) rfl dX10_addFour_27 ?_
  refine lv_aload_n hx hb dX10_addFour_30 rfl (lv_at hl 1 rfl) ?_
  refine m_get fl_X10_15_X10 C hM (i := 1) (by decide) h1_4 (v := .int 18) rfl dX10_addFour_31 ?_
  refine lv_iload_n hx hb dX10_addFour_34 rfl (lv_at hl 2 rfl) ?_
  refine lv_iload_n hx hb dX10_addFour_35 rfl (lv_at hl 0 rfl) ?_
  obtain ⟨x5, ex5⟩ : ∃ z : Int32, (a4.toUInt32 >>> ((8 : Int32).toUInt32 &&& Int32.toUInt32 31)).toInt32 = z := ⟨_, rfl⟩
  refine lv_iushr hx hb dX10_addFour_36 ex5 ?_
  refine lv_i2b hx hb dX10_addFour_37 rfl ?_
  refine lv_topi (fun x6 ex6 => ?_)
  refine m_bast C hM (j := 2) (by decide) h2_4 (m_in (by decide)) dX10_addFour_38 (fun H locs f5 ef5 hM => ?_)
  have ef5 : f5 = va_up f4 2 (.inl (kc 0, 2000, .inl (upd (upd (upd g2 16 x2.toInt8.toInt32) 17 x4.toInt8.toInt32) 18 x6.toInt8.toInt32))) := ef5
  refine lv_aload_n hx hb dX10_addFour_39 rfl (lv_at hl 1 rfl) ?_
  refine lv_dup hx hb dX10_addFour_40 rfl ?_
  have h1_5 : f5 1 = .inr (10, [.ref (b + 2), .int 18]) := m_ne ef5 h1_4 (by decide)
  refine m_get fl_X10_15_X10 C hM (i := 1) (by decide) h1_5 (v := .int 18) rfl dX10_addFour_41 ?_
  refine lv_iconst (v := 1) hx hb dX10_addFour_44 (by decide) ?_
  refine lv_iadd hx hb dX10_addFour_45 ?_
  refine m_vi (y := 19) (by decide) ?_
  refine m_put fl_X10_15_X10 C hM (i := 1) (by decide) h1_5 rfl rfl (Nat.le_of_ble_eq_true rfl) (fs1 := [.ref (b + 2), .int 19]) rfl dX10_addFour_46 (fun H locs f6 ef6 hM => ?_)
  refine lv_iinc (v := 0) (lv' := [(2, .int 0), (0, .ref (b + 1)), (1, .int a4)]) hx hb dX10_addFour_49 hl (k := 0) rfl (by decide) (by decide) rfl (fun ls hl => ?_)
  refine lv_goto (tgt := 3) hx hb dX10_addFour_52 (by decide) ?_
  refine lv_iload_n hx hb dX10_addFour_3 rfl (lv_at hl 0 rfl) ?_
  refine lv_if_lt (tgt := 55) hx hb dX10_addFour_4 (by decide) (fun h => absurd h (by decide)) (fun _ => ?_)
  refine lv_aload_n hx hb dX10_addFour_7 rfl (lv_at hl 1 rfl) ?_
  have h1_6 : f6 1 = .inr (10, [.ref (b + 2), .int 19]) := m_eq ef6
  refine m_get fl_X10_15_X10 C hM (i := 1) (by decide) h1_6 (v := .int 19) rfl dX10_addFour_8 ?_
  refine lv_if_lt (tgt := 49) hx hb dX10_addFour_11 (by decide) (fun h => absurd h (by decide)) (fun _ => ?_)
  refine lv_aload_n hx hb dX10_addFour_14 rfl (lv_at hl 1 rfl) ?_
  refine m_get fl_X10_15_X10 C hM (i := 1) (by decide) h1_6 (v := .int 19) rfl dX10_addFour_15 ?_
  refine lv_aload_n hx hb dX10_addFour_18 rfl (lv_at hl 1 rfl) ?_
  refine m_get fl_X10_9_X10 C hM (i := 1) (by decide) h1_6 (v := .ref (b + 2)) rfl dX10_addFour_19 ?_
  have h2_5 : f5 2 = .inl (kc 0, 2000, .inl (upd (upd (upd g2 16 x2.toInt8.toInt32) 17 x4.toInt8.toInt32) 18 x6.toInt8.toInt32)) := m_eq ef5
  have h2_6 : f6 2 = .inl (kc 0, 2000, .inl (upd (upd (upd g2 16 x2.toInt8.toInt32) 17 x4.toInt8.toInt32) 18 x6.toInt8.toInt32)) := m_ne ef6 h2_5 (by decide)
  refine m_alen C hM (j := 2) (by decide) 0 h2_6 rfl (v := 2000) rfl dX10_addFour_22 ?_
  refine lv_icmp_ge (tgt := 49) hx hb dX10_addFour_23 (by decide) (fun h => absurd h (by decide)) (fun _ => ?_)
  refine lv_aload_n hx hb dX10_addFour_26 rfl (lv_at hl 1 rfl) ?_
  refine m_get fl_X10_9_X10 C hM (i := 1) (by decide) h1_6 (v := .ref (b + 2)) rfl dX10_addFour_27 ?_
  refine lv_aload_n hx hb dX10_addFour_30 rfl (lv_at hl 1 rfl) ?_
  refine m_get fl_X10_15_X10 C hM (i := 1) (by decide) h1_6 (v := .int 19) rfl dX10_addFour_31 ?_
  refine lv_iload_n hx hb dX10_addFour_34 rfl (lv_at hl 2 rfl) ?_
  refine lv_iload_n hx hb dX10_addFour_35 rfl (lv_at hl 0 rfl) ?_
  obtain ⟨x7, ex7⟩ : ∃ z : Int32, (a4.toUInt32 >>> ((0 : Int32).toUInt32 &&& Int32.toUInt32 31)).toInt32 = z := ⟨_, rfl⟩
  refine lv_iushr hx hb dX10_addFour_36 ex7 ?_
  refine lv_i2b hx hb dX10_addFour_37 rfl ?_
  refine lv_topi (fun x8 ex8 => ?_)
  refine m_bast C hM (j := 2) (by decide) h2_6 (m_in (by decide)) dX10_addFour_38 (fun H locs f7 ef7 hM => ?_)
  have ef7 : f7 = va_up f6 2 (.inl (kc 0, 2000, .inl (upd (upd (upd (upd g2 16 x2.toInt8.toInt32) 17 x4.toInt8.toInt32) 18 x6.toInt8.toInt32) 19 x8.toInt8.toInt32))) := ef7
  refine lv_aload_n hx hb dX10_addFour_39 rfl (lv_at hl 1 rfl) ?_
  refine lv_dup hx hb dX10_addFour_40 rfl ?_
  have h1_7 : f7 1 = .inr (10, [.ref (b + 2), .int 19]) := m_ne ef7 h1_6 (by decide)
  refine m_get fl_X10_15_X10 C hM (i := 1) (by decide) h1_7 (v := .int 19) rfl dX10_addFour_41 ?_
  refine lv_iconst (v := 1) hx hb dX10_addFour_44 (by decide) ?_
  refine lv_iadd hx hb dX10_addFour_45 ?_
  refine m_vi (y := 20) (by decide) ?_
  refine m_put fl_X10_15_X10 C hM (i := 1) (by decide) h1_7 rfl rfl (Nat.le_of_ble_eq_true rfl) (fs1 := [.ref (b + 2), .int 20]) rfl dX10_addFour_46 (fun H locs f8 ef8 hM => ?_)
  refine lv_iinc (v := (-8)) (lv' := [(2, .int (-8)), (0, .ref (b + 1)), (1, .int a4)]) hx hb dX10_addFour_49 hl (k := 0) rfl (by decide) (by decide) rfl (fun ls hl => ?_)
  refine lv_goto (tgt := 3) hx hb dX10_addFour_52 (by decide) ?_
  refine lv_iload_n hx hb dX10_addFour_3 rfl (lv_at hl 0 rfl) ?_
  refine lv_if_lt (tgt := 55) hx hb dX10_addFour_4 (by decide) (fun _ => ?_) (fun h => absurd (by decide) h)
  exact m_vret C hr hlk hM (⟨x2, x4, x6, x8, rfl, by rw [ef8, ef7, ef6, ef5, ef4, ef3, ef2, ef1]⟩) dX10_addFour_55
set_option maxHeartbeats 4000000 in
set_option maxRecDepth 100000 in
theorem k_x_feed (l : Launch) (D : va_G) (kc : Nat → ClassId) (b : Nat) (f : Nat → va_E) (a0 : Int32) (a1 : Int32) (a2 : Int32) (a3 : Int32) (a4 : Int32) (h0 : f 0 = .inr (11, [.ref (b + 1), .ref (b + 3), .ref (b + 4), .ref (b + 6), .ref (b + 8), .ref (b + 10), .ref (b + 174), .ref (b + 177), .ref (b + 178), .ref (b + 181), .ref (b + 183), .ref (b + 190)])) (h1 : f 1 = .inr (10, [.ref (b + 2), .int 0])) (h2 : f 2 = .inl (kc 0, 2000, .inl (fun _ => 0))) : mMi l yX11_feed cX11_feed 6 .int 2 0 0 D kc b 220 f [.ref (b + 0), .int a0, .int a1, .int a2, .int a3, .int a4] (fun r u => r = 20 ∧ u.1 = 220 ∧ ∀ j, 192 ≤ j → u.2 j = f j) := by
  refine m_start (by decide) (Nat.le_of_ble_eq_true rfl) ?_
  intro p e s m below meth c C hr hlk hnm hM ls hl
  obtain ⟨hx, hb, hml, hown, hts, hE, hbs⟩ := id C
  have hl : lv_has ls 6 [(0, .ref (b + 0)), (1, .int a0), (2, .int a1), (3, .int a2), (4, .int a3), (5, .int a4)] := hl
  refine lv_aload_n hx hb dX11_feed_0 rfl (lv_at hl 0 rfl) ?_
  refine m_get fl_X11_12_X11 C hM (i := 0) (by decide) h0 (v := .ref (b + 1)) rfl dX11_feed_1 ?_
  refine m_getN fl_X11_87_X10 C hM (i := 1) (by decide) h1 (v := .int 0) rfl dX11_feed_4 ?_
  refine lv_bipush (v := 20) hx hb dX11_feed_7 (by decide) ?_
  refine lv_iadd hx hb dX11_feed_9 ?_
  refine m_vi (y := 20) (by decide) ?_
  refine lv_sipush (v := 2000) hx hb dX11_feed_10 (by decide) ?_
  refine lv_icmp_le (tgt := 19) hx hb dX11_feed_13 (by decide) (fun _ => ?_) (fun h => absurd (by decide) h)
  refine lv_aload_n hx hb dX11_feed_19 rfl (lv_at hl 0 rfl) ?_
  refine m_get fl_X11_12_X11 C hM (i := 0) (by decide) h0 (v := .ref (b + 1)) rfl dX11_feed_20 ?_
  refine lv_iload_n hx hb dX11_feed_23 rfl (lv_at hl 1 rfl) ?_
  refine m_gov (m_runV calV_X10_addFour wd_441 (a_X10_addFour_0 l D kc b f a0 (fun _ => 0) h1 h2) C hM (by decide) h1 rfl hl.1 rfl rfl (Nat.le_of_ble_eq_true rfl) dX11_feed_24 ⟨Nat.le_of_ble_eq_true rfl, Nat.le_of_ble_eq_true rfl⟩ ⟨Nat.le_of_ble_eq_true rfl, Nat.le_of_ble_eq_true rfl⟩) hM (fun n6 f1 H locs hp hM => ?_)
  have hp : ∃ (x1 : Int32) (x2 : Int32) (x3 : Int32) (x4 : Int32), n6 = 220 ∧ f1 = va_up (va_up (va_up (va_up (va_up (va_up (va_up (va_up f 2 (.inl (kc 0, 2000, .inl (upd (fun _ => 0) 0 x1.toInt8.toInt32)))) 1 (.inr (10, [.ref (b + 2), .int 1]))) 2 (.inl (kc 0, 2000, .inl (upd (upd (fun _ => 0) 0 x1.toInt8.toInt32) 1 x2.toInt8.toInt32)))) 1 (.inr (10, [.ref (b + 2), .int 2]))) 2 (.inl (kc 0, 2000, .inl (upd (upd (upd (fun _ => 0) 0 x1.toInt8.toInt32) 1 x2.toInt8.toInt32) 2 x3.toInt8.toInt32)))) 1 (.inr (10, [.ref (b + 2), .int 3]))) 2 (.inl (kc 0, 2000, .inl (upd (upd (upd (upd (fun _ => 0) 0 x1.toInt8.toInt32) 1 x2.toInt8.toInt32) 2 x3.toInt8.toInt32) 3 x4.toInt8.toInt32)))) 1 (.inr (10, [.ref (b + 2), .int 4])) := hp
  obtain ⟨x1, x2, x3, x4, rfl, ef1⟩ := hp
  refine lv_aload_n hx hb dX11_feed_27 rfl (lv_at hl 0 rfl) ?_
  have h0_1 : f1 0 = .inr (11, [.ref (b + 1), .ref (b + 3), .ref (b + 4), .ref (b + 6), .ref (b + 8), .ref (b + 10), .ref (b + 174), .ref (b + 177), .ref (b + 178), .ref (b + 181), .ref (b + 183), .ref (b + 190)]) := m_ne ef1 (m_ne rfl (m_ne rfl (m_ne rfl (m_ne rfl (m_ne rfl (m_ne rfl (m_ne rfl h0 (by decide)) (by decide)) (by decide)) (by decide)) (by decide)) (by decide)) (by decide)) (by decide)
  refine m_get fl_X11_12_X11 C hM (i := 0) (by decide) h0_1 (v := .ref (b + 1)) rfl dX11_feed_28 ?_
  refine lv_iload_n hx hb dX11_feed_31 rfl (lv_at hl 2 rfl) ?_
  have h1_1 : f1 1 = .inr (10, [.ref (b + 2), .int 4]) := m_eq ef1
  have h2_1 : f1 2 = .inl (kc 0, 2000, .inl (upd (upd (upd (upd (fun _ => 0) 0 x1.toInt8.toInt32) 1 x2.toInt8.toInt32) 2 x3.toInt8.toInt32) 3 x4.toInt8.toInt32)) := m_ne ef1 (m_eq rfl) (by decide)
  refine m_gov (m_runV calV_X10_addFour wd_441 (a_X10_addFour_1 l D kc b f1 a1 (upd (upd (upd (upd (fun _ => 0) 0 x1.toInt8.toInt32) 1 x2.toInt8.toInt32) 2 x3.toInt8.toInt32) 3 x4.toInt8.toInt32) h1_1 h2_1) C hM (by decide) h1_1 rfl hl.1 rfl rfl (Nat.le_of_ble_eq_true rfl) dX11_feed_32 ⟨Nat.le_of_ble_eq_true rfl, Nat.le_of_ble_eq_true rfl⟩ ⟨Nat.le_of_ble_eq_true rfl, Nat.le_of_ble_eq_true rfl⟩) hM (fun n12 f2 H locs hp hM => ?_)
  have hp : ∃ (x7 : Int32) (x8 : Int32) (x9 : Int32) (x10 : Int32), n12 = 220 ∧ f2 = va_up (va_up (va_up (va_up (va_up (va_up (va_up (va_up f1 2 (.inl (kc 0, 2000, .inl (upd (upd (upd (upd (upd (fun _ => 0) 0 x1.toInt8.toInt32) 1 x2.toInt8.toInt32) 2 x3.toInt8.toInt32) 3 x4.toInt8.toInt32) 4 x7.toInt8.toInt32)))) 1 (.inr (10, [.ref (b + 2), .int 5]))) 2 (.inl (kc 0, 2000, .inl (upd (upd (upd (upd (upd (upd (fun _ => 0) 0 x1.toInt8.toInt32) 1 x2.toInt8.toInt32) 2 x3.toInt8.toInt32) 3 x4.toInt8.toInt32) 4 x7.toInt8.toInt32) 5 x8.toInt8.toInt32)))) 1 (.inr (10, [.ref (b + 2), .int 6]))) 2 (.inl (kc 0, 2000, .inl (upd (upd (upd (upd (upd (upd (upd (fun _ => 0) 0 x1.toInt8.toInt32) 1 x2.toInt8.toInt32) 2 x3.toInt8.toInt32) 3 x4.toInt8.toInt32) 4 x7.toInt8.toInt32) 5 x8.toInt8.toInt32) 6 x9.toInt8.toInt32)))) 1 (.inr (10, [.ref (b + 2), .int 7]))) 2 (.inl (kc 0, 2000, .inl (upd (upd (upd (upd (upd (upd (upd (upd (fun _ => 0) 0 x1.toInt8.toInt32) 1 x2.toInt8.toInt32) 2 x3.toInt8.toInt32) 3 x4.toInt8.toInt32) 4 x7.toInt8.toInt32) 5 x8.toInt8.toInt32) 6 x9.toInt8.toInt32) 7 x10.toInt8.toInt32)))) 1 (.inr (10, [.ref (b + 2), .int 8])) := hp
  obtain ⟨x7, x8, x9, x10, rfl, ef2⟩ := hp
  refine lv_aload_n hx hb dX11_feed_35 rfl (lv_at hl 0 rfl) ?_
  have h0_2 : f2 0 = .inr (11, [.ref (b + 1), .ref (b + 3), .ref (b + 4), .ref (b + 6), .ref (b + 8), .ref (b + 10), .ref (b + 174), .ref (b + 177), .ref (b + 178), .ref (b + 181), .ref (b + 183), .ref (b + 190)]) := m_ne ef2 (m_ne rfl (m_ne rfl (m_ne rfl (m_ne rfl (m_ne rfl (m_ne rfl (m_ne rfl h0_1 (by decide)) (by decide)) (by decide)) (by decide)) (by decide)) (by decide)) (by decide)) (by decide)
  refine m_get fl_X11_12_X11 C hM (i := 0) (by decide) h0_2 (v := .ref (b + 1)) rfl dX11_feed_36 ?_
  refine lv_iload_n hx hb dX11_feed_39 rfl (lv_at hl 3 rfl) ?_
  have h1_2 : f2 1 = .inr (10, [.ref (b + 2), .int 8]) := m_eq ef2
  have h2_2 : f2 2 = .inl (kc 0, 2000, .inl (upd (upd (upd (upd (upd (upd (upd (upd (fun _ => 0) 0 x1.toInt8.toInt32) 1 x2.toInt8.toInt32) 2 x3.toInt8.toInt32) 3 x4.toInt8.toInt32) 4 x7.toInt8.toInt32) 5 x8.toInt8.toInt32) 6 x9.toInt8.toInt32) 7 x10.toInt8.toInt32)) := m_ne ef2 (m_eq rfl) (by decide)
  refine m_gov (m_runV calV_X10_addFour wd_441 (a_X10_addFour_2 l D kc b f2 a2 (upd (upd (upd (upd (upd (upd (upd (upd (fun _ => 0) 0 x1.toInt8.toInt32) 1 x2.toInt8.toInt32) 2 x3.toInt8.toInt32) 3 x4.toInt8.toInt32) 4 x7.toInt8.toInt32) 5 x8.toInt8.toInt32) 6 x9.toInt8.toInt32) 7 x10.toInt8.toInt32) h1_2 h2_2) C hM (by decide) h1_2 rfl hl.1 rfl rfl (Nat.le_of_ble_eq_true rfl) dX11_feed_40 ⟨Nat.le_of_ble_eq_true rfl, Nat.le_of_ble_eq_true rfl⟩ ⟨Nat.le_of_ble_eq_true rfl, Nat.le_of_ble_eq_true rfl⟩) hM (fun n18 f3 H locs hp hM => ?_)
  have hp : ∃ (x13 : Int32) (x14 : Int32) (x15 : Int32) (x16 : Int32), n18 = 220 ∧ f3 = va_up (va_up (va_up (va_up (va_up (va_up (va_up (va_up f2 2 (.inl (kc 0, 2000, .inl (upd (upd (upd (upd (upd (upd (upd (upd (upd (fun _ => 0) 0 x1.toInt8.toInt32) 1 x2.toInt8.toInt32) 2 x3.toInt8.toInt32) 3 x4.toInt8.toInt32) 4 x7.toInt8.toInt32) 5 x8.toInt8.toInt32) 6 x9.toInt8.toInt32) 7 x10.toInt8.toInt32) 8 x13.toInt8.toInt32)))) 1 (.inr (10, [.ref (b + 2), .int 9]))) 2 (.inl (kc 0, 2000, .inl (upd (upd (upd (upd (upd (upd (upd (upd (upd (upd (fun _ => 0) 0 x1.toInt8.toInt32) 1 x2.toInt8.toInt32) 2 x3.toInt8.toInt32) 3 x4.toInt8.toInt32) 4 x7.toInt8.toInt32) 5 x8.toInt8.toInt32) 6 x9.toInt8.toInt32) 7 x10.toInt8.toInt32) 8 x13.toInt8.toInt32) 9 x14.toInt8.toInt32)))) 1 (.inr (10, [.ref (b + 2), .int 10]))) 2 (.inl (kc 0, 2000, .inl (upd (upd (upd (upd (upd (upd (upd (upd (upd (upd (upd (fun _ => 0) 0 x1.toInt8.toInt32) 1 x2.toInt8.toInt32) 2 x3.toInt8.toInt32) 3 x4.toInt8.toInt32) 4 x7.toInt8.toInt32) 5 x8.toInt8.toInt32) 6 x9.toInt8.toInt32) 7 x10.toInt8.toInt32) 8 x13.toInt8.toInt32) 9 x14.toInt8.toInt32) 10 x15.toInt8.toInt32)))) 1 (.inr (10, [.ref (b + 2), .int 11]))) 2 (.inl (kc 0, 2000, .inl (upd (upd (upd (upd (upd (upd (upd (upd (upd (upd (upd (upd (fun _ => 0) 0 x1.toInt8.toInt32) 1 x2.toInt8.toInt32) 2 x3.toInt8.toInt32) 3 x4.toInt8.toInt32) 4 x7.toInt8.toInt32) 5 x8.toInt8.toInt32) 6 x9.toInt8.toInt32) 7 x10.toInt8.toInt32) 8 x13.toInt8.toInt32) 9 x14.toInt8.toInt32) 10 x15.toInt8.toInt32) 11 x16.toInt8.toInt32)))) 1 (.inr (10, [.ref (b + 2), .int 12])) := hp
  obtain ⟨x13, x14, x15, x16, rfl, ef3⟩ := hp
  refine lv_aload_n hx hb dX11_feed_43 rfl (lv_at hl 0 rfl) ?_
  have h0_3 : f3 0 = .inr (11, [.ref (b + 1), .ref (b + 3), .ref (b + 4), .ref (b + 6), .ref (b + 8), .ref (b + 10), .ref (b + 174), .ref (b + 177), .ref (b + 178), .ref (b + 181), .ref (b + 183), .ref (b + 190)]) := m_ne ef3 (m_ne rfl (m_ne rfl (m_ne rfl (m_ne rfl (m_ne rfl (m_ne rfl (m_ne rfl h0_2 (by decide)) (by decide)) (by decide)) (by decide)) (by decide)) (by decide)) (by decide)) (by decide)
  refine m_get fl_X11_12_X11 C hM (i := 0) (by decide) h0_3 (v := .ref (b + 1)) rfl dX11_feed_44 ?_
  refine lv_iload hx hb dX11_feed_47 (lv_at hl 4 rfl) ?_
  have h1_3 : f3 1 = .inr (10, [.ref (b + 2), .int 12]) := m_eq ef3
  have h2_3 : f3 2 = .inl (kc 0, 2000, .inl (upd (upd (upd (upd (upd (upd (upd (upd (upd (upd (upd (upd (fun _ => 0) 0 x1.toInt8.toInt32) 1 x2.toInt8.toInt32) 2 x3.toInt8.toInt32) 3 x4.toInt8.toInt32) 4 x7.toInt8.toInt32) 5 x8.toInt8.toInt32) 6 x9.toInt8.toInt32) 7 x10.toInt8.toInt32) 8 x13.toInt8.toInt32) 9 x14.toInt8.toInt32) 10 x15.toInt8.toInt32) 11 x16.toInt8.toInt32)) := m_ne ef3 (m_eq rfl) (by decide)
  refine m_gov (m_runV calV_X10_addFour wd_441 (a_X10_addFour_3 l D kc b f3 a3 (upd (upd (upd (upd (upd (upd (upd (upd (upd (upd (upd (upd (fun _ => 0) 0 x1.toInt8.toInt32) 1 x2.toInt8.toInt32) 2 x3.toInt8.toInt32) 3 x4.toInt8.toInt32) 4 x7.toInt8.toInt32) 5 x8.toInt8.toInt32) 6 x9.toInt8.toInt32) 7 x10.toInt8.toInt32) 8 x13.toInt8.toInt32) 9 x14.toInt8.toInt32) 10 x15.toInt8.toInt32) 11 x16.toInt8.toInt32) h1_3 h2_3) C hM (by decide) h1_3 rfl hl.1 rfl rfl (Nat.le_of_ble_eq_true rfl) dX11_feed_49 ⟨Nat.le_of_ble_eq_true rfl, Nat.le_of_ble_eq_true rfl⟩ ⟨Nat.le_of_ble_eq_true rfl, Nat.le_of_ble_eq_true rfl⟩) hM (fun n24 f4 H locs hp hM => ?_)
  have hp : ∃ (x19 : Int32) (x20 : Int32) (x21 : Int32) (x22 : Int32), n24 = 220 ∧ f4 = va_up (va_up (va_up (va_up (va_up (va_up (va_up (va_up f3 2 (.inl (kc 0, 2000, .inl (upd (upd (upd (upd (upd (upd (upd (upd (upd (upd (upd (upd (upd (fun _ => 0) 0 x1.toInt8.toInt32) 1 x2.toInt8.toInt32) 2 x3.toInt8.toInt32) 3 x4.toInt8.toInt32) 4 x7.toInt8.toInt32) 5 x8.toInt8.toInt32) 6 x9.toInt8.toInt32) 7 x10.toInt8.toInt32) 8 x13.toInt8.toInt32) 9 x14.toInt8.toInt32) 10 x15.toInt8.toInt32) 11 x16.toInt8.toInt32) 12 x19.toInt8.toInt32)))) 1 (.inr (10, [.ref (b + 2), .int 13]))) 2 (.inl (kc 0, 2000, .inl (upd (upd (upd (upd (upd (upd (upd (upd (upd (upd (upd (upd (upd (upd (fun _ => 0) 0 x1.toInt8.toInt32) 1 x2.toInt8.toInt32) 2 x3.toInt8.toInt32) 3 x4.toInt8.toInt32) 4 x7.toInt8.toInt32) 5 x8.toInt8.toInt32) 6 x9.toInt8.toInt32) 7 x10.toInt8.toInt32) 8 x13.toInt8.toInt32) 9 x14.toInt8.toInt32) 10 x15.toInt8.toInt32) 11 x16.toInt8.toInt32) 12 x19.toInt8.toInt32) 13 x20.toInt8.toInt32)))) 1 (.inr (10, [.ref (b + 2), .int 14]))) 2 (.inl (kc 0, 2000, .inl (upd (upd (upd (upd (upd (upd (upd (upd (upd (upd (upd (upd (upd (upd (upd (fun _ => 0) 0 x1.toInt8.toInt32) 1 x2.toInt8.toInt32) 2 x3.toInt8.toInt32) 3 x4.toInt8.toInt32) 4 x7.toInt8.toInt32) 5 x8.toInt8.toInt32) 6 x9.toInt8.toInt32) 7 x10.toInt8.toInt32) 8 x13.toInt8.toInt32) 9 x14.toInt8.toInt32) 10 x15.toInt8.toInt32) 11 x16.toInt8.toInt32) 12 x19.toInt8.toInt32) 13 x20.toInt8.toInt32) 14 x21.toInt8.toInt32)))) 1 (.inr (10, [.ref (b + 2), .int 15]))) 2 (.inl (kc 0, 2000, .inl (upd (upd (upd (upd (upd (upd (upd (upd (upd (upd (upd (upd (upd (upd (upd (upd (fun _ => 0) 0 x1.toInt8.toInt32) 1 x2.toInt8.toInt32) 2 x3.toInt8.toInt32) 3 x4.toInt8.toInt32) 4 x7.toInt8.toInt32) 5 x8.toInt8.toInt32) 6 x9.toInt8.toInt32) 7 x10.toInt8.toInt32) 8 x13.toInt8.toInt32) 9 x14.toInt8.toInt32) 10 x15.toInt8.toInt32) 11 x16.toInt8.toInt32) 12 x19.toInt8.toInt32) 13 x20.toInt8.toInt32) 14 x21.toInt8.toInt32) 15 x22.toInt8.toInt32)))) 1 (.inr (10, [.ref (b + 2), .int 16])) := hp
  obtain ⟨x19, x20, x21, x22, rfl, ef4⟩ := hp
  refine lv_aload_n hx hb dX11_feed_52 rfl (lv_at hl 0 rfl) ?_
  have h0_4 : f4 0 = .inr (11, [.ref (b + 1), .ref (b + 3), .ref (b + 4), .ref (b + 6), .ref (b + 8), .ref (b + 10), .ref (b + 174), .ref (b + 177), .ref (b + 178), .ref (b + 181), .ref (b + 183), .ref (b + 190)]) := m_ne ef4 (m_ne rfl (m_ne rfl (m_ne rfl (m_ne rfl (m_ne rfl (m_ne rfl (m_ne rfl h0_3 (by decide)) (by decide)) (by decide)) (by decide)) (by decide)) (by decide)) (by decide)) (by decide)
  refine m_get fl_X11_12_X11 C hM (i := 0) (by decide) h0_4 (v := .ref (b + 1)) rfl dX11_feed_53 ?_
  refine lv_iload hx hb dX11_feed_56 (lv_at hl 5 rfl) ?_
  have h1_4 : f4 1 = .inr (10, [.ref (b + 2), .int 16]) := m_eq ef4
  have h2_4 : f4 2 = .inl (kc 0, 2000, .inl (upd (upd (upd (upd (upd (upd (upd (upd (upd (upd (upd (upd (upd (upd (upd (upd (fun _ => 0) 0 x1.toInt8.toInt32) 1 x2.toInt8.toInt32) 2 x3.toInt8.toInt32) 3 x4.toInt8.toInt32) 4 x7.toInt8.toInt32) 5 x8.toInt8.toInt32) 6 x9.toInt8.toInt32) 7 x10.toInt8.toInt32) 8 x13.toInt8.toInt32) 9 x14.toInt8.toInt32) 10 x15.toInt8.toInt32) 11 x16.toInt8.toInt32) 12 x19.toInt8.toInt32) 13 x20.toInt8.toInt32) 14 x21.toInt8.toInt32) 15 x22.toInt8.toInt32)) := m_ne ef4 (m_eq rfl) (by decide)
  refine m_gov (m_runV calV_X10_addFour wd_441 (a_X10_addFour_4 l D kc b f4 a4 (upd (upd (upd (upd (upd (upd (upd (upd (upd (upd (upd (upd (upd (upd (upd (upd (fun _ => 0) 0 x1.toInt8.toInt32) 1 x2.toInt8.toInt32) 2 x3.toInt8.toInt32) 3 x4.toInt8.toInt32) 4 x7.toInt8.toInt32) 5 x8.toInt8.toInt32) 6 x9.toInt8.toInt32) 7 x10.toInt8.toInt32) 8 x13.toInt8.toInt32) 9 x14.toInt8.toInt32) 10 x15.toInt8.toInt32) 11 x16.toInt8.toInt32) 12 x19.toInt8.toInt32) 13 x20.toInt8.toInt32) 14 x21.toInt8.toInt32) 15 x22.toInt8.toInt32) h1_4 h2_4) C hM (by decide) h1_4 rfl hl.1 rfl rfl (Nat.le_of_ble_eq_true rfl) dX11_feed_58 ⟨Nat.le_of_ble_eq_true rfl, Nat.le_of_ble_eq_true rfl⟩ ⟨Nat.le_of_ble_eq_true rfl, Nat.le_of_ble_eq_true rfl⟩) hM (fun n30 f5 H locs hp hM => ?_)
  have hp : ∃ (x25 : Int32) (x26 : Int32) (x27 : Int32) (x28 : Int32), n30 = 220 ∧ f5 = va_up (va_up (va_up (va_up (va_up (va_up (va_up (va_up f4 2 (.inl (kc 0, 2000, .inl (upd (upd (upd (upd (upd (upd (upd (upd (upd (upd (upd (upd (upd (upd (upd (upd (upd (fun _ => 0) 0 x1.toInt8.toInt32) 1 x2.toInt8.toInt32) 2 x3.toInt8.toInt32) 3 x4.toInt8.toInt32) 4 x7.toInt8.toInt32) 5 x8.toInt8.toInt32) 6 x9.toInt8.toInt32) 7 x10.toInt8.toInt32) 8 x13.toInt8.toInt32) 9 x14.toInt8.toInt32) 10 x15.toInt8.toInt32) 11 x16.toInt8.toInt32) 12 x19.toInt8.toInt32) 13 x20.toInt8.toInt32) 14 x21.toInt8.toInt32) 15 x22.toInt8.toInt32) 16 x25.toInt8.toInt32)))) 1 (.inr (10, [.ref (b + 2), .int 17]))) 2 (.inl (kc 0, 2000, .inl (upd (upd (upd (upd (upd (upd (upd (upd (upd (upd (upd (upd (upd (upd (upd (upd (upd (upd (fun _ => 0) 0 x1.toInt8.toInt32) 1 x2.toInt8.toInt32) 2 x3.toInt8.toInt32) 3 x4.toInt8.toInt32) 4 x7.toInt8.toInt32) 5 x8.toInt8.toInt32) 6 x9.toInt8.toInt32) 7 x10.toInt8.toInt32) 8 x13.toInt8.toInt32) 9 x14.toInt8.toInt32) 10 x15.toInt8.toInt32) 11 x16.toInt8.toInt32) 12 x19.toInt8.toInt32) 13 x20.toInt8.toInt32) 14 x21.toInt8.toInt32) 15 x22.toInt8.toInt32) 16 x25.toInt8.toInt32) 17 x26.toInt8.toInt32)))) 1 (.inr (10, [.ref (b + 2), .int 18]))) 2 (.inl (kc 0, 2000, .inl (upd (upd (upd (upd (upd (upd (upd (upd (upd (upd (upd (upd (upd (upd (upd (upd (upd (upd (upd (fun _ => 0) 0 x1.toInt8.toInt32) 1 x2.toInt8.toInt32) 2 x3.toInt8.toInt32) 3 x4.toInt8.toInt32) 4 x7.toInt8.toInt32) 5 x8.toInt8.toInt32) 6 x9.toInt8.toInt32) 7 x10.toInt8.toInt32) 8 x13.toInt8.toInt32) 9 x14.toInt8.toInt32) 10 x15.toInt8.toInt32) 11 x16.toInt8.toInt32) 12 x19.toInt8.toInt32) 13 x20.toInt8.toInt32) 14 x21.toInt8.toInt32) 15 x22.toInt8.toInt32) 16 x25.toInt8.toInt32) 17 x26.toInt8.toInt32) 18 x27.toInt8.toInt32)))) 1 (.inr (10, [.ref (b + 2), .int 19]))) 2 (.inl (kc 0, 2000, .inl (upd (upd (upd (upd (upd (upd (upd (upd (upd (upd (upd (upd (upd (upd (upd (upd (upd (upd (upd (upd (fun _ => 0) 0 x1.toInt8.toInt32) 1 x2.toInt8.toInt32) 2 x3.toInt8.toInt32) 3 x4.toInt8.toInt32) 4 x7.toInt8.toInt32) 5 x8.toInt8.toInt32) 6 x9.toInt8.toInt32) 7 x10.toInt8.toInt32) 8 x13.toInt8.toInt32) 9 x14.toInt8.toInt32) 10 x15.toInt8.toInt32) 11 x16.toInt8.toInt32) 12 x19.toInt8.toInt32) 13 x20.toInt8.toInt32) 14 x21.toInt8.toInt32) 15 x22.toInt8.toInt32) 16 x25.toInt8.toInt32) 17 x26.toInt8.toInt32) 18 x27.toInt8.toInt32) 19 x28.toInt8.toInt32)))) 1 (.inr (10, [.ref (b + 2), .int 20])) := hp
  obtain ⟨x25, x26, x27, x28, rfl, ef5⟩ := hp
  refine lv_aload_n hx hb dX11_feed_61 rfl (lv_at hl 0 rfl) ?_
  have h0_5 : f5 0 = .inr (11, [.ref (b + 1), .ref (b + 3), .ref (b + 4), .ref (b + 6), .ref (b + 8), .ref (b + 10), .ref (b + 174), .ref (b + 177), .ref (b + 178), .ref (b + 181), .ref (b + 183), .ref (b + 190)]) := m_ne ef5 (m_ne rfl (m_ne rfl (m_ne rfl (m_ne rfl (m_ne rfl (m_ne rfl (m_ne rfl h0_4 (by decide)) (by decide)) (by decide)) (by decide)) (by decide)) (by decide)) (by decide)) (by decide)
  refine m_get fl_X11_12_X11 C hM (i := 0) (by decide) h0_5 (v := .ref (b + 1)) rfl dX11_feed_62 ?_
  have h1_5 : f5 1 = .inr (10, [.ref (b + 2), .int 20]) := m_eq ef5
  refine m_getN fl_X11_87_X10 C hM (i := 1) (by decide) h1_5 (v := .int 20) rfl dX11_feed_65 ?_
  have fr_1 : ∀ j, 192 ≤ j → f1 j = f j := fun j hj => m_ne ef1 (m_ne rfl (m_ne rfl (m_ne rfl (m_ne rfl (m_ne rfl (m_ne rfl (m_ne rfl (rfl) (by omega)) (by omega)) (by omega)) (by omega)) (by omega)) (by omega)) (by omega)) (by omega)
  have fr_2 : ∀ j, 192 ≤ j → f2 j = f j := fun j hj => m_ne ef2 (m_ne rfl (m_ne rfl (m_ne rfl (m_ne rfl (m_ne rfl (m_ne rfl (m_ne rfl (fr_1 j hj) (by omega)) (by omega)) (by omega)) (by omega)) (by omega)) (by omega)) (by omega)) (by omega)
  have fr_3 : ∀ j, 192 ≤ j → f3 j = f j := fun j hj => m_ne ef3 (m_ne rfl (m_ne rfl (m_ne rfl (m_ne rfl (m_ne rfl (m_ne rfl (m_ne rfl (fr_2 j hj) (by omega)) (by omega)) (by omega)) (by omega)) (by omega)) (by omega)) (by omega)) (by omega)
  have fr_4 : ∀ j, 192 ≤ j → f4 j = f j := fun j hj => m_ne ef4 (m_ne rfl (m_ne rfl (m_ne rfl (m_ne rfl (m_ne rfl (m_ne rfl (m_ne rfl (fr_3 j hj) (by omega)) (by omega)) (by omega)) (by omega)) (by omega)) (by omega)) (by omega)) (by omega)
  have fr_5 : ∀ j, 192 ≤ j → f5 j = f j := fun j hj => m_ne ef5 (m_ne rfl (m_ne rfl (m_ne rfl (m_ne rfl (m_ne rfl (m_ne rfl (m_ne rfl (fr_4 j hj) (by omega)) (by omega)) (by omega)) (by omega)) (by omega)) (by omega)) (by omega)) (by omega)
  exact m_iret C hr hlk hM (⟨rfl, rfl, fr_5⟩) dX11_feed_68
set_option maxHeartbeats 4000000 in
set_option maxRecDepth 100000 in
theorem k_x_end (l : Launch) (D : va_G) (kc : Nat → ClassId) (b : Nat) (f : Nat → va_E) (a0 : Int32) (h0 : f 0 = .inr (11, [.ref (b + 1), .ref (b + 3), .ref (b + 4), .ref (b + 6), .ref (b + 8), .ref (b + 10), .ref (b + 174), .ref (b + 177), .ref (b + 178), .ref (b + 181), .ref (b + 183), .ref (b + 190)])) (h1 : f 1 = .inr (10, [.ref (b + 2), .int 0])) : mMi l yX11_end cX11_end 2 .int 1 0 0 D kc b 220 f [.ref (b + 0), .int a0] (fun r u => r = p_end a0 ∧ u.1 = 220 ∧ ∀ j, 192 ≤ j → u.2 j = f j) := by
  refine m_start (by decide) (Nat.le_of_ble_eq_true rfl) ?_
  intro p e s m below meth c C hr hlk hnm hM ls hl
  obtain ⟨hx, hb, hml, hown, hts, hE, hbs⟩ := id C
  have hl : lv_has ls 2 [(0, .ref (b + 0)), (1, .int a0)] := hl
  refine lv_iload_n hx hb dX11_end_0 rfl (lv_at hl 1 rfl) ?_
  refine lv_if_lt (tgt := 15) hx hb dX11_end_1 (by decide) (fun c1 => ?_) (fun c1 => ?_)
  · refine lv_iconst (v := (-1)) hx hb dX11_end_15 (by decide) ?_
    exact m_iret C hr hlk hM (⟨by unfold p_end; rw [if_neg (by revert c1; simp only [Int32.lt_iff_toInt_lt, Int32.le_iff_toInt_le, m_lits]; omega)], rfl, fun _ _ => rfl⟩) dX11_end_16
  · refine lv_iload_n hx hb dX11_end_4 rfl (lv_at hl 1 rfl) ?_
    refine lv_aload_n hx hb dX11_end_5 rfl (lv_at hl 0 rfl) ?_
    refine m_get fl_X11_12_X11 C hM (i := 0) (by decide) h0 (v := .ref (b + 1)) rfl dX11_end_6 ?_
    refine m_getN fl_X11_87_X10 C hM (i := 1) (by decide) h1 (v := .int 0) rfl dX11_end_9 ?_
    refine lv_icmp_le (tgt := 17) hx hb dX11_end_12 (by decide) (fun c2 => ?_) (fun c2 => ?_)
    · refine lv_aload_n hx hb dX11_end_17 rfl (lv_at hl 0 rfl) ?_
      refine m_get fl_X11_12_X11 C hM (i := 0) (by decide) h0 (v := .ref (b + 1)) rfl dX11_end_18 ?_
      refine lv_iload_n hx hb dX11_end_21 rfl (lv_at hl 1 rfl) ?_
      refine m_putN fl_X11_87_X10 C hM (i := 1) (by decide) h1 rfl rfl (Nat.le_of_ble_eq_true rfl) (fs1 := [.ref (b + 2), .int a0]) rfl dX11_end_22 (fun H locs f1 ef1 hM => ?_)
      refine lv_iload_n hx hb dX11_end_25 rfl (lv_at hl 1 rfl) ?_
      have fr_1 : ∀ j, 192 ≤ j → f1 j = f j := fun j hj => m_ne ef1 (rfl) (by omega)
      exact m_iret C hr hlk hM (⟨by unfold p_end; rw [if_pos (by revert c1 c2; simp only [Int32.lt_iff_toInt_lt, Int32.le_iff_toInt_le, m_lits]; omega)], rfl, fr_1⟩) dX11_end_26
    · refine lv_iconst (v := (-1)) hx hb dX11_end_15 (by decide) ?_
      exact m_iret C hr hlk hM (⟨by unfold p_end; rw [if_neg (by revert c1 c2; simp only [Int32.lt_iff_toInt_lt, Int32.le_iff_toInt_le, m_lits]; omega)], rfl, fun _ _ => rfl⟩) dX11_end_16
