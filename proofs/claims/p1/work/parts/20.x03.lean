set_option maxHeartbeats 4000000 in
set_option maxRecDepth 100000 in
theorem a_X2_listChanges_0 (l : Launch) (D : va_G) (kc : Nat → ClassId) (b : Nat) (f : Nat → va_E) (h183 : f 183 = .inr (2, [.ref (b + 184), .ref (b + 186), .ref (b + 187), .ref (b + 188), .ref (b + 189), .int 2, .int 3, .int 1, .int 0, .int 0, .int 0, .int 0])) (h184 : f 184 = .inr (8, [.ref (b + 185), .int 0])) (h6 : f 6 = .inr (8, [.ref (b + 7), .int 0])) : mMv l yX2_listChanges cX2_listChanges 9 1 0 0 D kc b 220 f [.ref (b + 183), .ref (b + 6), .ref (b + 181)] (fun u => u.1 = 220 ∧ u.2 = va_up f 183 (.inr (2, [.ref (b + 184), .ref (b + 186), .ref (b + 187), .ref (b + 188), .ref (b + 189), .int 2, .int 3, .int 1, .int 0, .int 0, .int 0, .int 0]))) := by
  refine m_start (by decide) (Nat.le_of_ble_eq_true rfl) ?_
  intro p e s m below meth c C hr hlk hnm hM ls hl
  obtain ⟨hx, hb, hml, hown, hts, hE, hbs⟩ := id C
  have hl : lv_has ls 9 [(0, .ref (b + 183)), (1, .ref (b + 6)), (2, .ref (b + 181))] := hl
  refine lv_aload_n hx hb dX2_listChanges_0 rfl (lv_at hl 0 rfl) ?_
  refine lv_iconst (v := 0) hx hb dX2_listChanges_1 (by decide) ?_
  refine m_put fl_X2_101_X2 C hM (i := 183) (by decide) h183 rfl rfl (Nat.le_of_ble_eq_true rfl) (fs1 := [.ref (b + 184), .ref (b + 186), .ref (b + 187), .ref (b + 188), .ref (b + 189), .int 2, .int 3, .int 1, .int 0, .int 0, .int 0, .int 0]) rfl dX2_listChanges_2 (fun H locs f1 ef1 hM => ?_)
  refine lv_iconst (v := 0) hx hb dX2_listChanges_5 (by decide) ?_
  refine lv_istore_n (lv' := [(3, .int 0), (0, .ref (b + 183)), (1, .ref (b + 6)), (2, .ref (b + 181))]) hx hb dX2_listChanges_6 rfl hl (by decide) rfl (fun ls hl => ?_)
  refine lv_iconst (v := 0) hx hb dX2_listChanges_7 (by decide) ?_
  refine lv_istore (lv' := [(4, .int 0), (3, .int 0), (0, .ref (b + 183)), (1, .ref (b + 6)), (2, .ref (b + 181))]) hx hb dX2_listChanges_8 hl (by decide) rfl (fun ls hl => ?_)
  refine lv_aload_n hx hb dX2_listChanges_10 rfl (lv_at hl 2 rfl) ?_
  have h183_1 : f1 183 = .inr (2, [.ref (b + 184), .ref (b + 186), .ref (b + 187), .ref (b + 188), .ref (b + 189), .int 2, .int 3, .int 1, .int 0, .int 0, .int 0, .int 0]) := m_eq ef1
  refine m_get fl_X2_80_X2 C hM (i := 183) (by decide) h183_1 (v := .int 0) rfl dX2_listChanges_11 ?_
  refine lv_istore (lv' := [(5, .int 0), (4, .int 0), (3, .int 0), (0, .ref (b + 183)), (1, .ref (b + 6)), (2, .ref (b + 181))]) hx hb dX2_listChanges_14 hl (by decide) rfl (fun ls hl => ?_)
  refine lv_aload_n hx hb dX2_listChanges_16 rfl (lv_at hl 3 rfl) ?_
  refine m_get fl_X2_14_X2 C hM (i := 183) (by decide) h183_1 (v := .ref (b + 184)) rfl dX2_listChanges_17 ?_
  have h184_1 : f1 184 = .inr (8, [.ref (b + 185), .int 0]) := m_ne ef1 h184 (by decide)
  refine m_getN fl_X2_104_X8 C hM (i := 184) (by decide) h184_1 (v := .int 0) rfl dX2_listChanges_20 ?_
  refine lv_aload_n hx hb dX2_listChanges_23 rfl (lv_at hl 4 rfl) ?_
  have h6_1 : f1 6 = .inr (8, [.ref (b + 7), .int 0]) := m_ne ef1 h6 (by decide)
  refine m_getN fl_X2_104_X8 C hM (i := 6) (by decide) h6_1 (v := .int 0) rfl dX2_listChanges_24 ?_
  refine lv_iadd hx hb dX2_listChanges_27 ?_
  refine m_vi (y := 0) (by decide) ?_
  refine lv_istore (lv' := [(6, .int 0), (5, .int 0), (4, .int 0), (3, .int 0), (0, .ref (b + 183)), (1, .ref (b + 6)), (2, .ref (b + 181))]) hx hb dX2_listChanges_28 hl (by decide) rfl (fun ls hl => ?_)
  refine lv_iconst (v := 0) hx hb dX2_listChanges_30 (by decide) ?_
  refine lv_istore (lv' := [(7, .int 0), (6, .int 0), (5, .int 0), (4, .int 0), (3, .int 0), (0, .ref (b + 183)), (1, .ref (b + 6)), (2, .ref (b + 181))]) hx hb dX2_listChanges_31 hl (by decide) rfl (fun ls hl => ?_)
  refine lv_iload hx hb dX2_listChanges_33 (lv_at hl 0 rfl) ?_
  refine lv_iload hx hb dX2_listChanges_35 (lv_at hl 1 rfl) ?_
  refine lv_icmp_ge (tgt := 230) hx hb dX2_listChanges_37 (by decide) (fun _ => ?_) (fun h => absurd (by decide) h)
  exact m_vret C hr hlk hM (⟨rfl, by rw [ef1]⟩) dX2_listChanges_230
set_option maxHeartbeats 4000000 in
set_option maxRecDepth 100000 in
theorem a_X2_weigh_0 (l : Launch) (D : va_G) (kc : Nat → ClassId) (b : Nat) (f : Nat → va_E) (h10 : f 10 = .inr (5, [.ref (b + 11), .ref (b + 12), .ref (b + 13), .int 0, .int 0, .int 0])) (h183 : f 183 = .inr (2, [.ref (b + 184), .ref (b + 186), .ref (b + 187), .ref (b + 188), .ref (b + 189), .int 2, .int 3, .int 0, .int 0, .int 0, .int 0, .int 0])) (h178 : f 178 = .inr (7, [.ref (b + 179), .ref (b + 180), .int 0, .null, .null])) (h184 : f 184 = .inr (8, [.ref (b + 185), .int 0])) (h4 : f 4 = .inr (8, [.ref (b + 5), .int 0])) (h6 : f 6 = .inr (8, [.ref (b + 7), .int 0])) (h181 : f 181 = .inr (6, [.ref (b + 182)])) (h182 : f 182 = .inl (kc 1, 301, .inl (fun _ => 0))) : mMi l yX2_weigh cX2_weigh 14 .int 3 0 0 D kc b 220 f [.ref (b + 183), .ref (b + 10), .ref (b + 4), .ref (b + 6), .ref (b + 178), .ref (b + 181)] (fun r u => r = 0 ∧ u.1 = 220 ∧ u.2 = va_up (va_up (va_up (va_up (va_up (va_up (va_up (va_up (va_up (va_up (va_up (va_up (va_up (va_up f 178 (.inr (7, [.ref (b + 179), .ref (b + 180), .int 0, .null, .null]))) 178 (.inr (7, [.ref (b + 179), .ref (b + 180), .int 0, .ref (b + 4), .null]))) 178 (.inr (7, [.ref (b + 179), .ref (b + 180), .int 0, .ref (b + 4), .ref (b + 184)]))) 184 (.inr (8, [.ref (b + 185), .int 0]))) 182 (.inl (kc 1, 301, .inl (upd (fun _ => 0) 0 0)))) 183 (.inr (2, [.ref (b + 184), .ref (b + 186), .ref (b + 187), .ref (b + 188), .ref (b + 189), .int 2, .int 3, .int 0, .int 0, .int 0, .int 0, .int 0]))) 183 (.inr (2, [.ref (b + 184), .ref (b + 186), .ref (b + 187), .ref (b + 188), .ref (b + 189), .int 2, .int 3, .int 0, .int 0, .int 0, .int 0, .int 0]))) 183 (.inr (2, [.ref (b + 184), .ref (b + 186), .ref (b + 187), .ref (b + 188), .ref (b + 189), .int 2, .int 3, .int 1, .int 0, .int 0, .int 0, .int 0]))) 183 (.inr (2, [.ref (b + 184), .ref (b + 186), .ref (b + 187), .ref (b + 188), .ref (b + 189), .int 2, .int 3, .int 1, .int 0, .int 0, .int 0, .int 0]))) 178 (.inr (7, [.ref (b + 179), .ref (b + 180), .int 0, .ref (b + 4), .ref (b + 184)]))) 178 (.inr (7, [.ref (b + 179), .ref (b + 180), .int 0, .ref (b + 4), .ref (b + 184)]))) 178 (.inr (7, [.ref (b + 179), .ref (b + 180), .int 0, .ref (b + 4), .ref (b + 184)]))) 184 (.inr (8, [.ref (b + 185), .int 0]))) 183 (.inr (2, [.ref (b + 184), .ref (b + 186), .ref (b + 187), .ref (b + 188), .ref (b + 189), .int 2, .int 3, .int 1, .int 0, .int 0, .int 0, .int 0]))) := by
  refine m_start (by decide) (Nat.le_of_ble_eq_true rfl) ?_
  intro p e s m below meth c C hr hlk hnm hM ls hl
  obtain ⟨hx, hb, hml, hown, hts, hE, hbs⟩ := id C
  have hl : lv_has ls 14 [(0, .ref (b + 183)), (1, .ref (b + 10)), (2, .ref (b + 4)), (3, .ref (b + 6)), (4, .ref (b + 178)), (5, .ref (b + 181))] := hl
  refine lv_ldc (v := 100000) hx hb hown (hts _ wd_903) dX2_weigh_0 ?_
  refine lv_istore (lv' := [(6, .int 100000), (0, .ref (b + 183)), (1, .ref (b + 10)), (2, .ref (b + 4)), (3, .ref (b + 6)), (4, .ref (b + 178)), (5, .ref (b + 181))]) hx hb dX2_weigh_2 hl (by decide) rfl (fun ls hl => ?_)
  refine lv_iconst (v := 0) hx hb dX2_weigh_4 (by decide) ?_
  refine lv_istore (lv' := [(7, .int 0), (6, .int 100000), (0, .ref (b + 183)), (1, .ref (b + 10)), (2, .ref (b + 4)), (3, .ref (b + 6)), (4, .ref (b + 178)), (5, .ref (b + 181))]) hx hb dX2_weigh_5 hl (by decide) rfl (fun ls hl => ?_)
  refine lv_iconst (v := 1) hx hb dX2_weigh_7 (by decide) ?_
  refine lv_aload_n hx hb dX2_weigh_8 rfl (lv_at hl 3 rfl) ?_
  refine m_getN fl_X2_41_X5 C hM (i := 10) (by decide) h10 (v := .int 0) rfl dX2_weigh_9 ?_
  refine lv_bipush (v := 8) hx hb dX2_weigh_12 (by decide) ?_
  refine va_mmin hx hb (hml.trans hl.1.symm) hown (hts _ wd_904) (hts _ wd_522) (hts _ wd_91) (hts _ wd_523) (Nat.le_of_ble_eq_true rfl) (Nat.le_of_ble_eq_true rfl) (Nat.le_of_ble_eq_true rfl) (Nat.le_of_ble_eq_true rfl) dX2_weigh_14 ?_
  refine m_vi (y := 0) (by decide) ?_
  refine lv_ishl hx hb dX2_weigh_17 ?_
  refine m_vi (y := 1) (by decide) ?_
  refine lv_istore (lv' := [(8, .int 1), (7, .int 0), (6, .int 100000), (0, .ref (b + 183)), (1, .ref (b + 10)), (2, .ref (b + 4)), (3, .ref (b + 6)), (4, .ref (b + 178)), (5, .ref (b + 181))]) hx hb dX2_weigh_18 hl (by decide) rfl (fun ls hl => ?_)
  refine lv_iconst (v := 0) hx hb dX2_weigh_20 (by decide) ?_
  refine lv_istore (lv' := [(9, .int 0), (8, .int 1), (7, .int 0), (6, .int 100000), (0, .ref (b + 183)), (1, .ref (b + 10)), (2, .ref (b + 4)), (3, .ref (b + 6)), (4, .ref (b + 178)), (5, .ref (b + 181))]) hx hb dX2_weigh_21 hl (by decide) rfl (fun ls hl => ?_)
  refine lv_iload hx hb dX2_weigh_23 (lv_at hl 0 rfl) ?_
  refine lv_iload hx hb dX2_weigh_25 (lv_at hl 1 rfl) ?_
  refine lv_icmp_ge (tgt := 166) hx hb dX2_weigh_27 (by decide) (fun h => absurd h (by decide)) (fun _ => ?_)
  refine lv_iload hx hb dX2_weigh_30 (lv_at hl 0 rfl) ?_
  refine m_goi (m_runS calS_J6_bitCount_0f7a4 wd_905 (a_J6_bitCount_0f7a4_0 l D kc b f) C hM hl.1 rfl rfl (Nat.le_of_ble_eq_true rfl) dX2_weigh_32 ⟨Nat.le_of_ble_eq_true rfl, Nat.le_of_ble_eq_true rfl⟩ ⟨Nat.le_of_ble_eq_true rfl, Nat.le_of_ble_eq_true rfl⟩) hM (fun r1 n2 f1 H locs hp hM => ?_)
  have hp : r1 = 0 ∧ n2 = 220 ∧ f1 = f := hp
  obtain ⟨rfl, rfl, ef1⟩ := hp
  refine lv_istore (lv' := [(10, .int 0), (9, .int 0), (8, .int 1), (7, .int 0), (6, .int 100000), (0, .ref (b + 183)), (1, .ref (b + 10)), (2, .ref (b + 4)), (3, .ref (b + 6)), (4, .ref (b + 178)), (5, .ref (b + 181))]) hx hb dX2_weigh_35 hl (by decide) rfl (fun ls hl => ?_)
  refine lv_aload_n hx hb dX2_weigh_37 rfl (lv_at hl 5 rfl) ?_
  refine lv_iload hx hb dX2_weigh_38 (lv_at hl 4 rfl) ?_
  refine lv_iload hx hb dX2_weigh_40 (lv_at hl 0 rfl) ?_
  refine lv_aload_n hx hb dX2_weigh_42 rfl (lv_at hl 5 rfl) ?_
  have h183_1 : f1 183 = .inr (2, [.ref (b + 184), .ref (b + 186), .ref (b + 187), .ref (b + 188), .ref (b + 189), .int 2, .int 3, .int 0, .int 0, .int 0, .int 0, .int 0]) := m_sm ef1 h183
  refine m_get fl_X2_37_X2 C hM (i := 183) (by decide) h183_1 (v := .int 3) rfl dX2_weigh_43 ?_
  refine lv_imul hx hb dX2_weigh_46 ?_
  refine m_vi (y := 0) (by decide) ?_
  refine lv_isub hx hb dX2_weigh_47 ?_
  refine m_vi (y := 100000) (by decide) ?_
  refine m_goi (m_runV calV_X2_distanceFor wd_911 (a_X2_distanceFor_0 l D kc b f1 h183_1) C hM (by decide) h183_1 rfl hl.1 rfl rfl (Nat.le_of_ble_eq_true rfl) dX2_weigh_48 ⟨Nat.le_of_ble_eq_true rfl, Nat.le_of_ble_eq_true rfl⟩ ⟨Nat.le_of_ble_eq_true rfl, Nat.le_of_ble_eq_true rfl⟩) hM (fun r3 n4 f2 H locs hp hM => ?_)
  have hp : r3 = 300 ∧ n4 = 220 ∧ f2 = f1 := hp
  obtain ⟨rfl, rfl, ef2⟩ := hp
  refine lv_istore (lv' := [(11, .int 300), (10, .int 0), (9, .int 0), (8, .int 1), (7, .int 0), (6, .int 100000), (0, .ref (b + 183)), (1, .ref (b + 10)), (2, .ref (b + 4)), (3, .ref (b + 6)), (4, .ref (b + 178)), (5, .ref (b + 181))]) hx hb dX2_weigh_51 hl (by decide) rfl (fun ls hl => ?_)
  refine lv_iload hx hb dX2_weigh_53 (lv_at hl 0 rfl) ?_
  refine lv_if_ge (tgt := 61) hx hb dX2_weigh_55 (by decide) (fun _ => ?_) (fun h => absurd (by decide) h)
  refine lv_aload hx hb dX2_weigh_61 (lv_at hl 10 rfl) ?_
  refine lv_aload_n hx hb dX2_weigh_63 rfl (lv_at hl 7 rfl) ?_
  refine lv_iload hx hb dX2_weigh_64 (lv_at hl 2 rfl) ?_
  have h178_1 : f1 178 = .inr (7, [.ref (b + 179), .ref (b + 180), .int 0, .null, .null]) := m_sm ef1 h178
  have h178_2 : f2 178 = .inr (7, [.ref (b + 179), .ref (b + 180), .int 0, .null, .null]) := m_sm ef2 h178_1
  have h10_1 : f1 10 = .inr (5, [.ref (b + 11), .ref (b + 12), .ref (b + 13), .int 0, .int 0, .int 0]) := m_sm ef1 h10
  have h10_2 : f2 10 = .inr (5, [.ref (b + 11), .ref (b + 12), .ref (b + 13), .int 0, .int 0, .int 0]) := m_sm ef2 h10_1
  refine m_gov (m_runV calV_X7_takeDone wd_915 (a_X7_takeDone_0 l D kc b f2 h178_2 h10_2) C hM (by decide) h178_2 rfl hl.1 rfl rfl (Nat.le_of_ble_eq_true rfl) dX2_weigh_66 ⟨Nat.le_of_ble_eq_true rfl, Nat.le_of_ble_eq_true rfl⟩ ⟨Nat.le_of_ble_eq_true rfl, Nat.le_of_ble_eq_true rfl⟩) hM (fun n6 f3 H locs hp hM => ?_)
  have hp : n6 = 220 ∧ f3 = va_up f2 178 (.inr (7, [.ref (b + 179), .ref (b + 180), .int 0, .null, .null])) := hp
  obtain ⟨rfl, ef3⟩ := hp
  refine lv_aload hx hb dX2_weigh_69 (lv_at hl 10 rfl) ?_
  refine lv_aload_n hx hb dX2_weigh_71 rfl (lv_at hl 8 rfl) ?_
  refine lv_aload_n hx hb dX2_weigh_72 rfl (lv_at hl 6 rfl) ?_
  have h183_2 : f2 183 = .inr (2, [.ref (b + 184), .ref (b + 186), .ref (b + 187), .ref (b + 188), .ref (b + 189), .int 2, .int 3, .int 0, .int 0, .int 0, .int 0, .int 0]) := m_sm ef2 h183_1
  have h183_3 : f3 183 = .inr (2, [.ref (b + 184), .ref (b + 186), .ref (b + 187), .ref (b + 188), .ref (b + 189), .int 2, .int 3, .int 0, .int 0, .int 0, .int 0, .int 0]) := m_ne ef3 h183_2 (by decide)
  refine m_get fl_X2_14_X2 C hM (i := 183) (by decide) h183_3 (v := .ref (b + 184)) rfl dX2_weigh_73 ?_
  have h178_3 : f3 178 = .inr (7, [.ref (b + 179), .ref (b + 180), .int 0, .null, .null]) := m_eq ef3
  have h184_1 : f1 184 = .inr (8, [.ref (b + 185), .int 0]) := m_sm ef1 h184
  have h184_2 : f2 184 = .inr (8, [.ref (b + 185), .int 0]) := m_sm ef2 h184_1
  have h184_3 : f3 184 = .inr (8, [.ref (b + 185), .int 0]) := m_ne ef3 h184_2 (by decide)
  have h4_1 : f1 4 = .inr (8, [.ref (b + 5), .int 0]) := m_sm ef1 h4
  have h4_2 : f2 4 = .inr (8, [.ref (b + 5), .int 0]) := m_sm ef2 h4_1
  have h4_3 : f3 4 = .inr (8, [.ref (b + 5), .int 0]) := m_ne ef3 h4_2 (by decide)
  refine m_gov (m_runV calV_X7_make wd_916 (a_X7_make_1 l D kc b f3 h178_3 h184_3 h4_3) C hM (by decide) h178_3 rfl hl.1 rfl rfl (Nat.le_of_ble_eq_true rfl) dX2_weigh_76 ⟨Nat.le_of_ble_eq_true rfl, Nat.le_of_ble_eq_true rfl⟩ ⟨Nat.le_of_ble_eq_true rfl, Nat.le_of_ble_eq_true rfl⟩) hM (fun n8 f4 H locs hp hM => ?_)
  have hp : n8 = 220 ∧ f4 = va_up (va_up (va_up f3 178 (.inr (7, [.ref (b + 179), .ref (b + 180), .int 0, .ref (b + 4), .null]))) 178 (.inr (7, [.ref (b + 179), .ref (b + 180), .int 0, .ref (b + 4), .ref (b + 184)]))) 184 (.inr (8, [.ref (b + 185), .int 0])) := hp
  obtain ⟨rfl, ef4⟩ := hp
  refine lv_aload hx hb dX2_weigh_79 (lv_at hl 11 rfl) ?_
  refine lv_aload_n hx hb dX2_weigh_81 rfl (lv_at hl 6 rfl) ?_
  have h183_4 : f4 183 = .inr (2, [.ref (b + 184), .ref (b + 186), .ref (b + 187), .ref (b + 188), .ref (b + 189), .int 2, .int 3, .int 0, .int 0, .int 0, .int 0, .int 0]) := m_ne ef4 (m_ne rfl (m_ne rfl h183_3 (by decide)) (by decide)) (by decide)
  refine m_get fl_X2_14_X2 C hM (i := 183) (by decide) h183_4 (v := .ref (b + 184)) rfl dX2_weigh_82 ?_
  refine lv_iconst (v := 0) hx hb dX2_weigh_85 (by decide) ?_
  refine lv_aload_n hx hb dX2_weigh_86 rfl (lv_at hl 9 rfl) ?_
  refine lv_iconst (v := 0) hx hb dX2_weigh_87 (by decide) ?_
  refine lv_iload hx hb dX2_weigh_88 (lv_at hl 0 rfl) ?_
  have h184_4 : f4 184 = .inr (8, [.ref (b + 185), .int 0]) := m_eq ef4
  have h6_1 : f1 6 = .inr (8, [.ref (b + 7), .int 0]) := m_sm ef1 h6
  have h6_2 : f2 6 = .inr (8, [.ref (b + 7), .int 0]) := m_sm ef2 h6_1
  have h6_3 : f3 6 = .inr (8, [.ref (b + 7), .int 0]) := m_ne ef3 h6_2 (by decide)
  have h6_4 : f4 6 = .inr (8, [.ref (b + 7), .int 0]) := m_ne ef4 (m_ne rfl (m_ne rfl h6_3 (by decide)) (by decide)) (by decide)
  have h181_1 : f1 181 = .inr (6, [.ref (b + 182)]) := m_sm ef1 h181
  have h181_2 : f2 181 = .inr (6, [.ref (b + 182)]) := m_sm ef2 h181_1
  have h181_3 : f3 181 = .inr (6, [.ref (b + 182)]) := m_ne ef3 h181_2 (by decide)
  have h181_4 : f4 181 = .inr (6, [.ref (b + 182)]) := m_ne ef4 (m_ne rfl (m_ne rfl h181_3 (by decide)) (by decide)) (by decide)
  have h182_1 : f1 182 = .inl (kc 1, 301, .inl (fun _ => 0)) := m_sm ef1 h182
  have h182_2 : f2 182 = .inl (kc 1, 301, .inl (fun _ => 0)) := m_sm ef2 h182_1
  have h182_3 : f3 182 = .inl (kc 1, 301, .inl (fun _ => 0)) := m_ne ef3 h182_2 (by decide)
  have h182_4 : f4 182 = .inl (kc 1, 301, .inl (fun _ => 0)) := m_ne ef4 (m_ne rfl (m_ne rfl h182_3 (by decide)) (by decide)) (by decide)
  refine m_goi (m_runV calV_X6_measure wd_917 (a_X6_measure_0 l D kc b f4 h184_4 h6_4 h181_4 h182_4) C hM (by decide) h181_4 rfl hl.1 rfl rfl (Nat.le_of_ble_eq_true rfl) dX2_weigh_90 ⟨Nat.le_of_ble_eq_true rfl, Nat.le_of_ble_eq_true rfl⟩ ⟨Nat.le_of_ble_eq_true rfl, Nat.le_of_ble_eq_true rfl⟩) hM (fun r9 n10 f5 H locs hp hM => ?_)
  have hp : r9 = 0 ∧ n10 = 220 ∧ f5 = va_up f4 182 (.inl (kc 1, 301, .inl (upd (fun _ => 0) 0 0))) := hp
  obtain ⟨rfl, rfl, ef5⟩ := hp
  refine lv_istore (lv' := [(12, .int 0), (11, .int 300), (10, .int 0), (9, .int 0), (8, .int 1), (7, .int 0), (6, .int 100000), (0, .ref (b + 183)), (1, .ref (b + 10)), (2, .ref (b + 4)), (3, .ref (b + 6)), (4, .ref (b + 178)), (5, .ref (b + 181))]) hx hb dX2_weigh_93 hl (by decide) rfl (fun ls hl => ?_)
  refine lv_iload hx hb dX2_weigh_95 (lv_at hl 0 rfl) ?_
  refine lv_aload_n hx hb dX2_weigh_97 rfl (lv_at hl 7 rfl) ?_
  have h183_5 : f5 183 = .inr (2, [.ref (b + 184), .ref (b + 186), .ref (b + 187), .ref (b + 188), .ref (b + 189), .int 2, .int 3, .int 0, .int 0, .int 0, .int 0, .int 0]) := m_ne ef5 h183_4 (by decide)
  refine m_get fl_X2_33_X2 C hM (i := 183) (by decide) h183_5 (v := .int 2) rfl dX2_weigh_98 ?_
  refine lv_imul hx hb dX2_weigh_101 ?_
  refine m_vi (y := 0) (by decide) ?_
  refine lv_iload hx hb dX2_weigh_102 (lv_at hl 2 rfl) ?_
  refine lv_aload_n hx hb dX2_weigh_104 rfl (lv_at hl 7 rfl) ?_
  refine m_get fl_X2_37_X2 C hM (i := 183) (by decide) h183_5 (v := .int 3) rfl dX2_weigh_105 ?_
  refine lv_imul hx hb dX2_weigh_108 ?_
  refine m_vi (y := 0) (by decide) ?_
  refine lv_iadd hx hb dX2_weigh_109 ?_
  refine m_vi (y := 0) (by decide) ?_
  refine lv_istore (lv' := [(13, .int 0), (12, .int 0), (11, .int 300), (10, .int 0), (9, .int 0), (8, .int 1), (7, .int 0), (6, .int 100000), (0, .ref (b + 183)), (1, .ref (b + 10)), (2, .ref (b + 4)), (3, .ref (b + 6)), (4, .ref (b + 178)), (5, .ref (b + 181))]) hx hb dX2_weigh_110 hl (by decide) rfl (fun ls hl => ?_)
  refine lv_iload hx hb dX2_weigh_112 (lv_at hl 1 rfl) ?_
  refine lv_iload hx hb dX2_weigh_114 (lv_at hl 2 rfl) ?_
  refine lv_icmp_gt (tgt := 160) hx hb dX2_weigh_116 (by decide) (fun h => absurd h (by decide)) (fun _ => ?_)
  refine lv_iload hx hb dX2_weigh_119 (lv_at hl 0 rfl) ?_
  refine lv_iload hx hb dX2_weigh_121 (lv_at hl 7 rfl) ?_
  refine lv_icmp_lt (tgt := 140) hx hb dX2_weigh_123 (by decide) (fun _ => ?_) (fun h => absurd (by decide) h)
  refine lv_iload hx hb dX2_weigh_140 (lv_at hl 0 rfl) ?_
  refine lv_istore (lv' := [(6, .int 0), (13, .int 0), (12, .int 0), (11, .int 300), (10, .int 0), (9, .int 0), (8, .int 1), (7, .int 0), (0, .ref (b + 183)), (1, .ref (b + 10)), (2, .ref (b + 4)), (3, .ref (b + 6)), (4, .ref (b + 178)), (5, .ref (b + 181))]) hx hb dX2_weigh_142 hl (by decide) rfl (fun ls hl => ?_)
  refine lv_iload hx hb dX2_weigh_144 (lv_at hl 4 rfl) ?_
  refine lv_istore (lv' := [(7, .int 0), (6, .int 0), (13, .int 0), (12, .int 0), (11, .int 300), (10, .int 0), (9, .int 0), (8, .int 1), (0, .ref (b + 183)), (1, .ref (b + 10)), (2, .ref (b + 4)), (3, .ref (b + 6)), (4, .ref (b + 178)), (5, .ref (b + 181))]) hx hb dX2_weigh_146 hl (by decide) rfl (fun ls hl => ?_)
  refine lv_aload_n hx hb dX2_weigh_148 rfl (lv_at hl 8 rfl) ?_
  refine lv_iload hx hb dX2_weigh_149 (lv_at hl 6 rfl) ?_
  refine m_put fl_X2_77_X2 C hM (i := 183) (by decide) h183_5 rfl rfl (Nat.le_of_ble_eq_true rfl) (fs1 := [.ref (b + 184), .ref (b + 186), .ref (b + 187), .ref (b + 188), .ref (b + 189), .int 2, .int 3, .int 0, .int 0, .int 0, .int 0, .int 0]) rfl dX2_weigh_151 (fun H locs f6 ef6 hM => ?_)
  refine lv_aload_n hx hb dX2_weigh_154 rfl (lv_at hl 8 rfl) ?_
  refine lv_iload hx hb dX2_weigh_155 (lv_at hl 3 rfl) ?_
  have h183_6 : f6 183 = .inr (2, [.ref (b + 184), .ref (b + 186), .ref (b + 187), .ref (b + 188), .ref (b + 189), .int 2, .int 3, .int 0, .int 0, .int 0, .int 0, .int 0]) := m_eq ef6
  refine m_put fl_X2_80_X2 C hM (i := 183) (by decide) h183_6 rfl rfl (Nat.le_of_ble_eq_true rfl) (fs1 := [.ref (b + 184), .ref (b + 186), .ref (b + 187), .ref (b + 188), .ref (b + 189), .int 2, .int 3, .int 0, .int 0, .int 0, .int 0, .int 0]) rfl dX2_weigh_157 (fun H locs f7 ef7 hM => ?_)
  refine lv_iinc (v := 1) (lv' := [(9, .int 1), (7, .int 0), (6, .int 0), (13, .int 0), (12, .int 0), (11, .int 300), (10, .int 0), (8, .int 1), (0, .ref (b + 183)), (1, .ref (b + 10)), (2, .ref (b + 4)), (3, .ref (b + 6)), (4, .ref (b + 178)), (5, .ref (b + 181))]) hx hb dX2_weigh_160 hl (k := 6) rfl (by decide) (by decide) rfl (fun ls hl => ?_)
  refine lv_goto (tgt := 23) hx hb dX2_weigh_163 (by decide) ?_
  refine lv_iload hx hb dX2_weigh_23 (lv_at hl 0 rfl) ?_
  refine lv_iload hx hb dX2_weigh_25 (lv_at hl 7 rfl) ?_
  refine lv_icmp_ge (tgt := 166) hx hb dX2_weigh_27 (by decide) (fun _ => ?_) (fun h => absurd (by decide) h)
  refine lv_aload_n hx hb dX2_weigh_166 rfl (lv_at hl 8 rfl) ?_
  refine lv_iconst (v := 1) hx hb dX2_weigh_167 (by decide) ?_
  have h183_7 : f7 183 = .inr (2, [.ref (b + 184), .ref (b + 186), .ref (b + 187), .ref (b + 188), .ref (b + 189), .int 2, .int 3, .int 0, .int 0, .int 0, .int 0, .int 0]) := m_eq ef7
  refine m_put fl_X2_83_X2 C hM (i := 183) (by decide) h183_7 rfl rfl (Nat.le_of_ble_eq_true rfl) (fs1 := [.ref (b + 184), .ref (b + 186), .ref (b + 187), .ref (b + 188), .ref (b + 189), .int 2, .int 3, .int 1, .int 0, .int 0, .int 0, .int 0]) rfl dX2_weigh_168 (fun H locs f8 ef8 hM => ?_)
  refine lv_aload_n hx hb dX2_weigh_171 rfl (lv_at hl 8 rfl) ?_
  refine lv_aload_n hx hb dX2_weigh_172 rfl (lv_at hl 9 rfl) ?_
  have h183_8 : f8 183 = .inr (2, [.ref (b + 184), .ref (b + 186), .ref (b + 187), .ref (b + 188), .ref (b + 189), .int 2, .int 3, .int 1, .int 0, .int 0, .int 0, .int 0]) := m_eq ef8
  refine m_gov (m_runV calV_X2_listMissed wd_931 (a_X2_listMissed_0 l D kc b f8 h183_8) C hM (by decide) h183_8 rfl hl.1 rfl rfl (Nat.le_of_ble_eq_true rfl) dX2_weigh_173 ⟨Nat.le_of_ble_eq_true rfl, Nat.le_of_ble_eq_true rfl⟩ ⟨Nat.le_of_ble_eq_true rfl, Nat.le_of_ble_eq_true rfl⟩) hM (fun n12 f9 H locs hp hM => ?_)
  have hp : n12 = 220 ∧ f9 = va_up f8 183 (.inr (2, [.ref (b + 184), .ref (b + 186), .ref (b + 187), .ref (b + 188), .ref (b + 189), .int 2, .int 3, .int 1, .int 0, .int 0, .int 0, .int 0])) := hp
  obtain ⟨rfl, ef9⟩ := hp
  refine lv_aload hx hb dX2_weigh_176 (lv_at hl 12 rfl) ?_
  refine lv_aload_n hx hb dX2_weigh_178 rfl (lv_at hl 9 rfl) ?_
  refine lv_aload_n hx hb dX2_weigh_179 rfl (lv_at hl 8 rfl) ?_
  have h183_9 : f9 183 = .inr (2, [.ref (b + 184), .ref (b + 186), .ref (b + 187), .ref (b + 188), .ref (b + 189), .int 2, .int 3, .int 1, .int 0, .int 0, .int 0, .int 0]) := m_eq ef9
  refine m_get fl_X2_77_X2 C hM (i := 183) (by decide) h183_9 (v := .int 0) rfl dX2_weigh_180 ?_
  have h178_4 : f4 178 = .inr (7, [.ref (b + 179), .ref (b + 180), .int 0, .ref (b + 4), .ref (b + 184)]) := m_ne ef4 (m_eq rfl) (by decide)
  have h178_5 : f5 178 = .inr (7, [.ref (b + 179), .ref (b + 180), .int 0, .ref (b + 4), .ref (b + 184)]) := m_ne ef5 h178_4 (by decide)
  have h178_6 : f6 178 = .inr (7, [.ref (b + 179), .ref (b + 180), .int 0, .ref (b + 4), .ref (b + 184)]) := m_ne ef6 h178_5 (by decide)
  have h178_7 : f7 178 = .inr (7, [.ref (b + 179), .ref (b + 180), .int 0, .ref (b + 4), .ref (b + 184)]) := m_ne ef7 h178_6 (by decide)
  have h178_8 : f8 178 = .inr (7, [.ref (b + 179), .ref (b + 180), .int 0, .ref (b + 4), .ref (b + 184)]) := m_ne ef8 h178_7 (by decide)
  have h178_9 : f9 178 = .inr (7, [.ref (b + 179), .ref (b + 180), .int 0, .ref (b + 4), .ref (b + 184)]) := m_ne ef9 h178_8 (by decide)
  have h10_3 : f3 10 = .inr (5, [.ref (b + 11), .ref (b + 12), .ref (b + 13), .int 0, .int 0, .int 0]) := m_ne ef3 h10_2 (by decide)
  have h10_4 : f4 10 = .inr (5, [.ref (b + 11), .ref (b + 12), .ref (b + 13), .int 0, .int 0, .int 0]) := m_ne ef4 (m_ne rfl (m_ne rfl h10_3 (by decide)) (by decide)) (by decide)
  have h10_5 : f5 10 = .inr (5, [.ref (b + 11), .ref (b + 12), .ref (b + 13), .int 0, .int 0, .int 0]) := m_ne ef5 h10_4 (by decide)
  have h10_6 : f6 10 = .inr (5, [.ref (b + 11), .ref (b + 12), .ref (b + 13), .int 0, .int 0, .int 0]) := m_ne ef6 h10_5 (by decide)
  have h10_7 : f7 10 = .inr (5, [.ref (b + 11), .ref (b + 12), .ref (b + 13), .int 0, .int 0, .int 0]) := m_ne ef7 h10_6 (by decide)
  have h10_8 : f8 10 = .inr (5, [.ref (b + 11), .ref (b + 12), .ref (b + 13), .int 0, .int 0, .int 0]) := m_ne ef8 h10_7 (by decide)
  have h10_9 : f9 10 = .inr (5, [.ref (b + 11), .ref (b + 12), .ref (b + 13), .int 0, .int 0, .int 0]) := m_ne ef9 h10_8 (by decide)
  refine m_gov (m_runV calV_X7_takeDone wd_915 (a_X7_takeDone_1 l D kc b f9 h178_9 h10_9) C hM (by decide) h178_9 rfl hl.1 rfl rfl (Nat.le_of_ble_eq_true rfl) dX2_weigh_183 ⟨Nat.le_of_ble_eq_true rfl, Nat.le_of_ble_eq_true rfl⟩ ⟨Nat.le_of_ble_eq_true rfl, Nat.le_of_ble_eq_true rfl⟩) hM (fun n14 f10 H locs hp hM => ?_)
  have hp : n14 = 220 ∧ f10 = va_up f9 178 (.inr (7, [.ref (b + 179), .ref (b + 180), .int 0, .ref (b + 4), .ref (b + 184)])) := hp
  obtain ⟨rfl, ef10⟩ := hp
  refine lv_aload hx hb dX2_weigh_186 (lv_at hl 12 rfl) ?_
  refine lv_aload_n hx hb dX2_weigh_188 rfl (lv_at hl 10 rfl) ?_
  refine lv_aload_n hx hb dX2_weigh_189 rfl (lv_at hl 8 rfl) ?_
  have h183_10 : f10 183 = .inr (2, [.ref (b + 184), .ref (b + 186), .ref (b + 187), .ref (b + 188), .ref (b + 189), .int 2, .int 3, .int 1, .int 0, .int 0, .int 0, .int 0]) := m_ne ef10 h183_9 (by decide)
  refine m_get fl_X2_14_X2 C hM (i := 183) (by decide) h183_10 (v := .ref (b + 184)) rfl dX2_weigh_190 ?_
  have h178_10 : f10 178 = .inr (7, [.ref (b + 179), .ref (b + 180), .int 0, .ref (b + 4), .ref (b + 184)]) := m_eq ef10
  have h184_5 : f5 184 = .inr (8, [.ref (b + 185), .int 0]) := m_ne ef5 h184_4 (by decide)
  have h184_6 : f6 184 = .inr (8, [.ref (b + 185), .int 0]) := m_ne ef6 h184_5 (by decide)
  have h184_7 : f7 184 = .inr (8, [.ref (b + 185), .int 0]) := m_ne ef7 h184_6 (by decide)
  have h184_8 : f8 184 = .inr (8, [.ref (b + 185), .int 0]) := m_ne ef8 h184_7 (by decide)
  have h184_9 : f9 184 = .inr (8, [.ref (b + 185), .int 0]) := m_ne ef9 h184_8 (by decide)
  have h184_10 : f10 184 = .inr (8, [.ref (b + 185), .int 0]) := m_ne ef10 h184_9 (by decide)
  have h4_4 : f4 4 = .inr (8, [.ref (b + 5), .int 0]) := m_ne ef4 (m_ne rfl (m_ne rfl h4_3 (by decide)) (by decide)) (by decide)
  have h4_5 : f5 4 = .inr (8, [.ref (b + 5), .int 0]) := m_ne ef5 h4_4 (by decide)
  have h4_6 : f6 4 = .inr (8, [.ref (b + 5), .int 0]) := m_ne ef6 h4_5 (by decide)
  have h4_7 : f7 4 = .inr (8, [.ref (b + 5), .int 0]) := m_ne ef7 h4_6 (by decide)
  have h4_8 : f8 4 = .inr (8, [.ref (b + 5), .int 0]) := m_ne ef8 h4_7 (by decide)
  have h4_9 : f9 4 = .inr (8, [.ref (b + 5), .int 0]) := m_ne ef9 h4_8 (by decide)
  have h4_10 : f10 4 = .inr (8, [.ref (b + 5), .int 0]) := m_ne ef10 h4_9 (by decide)
  refine m_gov (m_runV calV_X7_make wd_916 (a_X7_make_2 l D kc b f10 h178_10 h184_10 h4_10) C hM (by decide) h178_10 rfl hl.1 rfl rfl (Nat.le_of_ble_eq_true rfl) dX2_weigh_193 ⟨Nat.le_of_ble_eq_true rfl, Nat.le_of_ble_eq_true rfl⟩ ⟨Nat.le_of_ble_eq_true rfl, Nat.le_of_ble_eq_true rfl⟩) hM (fun n16 f11 H locs hp hM => ?_)
  have hp : n16 = 220 ∧ f11 = va_up (va_up (va_up f10 178 (.inr (7, [.ref (b + 179), .ref (b + 180), .int 0, .ref (b + 4), .ref (b + 184)]))) 178 (.inr (7, [.ref (b + 179), .ref (b + 180), .int 0, .ref (b + 4), .ref (b + 184)]))) 184 (.inr (8, [.ref (b + 185), .int 0])) := hp
  obtain ⟨rfl, ef11⟩ := hp
  refine lv_aload_n hx hb dX2_weigh_196 rfl (lv_at hl 8 rfl) ?_
  refine lv_aload_n hx hb dX2_weigh_197 rfl (lv_at hl 11 rfl) ?_
  refine lv_aload hx hb dX2_weigh_198 (lv_at hl 13 rfl) ?_
  have h183_11 : f11 183 = .inr (2, [.ref (b + 184), .ref (b + 186), .ref (b + 187), .ref (b + 188), .ref (b + 189), .int 2, .int 3, .int 1, .int 0, .int 0, .int 0, .int 0]) := m_ne ef11 (m_ne rfl (m_ne rfl h183_10 (by decide)) (by decide)) (by decide)
  have h184_11 : f11 184 = .inr (8, [.ref (b + 185), .int 0]) := m_eq ef11
  have h6_5 : f5 6 = .inr (8, [.ref (b + 7), .int 0]) := m_ne ef5 h6_4 (by decide)
  have h6_6 : f6 6 = .inr (8, [.ref (b + 7), .int 0]) := m_ne ef6 h6_5 (by decide)
  have h6_7 : f7 6 = .inr (8, [.ref (b + 7), .int 0]) := m_ne ef7 h6_6 (by decide)
  have h6_8 : f8 6 = .inr (8, [.ref (b + 7), .int 0]) := m_ne ef8 h6_7 (by decide)
  have h6_9 : f9 6 = .inr (8, [.ref (b + 7), .int 0]) := m_ne ef9 h6_8 (by decide)
  have h6_10 : f10 6 = .inr (8, [.ref (b + 7), .int 0]) := m_ne ef10 h6_9 (by decide)
  have h6_11 : f11 6 = .inr (8, [.ref (b + 7), .int 0]) := m_ne ef11 (m_ne rfl (m_ne rfl h6_10 (by decide)) (by decide)) (by decide)
  refine m_gov (m_runV calV_X2_listChanges wd_936 (a_X2_listChanges_0 l D kc b f11 h183_11 h184_11 h6_11) C hM (by decide) h183_11 rfl hl.1 rfl rfl (Nat.le_of_ble_eq_true rfl) dX2_weigh_200 ⟨Nat.le_of_ble_eq_true rfl, Nat.le_of_ble_eq_true rfl⟩ ⟨Nat.le_of_ble_eq_true rfl, Nat.le_of_ble_eq_true rfl⟩) hM (fun n18 f12 H locs hp hM => ?_)
  have hp : n18 = 220 ∧ f12 = va_up f11 183 (.inr (2, [.ref (b + 184), .ref (b + 186), .ref (b + 187), .ref (b + 188), .ref (b + 189), .int 2, .int 3, .int 1, .int 0, .int 0, .int 0, .int 0])) := hp
  obtain ⟨rfl, ef12⟩ := hp
  refine lv_iload hx hb dX2_weigh_203 (lv_at hl 2 rfl) ?_
  exact m_iret C hr hlk hM (⟨rfl, rfl, by rw [ef12, ef11, ef10, ef9, ef8, ef7, ef6, ef5, ef4, ef3, ef2, ef1]⟩) dX2_weigh_205
set_option maxHeartbeats 4000000 in
set_option maxRecDepth 100000 in
theorem k_x_hold (l : Launch) (D : va_G) (kc : Nat → ClassId) (b : Nat) (f : Nat → va_E) (h0 : f 0 = .inr (11, [.ref (b + 1), .ref (b + 3), .ref (b + 4), .ref (b + 6), .ref (b + 8), .ref (b + 10), .ref (b + 174), .ref (b + 177), .ref (b + 178), .ref (b + 181), .ref (b + 183), .ref (b + 190)])) (h10 : f 10 = .inr (5, [.ref (b + 11), .ref (b + 12), .ref (b + 13), .int 0, .int 0, .int 0])) (h183 : f 183 = .inr (2, [.ref (b + 184), .ref (b + 186), .ref (b + 187), .ref (b + 188), .ref (b + 189), .int 2, .int 3, .int 0, .int 0, .int 0, .int 0, .int 0])) (h178 : f 178 = .inr (7, [.ref (b + 179), .ref (b + 180), .int 0, .null, .null])) (h184 : f 184 = .inr (8, [.ref (b + 185), .int 0])) (h4 : f 4 = .inr (8, [.ref (b + 5), .int 0])) (h6 : f 6 = .inr (8, [.ref (b + 7), .int 0])) (h181 : f 181 = .inr (6, [.ref (b + 182)])) (h182 : f 182 = .inl (kc 1, 301, .inl (fun _ => 0))) : mMi l yX11_hold cX11_hold 1 .int 4 0 0 D kc b 220 f [.ref (b + 0)] (fun r u => r = 0 ∧ u.1 = 220 ∧ ∀ j, 192 ≤ j → u.2 j = f j) := by
  refine m_start (by decide) (Nat.le_of_ble_eq_true rfl) ?_
  intro p e s m below meth c C hr hlk hnm hM ls hl
  obtain ⟨hx, hb, hml, hown, hts, hE, hbs⟩ := id C
  have hl : lv_has ls 1 [(0, .ref (b + 0))] := hl
  refine lv_aload_n hx hb dX11_hold_0 rfl (lv_at hl 0 rfl) ?_
  refine m_get fl_X11_41_X11 C hM (i := 0) (by decide) h0 (v := .ref (b + 10)) rfl dX11_hold_1 ?_
  refine m_getN fl_X11_180_X5 C hM (i := 10) (by decide) h10 (v := .int 0) rfl dX11_hold_4 ?_
  refine lv_bipush (v := 8) hx hb dX11_hold_7 (by decide) ?_
  refine lv_icmp_le (tgt := 15) hx hb dX11_hold_9 (by decide) (fun _ => ?_) (fun h => absurd (by decide) h)
  refine lv_aload_n hx hb dX11_hold_15 rfl (lv_at hl 0 rfl) ?_
  refine m_get fl_X11_76_X11 C hM (i := 0) (by decide) h0 (v := .ref (b + 183)) rfl dX11_hold_16 ?_
  refine lv_aload_n hx hb dX11_hold_19 rfl (lv_at hl 0 rfl) ?_
  refine m_get fl_X11_41_X11 C hM (i := 0) (by decide) h0 (v := .ref (b + 10)) rfl dX11_hold_20 ?_
  refine lv_aload_n hx hb dX11_hold_23 rfl (lv_at hl 0 rfl) ?_
  refine m_get fl_X11_28_X11 C hM (i := 0) (by decide) h0 (v := .ref (b + 4)) rfl dX11_hold_24 ?_
  refine lv_aload_n hx hb dX11_hold_27 rfl (lv_at hl 0 rfl) ?_
  refine m_get fl_X11_32_X11 C hM (i := 0) (by decide) h0 (v := .ref (b + 6)) rfl dX11_hold_28 ?_
  refine lv_aload_n hx hb dX11_hold_31 rfl (lv_at hl 0 rfl) ?_
  refine m_get fl_X11_62_X11 C hM (i := 0) (by decide) h0 (v := .ref (b + 178)) rfl dX11_hold_32 ?_
  refine lv_aload_n hx hb dX11_hold_35 rfl (lv_at hl 0 rfl) ?_
  refine m_get fl_X11_69_X11 C hM (i := 0) (by decide) h0 (v := .ref (b + 181)) rfl dX11_hold_36 ?_
  refine m_goi (m_runV calV_X2_weigh wd_899 (a_X2_weigh_0 l D kc b f h10 h183 h178 h184 h4 h6 h181 h182) C hM (by decide) h183 rfl hl.1 rfl rfl (Nat.le_of_ble_eq_true rfl) dX11_hold_39 ⟨Nat.le_of_ble_eq_true rfl, Nat.le_of_ble_eq_true rfl⟩ ⟨Nat.le_of_ble_eq_true rfl, Nat.le_of_ble_eq_true rfl⟩) hM (fun r1 n2 f1 H locs hp hM => ?_)
  have hp : r1 = 0 ∧ n2 = 220 ∧ f1 = va_up (va_up (va_up (va_up (va_up (va_up (va_up (va_up (va_up (va_up (va_up (va_up (va_up (va_up f 178 (.inr (7, [.ref (b + 179), .ref (b + 180), .int 0, .null, .null]))) 178 (.inr (7, [.ref (b + 179), .ref (b + 180), .int 0, .ref (b + 4), .null]))) 178 (.inr (7, [.ref (b + 179), .ref (b + 180), .int 0, .ref (b + 4), .ref (b + 184)]))) 184 (.inr (8, [.ref (b + 185), .int 0]))) 182 (.inl (kc 1, 301, .inl (upd (fun _ => 0) 0 0)))) 183 (.inr (2, [.ref (b + 184), .ref (b + 186), .ref (b + 187), .ref (b + 188), .ref (b + 189), .int 2, .int 3, .int 0, .int 0, .int 0, .int 0, .int 0]))) 183 (.inr (2, [.ref (b + 184), .ref (b + 186), .ref (b + 187), .ref (b + 188), .ref (b + 189), .int 2, .int 3, .int 0, .int 0, .int 0, .int 0, .int 0]))) 183 (.inr (2, [.ref (b + 184), .ref (b + 186), .ref (b + 187), .ref (b + 188), .ref (b + 189), .int 2, .int 3, .int 1, .int 0, .int 0, .int 0, .int 0]))) 183 (.inr (2, [.ref (b + 184), .ref (b + 186), .ref (b + 187), .ref (b + 188), .ref (b + 189), .int 2, .int 3, .int 1, .int 0, .int 0, .int 0, .int 0]))) 178 (.inr (7, [.ref (b + 179), .ref (b + 180), .int 0, .ref (b + 4), .ref (b + 184)]))) 178 (.inr (7, [.ref (b + 179), .ref (b + 180), .int 0, .ref (b + 4), .ref (b + 184)]))) 178 (.inr (7, [.ref (b + 179), .ref (b + 180), .int 0, .ref (b + 4), .ref (b + 184)]))) 184 (.inr (8, [.ref (b + 185), .int 0]))) 183 (.inr (2, [.ref (b + 184), .ref (b + 186), .ref (b + 187), .ref (b + 188), .ref (b + 189), .int 2, .int 3, .int 1, .int 0, .int 0, .int 0, .int 0])) := hp
  obtain ⟨rfl, rfl, ef1⟩ := hp
  have fr_1 : ∀ j, 192 ≤ j → f1 j = f j := fun j hj => m_ne ef1 (m_ne rfl (m_ne rfl (m_ne rfl (m_ne rfl (m_ne rfl (m_ne rfl (m_ne rfl (m_ne rfl (m_ne rfl (m_ne rfl (m_ne rfl (m_ne rfl (m_ne rfl (rfl) (by omega)) (by omega)) (by omega)) (by omega)) (by omega)) (by omega)) (by omega)) (by omega)) (by omega)) (by omega)) (by omega)) (by omega)) (by omega)) (by omega)
  exact m_iret C hr hlk hM (⟨rfl, rfl, fr_1⟩) dX11_hold_42
set_option maxHeartbeats 4000000 in
set_option maxRecDepth 100000 in
theorem a_X2_tell_0 (l : Launch) (D : va_G) (kc : Nat → ClassId) (b : Nat) (f : Nat → va_E) (a0 : Int32) (h183 : f 183 = .inr (2, [.ref (b + 184), .ref (b + 186), .ref (b + 187), .ref (b + 188), .ref (b + 189), .int 2, .int 3, .int 0, .int 0, .int 0, .int 0, .int 0])) : mMi l yX2_tell cX2_tell 2 .int 1 0 0 D kc b 220 f [.ref (b + 183), .int a0] (fun r u => r = (-1) ∧ u.1 = 220 ∧ u.2 = f) := by
  refine m_start (by decide) (Nat.le_of_ble_eq_true rfl) ?_
  intro p e s m below meth c C hr hlk hnm hM ls hl
  obtain ⟨hx, hb, hml, hown, hts, hE, hbs⟩ := id C
  have hl : lv_has ls 2 [(0, .ref (b + 183)), (1, .int a0)] := hl
  refine lv_aload_n hx hb dX2_tell_0 rfl (lv_at hl 0 rfl) ?_
  refine m_get fl_X2_83_X2 C hM (i := 183) (by decide) h183 (v := .int 0) rfl dX2_tell_1 ?_
  refine lv_if_ne (tgt := 9) hx hb dX2_tell_4 (by decide) (fun h => absurd (by decide) h) (fun _ => ?_)
  refine lv_iconst (v := (-1)) hx hb dX2_tell_7 (by decide) ?_
  exact m_iret C hr hlk hM (⟨rfl, rfl, rfl⟩) dX2_tell_8
set_option maxHeartbeats 4000000 in
set_option maxRecDepth 100000 in
theorem k_x_held (l : Launch) (D : va_G) (kc : Nat → ClassId) (b : Nat) (f : Nat → va_E) (a0 : Int32) (h0 : f 0 = .inr (11, [.ref (b + 1), .ref (b + 3), .ref (b + 4), .ref (b + 6), .ref (b + 8), .ref (b + 10), .ref (b + 174), .ref (b + 177), .ref (b + 178), .ref (b + 181), .ref (b + 183), .ref (b + 190)])) (h183 : f 183 = .inr (2, [.ref (b + 184), .ref (b + 186), .ref (b + 187), .ref (b + 188), .ref (b + 189), .int 2, .int 3, .int 0, .int 0, .int 0, .int 0, .int 0])) : mMi l yX11_held cX11_held 2 .int 2 0 0 D kc b 220 f [.ref (b + 0), .int a0] (fun r u => r = (-1) ∧ u.1 = 220 ∧ ∀ j, 192 ≤ j → u.2 j = f j) := by
  refine m_start (by decide) (Nat.le_of_ble_eq_true rfl) ?_
  intro p e s m below meth c C hr hlk hnm hM ls hl
  obtain ⟨hx, hb, hml, hown, hts, hE, hbs⟩ := id C
  have hl : lv_has ls 2 [(0, .ref (b + 0)), (1, .int a0)] := hl
  refine lv_aload_n hx hb dX11_held_0 rfl (lv_at hl 0 rfl) ?_
  refine m_get fl_X11_76_X11 C hM (i := 0) (by decide) h0 (v := .ref (b + 183)) rfl dX11_held_1 ?_
  refine lv_iload_n hx hb dX11_held_4 rfl (lv_at hl 1 rfl) ?_
  refine m_goi (m_runV calV_X2_tell wd_949 (a_X2_tell_0 l D kc b f a0 h183) C hM (by decide) h183 rfl hl.1 rfl rfl (Nat.le_of_ble_eq_true rfl) dX11_held_5 ⟨Nat.le_of_ble_eq_true rfl, Nat.le_of_ble_eq_true rfl⟩ ⟨Nat.le_of_ble_eq_true rfl, Nat.le_of_ble_eq_true rfl⟩) hM (fun r1 n2 f1 H locs hp hM => ?_)
  have hp : r1 = (-1) ∧ n2 = 220 ∧ f1 = f := hp
  obtain ⟨rfl, rfl, ef1⟩ := hp
  have fr_1 : ∀ j, 192 ≤ j → f1 j = f j := fun j hj => m_sm ef1 (rfl)
  exact m_iret C hr hlk hM (⟨rfl, rfl, fr_1⟩) dX11_held_8
set_option maxHeartbeats 4000000 in
set_option maxRecDepth 100000 in
theorem a_X2_tellChange_0 (l : Launch) (D : va_G) (kc : Nat → ClassId) (b : Nat) (f : Nat → va_E) (a0 : Int32) (a1 : Int32) (h183 : f 183 = .inr (2, [.ref (b + 184), .ref (b + 186), .ref (b + 187), .ref (b + 188), .ref (b + 189), .int 2, .int 3, .int 0, .int 0, .int 0, .int 0, .int 0])) : mMi l yX2_tellChange cX2_tellChange 3 .int 1 0 0 D kc b 220 f [.ref (b + 183), .int a0, .int a1] (fun r u => r = (-1) ∧ u.1 = 220 ∧ u.2 = f) := by
  refine m_start (by decide) (Nat.le_of_ble_eq_true rfl) ?_
  intro p e s m below meth c C hr hlk hnm hM ls hl
  obtain ⟨hx, hb, hml, hown, hts, hE, hbs⟩ := id C
  have hl : lv_has ls 3 [(0, .ref (b + 183)), (1, .int a0), (2, .int a1)] := hl
  refine lv_iload_n hx hb dX2_tellChange_0 rfl (lv_at hl 1 rfl) ?_
  refine lv_if_lt (tgt := 19) hx hb dX2_tellChange_1 (by decide) (fun c1 => ?_) (fun c1 => ?_)
  · refine lv_iconst (v := (-1)) hx hb dX2_tellChange_19 (by decide) ?_
    exact m_iret C hr hlk hM (⟨rfl, rfl, rfl⟩) dX2_tellChange_20
  · refine lv_iload_n hx hb dX2_tellChange_4 rfl (lv_at hl 1 rfl) ?_
    refine lv_aload_n hx hb dX2_tellChange_5 rfl (lv_at hl 0 rfl) ?_
    refine m_get fl_X2_101_X2 C hM (i := 183) (by decide) h183 (v := .int 0) rfl dX2_tellChange_6 ?_
    refine lv_icmp_ge (tgt := 19) hx hb dX2_tellChange_9 (by decide) (fun c2 => ?_) (fun c2 => ?_)
    · refine lv_iconst (v := (-1)) hx hb dX2_tellChange_19 (by decide) ?_
      exact m_iret C hr hlk hM (⟨rfl, rfl, rfl⟩) dX2_tellChange_20
    · exfalso; revert c1 c2; simp only [← Int32.toInt_inj, Int32.lt_iff_toInt_lt, Int32.le_iff_toInt_le, m_lits]; omega
set_option maxHeartbeats 4000000 in
set_option maxRecDepth 100000 in
theorem k_x_unasked (l : Launch) (D : va_G) (kc : Nat → ClassId) (b : Nat) (f : Nat → va_E) (a0 : Int32) (a1 : Int32) (h0 : f 0 = .inr (11, [.ref (b + 1), .ref (b + 3), .ref (b + 4), .ref (b + 6), .ref (b + 8), .ref (b + 10), .ref (b + 174), .ref (b + 177), .ref (b + 178), .ref (b + 181), .ref (b + 183), .ref (b + 190)])) (h183 : f 183 = .inr (2, [.ref (b + 184), .ref (b + 186), .ref (b + 187), .ref (b + 188), .ref (b + 189), .int 2, .int 3, .int 0, .int 0, .int 0, .int 0, .int 0])) : mMi l yX11_unasked cX11_unasked 3 .int 2 0 0 D kc b 220 f [.ref (b + 0), .int a0, .int a1] (fun r u => r = (-1) ∧ u.1 = 220 ∧ ∀ j, 192 ≤ j → u.2 j = f j) := by
  refine m_start (by decide) (Nat.le_of_ble_eq_true rfl) ?_
  intro p e s m below meth c C hr hlk hnm hM ls hl
  obtain ⟨hx, hb, hml, hown, hts, hE, hbs⟩ := id C
  have hl : lv_has ls 3 [(0, .ref (b + 0)), (1, .int a0), (2, .int a1)] := hl
  refine lv_aload_n hx hb dX11_unasked_0 rfl (lv_at hl 0 rfl) ?_
  refine m_get fl_X11_76_X11 C hM (i := 0) (by decide) h0 (v := .ref (b + 183)) rfl dX11_unasked_1 ?_
  refine lv_iload_n hx hb dX11_unasked_4 rfl (lv_at hl 1 rfl) ?_
  refine lv_iload_n hx hb dX11_unasked_5 rfl (lv_at hl 2 rfl) ?_
  refine m_goi (m_runV calV_X2_tellChange wd_961 (a_X2_tellChange_0 l D kc b f a0 a1 h183) C hM (by decide) h183 rfl hl.1 rfl rfl (Nat.le_of_ble_eq_true rfl) dX11_unasked_6 ⟨Nat.le_of_ble_eq_true rfl, Nat.le_of_ble_eq_true rfl⟩ ⟨Nat.le_of_ble_eq_true rfl, Nat.le_of_ble_eq_true rfl⟩) hM (fun r1 n2 f1 H locs hp hM => ?_)
  have hp : r1 = (-1) ∧ n2 = 220 ∧ f1 = f := hp
  obtain ⟨rfl, rfl, ef1⟩ := hp
  have fr_1 : ∀ j, 192 ≤ j → f1 j = f j := fun j hj => m_sm ef1 (rfl)
  exact m_iret C hr hlk hM (⟨rfl, rfl, fr_1⟩) dX11_unasked_9
set_option maxHeartbeats 4000000 in
set_option maxRecDepth 100000 in
theorem a_X11_sheetOf_5 (l : Launch) (D : va_G) (kc : Nat → ClassId) (b : Nat) (f : Nat → va_E) (a1 : Int32) (z1 : a1 < 0) : mMq l yX11_sheetOf cX11_sheetOf 2 (.object "MarkedProof$Sheet") 1 0 0 D kc b 220 f [.ref (b + 0), .int a1] (fun r u => r = none ∧ u.1 = 220 ∧ u.2 = f) := by
  refine m_start (by decide) (Nat.le_of_ble_eq_true rfl) ?_
  intro p e s m below meth c C hr hlk hnm hM ls hl
  obtain ⟨hx, hb, hml, hown, hts, hE, hbs⟩ := id C
  have hl : lv_has ls 2 [(0, .ref (b + 0)), (1, .int a1)] := hl
  refine lv_iload_n hx hb dX11_sheetOf_0 rfl (lv_at hl 1 rfl) ?_
  refine lv_tableOut (tgt := 43) hx hb dX11_sheetOf_1 (by revert z1; simp only [Int32.lt_iff_toInt_lt, Int32.le_iff_toInt_le, m_lits]; omega) (by decide) ?_
  refine lv_null hx hb dX11_sheetOf_43 ?_
  exact m_qret (v := none) C hr hlk hM (⟨rfl, rfl, rfl⟩) dX11_sheetOf_44
set_option maxHeartbeats 4000000 in
set_option maxRecDepth 100000 in
theorem a_X11_sheetOf_6 (l : Launch) (D : va_G) (kc : Nat → ClassId) (b : Nat) (f : Nat → va_E) (a1 : Int32) (z1 : ¬ a1 < 0) (z2 : 2 < a1) : mMq l yX11_sheetOf cX11_sheetOf 2 (.object "MarkedProof$Sheet") 1 0 0 D kc b 220 f [.ref (b + 0), .int a1] (fun r u => r = none ∧ u.1 = 220 ∧ u.2 = f) := by
  refine m_start (by decide) (Nat.le_of_ble_eq_true rfl) ?_
  intro p e s m below meth c C hr hlk hnm hM ls hl
  obtain ⟨hx, hb, hml, hown, hts, hE, hbs⟩ := id C
  have hl : lv_has ls 2 [(0, .ref (b + 0)), (1, .int a1)] := hl
  refine lv_iload_n hx hb dX11_sheetOf_0 rfl (lv_at hl 1 rfl) ?_
  refine lv_tableOut (tgt := 43) hx hb dX11_sheetOf_1 (by revert z1 z2; simp only [Int32.lt_iff_toInt_lt, Int32.le_iff_toInt_le, m_lits]; omega) (by decide) ?_
  refine lv_null hx hb dX11_sheetOf_43 ?_
  exact m_qret (v := none) C hr hlk hM (⟨rfl, rfl, rfl⟩) dX11_sheetOf_44
set_option maxHeartbeats 4000000 in
set_option maxRecDepth 100000 in
theorem a_X6_measure_1 (l : Launch) (D : va_G) (kc : Nat → ClassId) (b : Nat) (f : Nat → va_E) (h4 : f 4 = .inr (8, [.ref (b + 5), .int 0])) (h181 : f 181 = .inr (6, [.ref (b + 182)])) (h182 : f 182 = .inl (kc 1, 301, .inl (fun _ => 0))) : mMi l yX6_measure cX6_measure 10 .int 1 0 0 D kc b 220 f [.ref (b + 181), .ref (b + 4), .int 0, .ref (b + 4), .int 0, .int 300] (fun r u => r = 0 ∧ u.1 = 220 ∧ u.2 = va_up f 182 (.inl (kc 1, 301, .inl (upd (fun _ => 0) 0 0)))) := by
  refine m_start (by decide) (Nat.le_of_ble_eq_true rfl) ?_
  intro p e s m below meth c C hr hlk hnm hM ls hl
  obtain ⟨hx, hb, hml, hown, hts, hE, hbs⟩ := id C
  have hl : lv_has ls 10 [(0, .ref (b + 181)), (1, .ref (b + 4)), (2, .int 0), (3, .ref (b + 4)), (4, .int 0), (5, .int 300)] := hl
  refine lv_iconst (v := 0) hx hb dX6_measure_0 (by decide) ?_
  refine lv_aload_n hx hb dX6_measure_1 rfl (lv_at hl 1 rfl) ?_
  refine m_getN fl_X6_15_X8 C hM (i := 4) (by decide) h4 (v := .int 0) rfl dX6_measure_2 ?_
  refine lv_iload_n hx hb dX6_measure_5 rfl (lv_at hl 2 rfl) ?_
  refine lv_isub hx hb dX6_measure_6 ?_
  refine m_vi (y := 0) (by decide) ?_
  refine va_mmax hx hb (hml.trans hl.1.symm) hown (hts _ wd_921) (hts _ wd_519) (hts _ wd_91) (hts _ wd_520) (Nat.le_of_ble_eq_true rfl) (Nat.le_of_ble_eq_true rfl) (Nat.le_of_ble_eq_true rfl) (Nat.le_of_ble_eq_true rfl) dX6_measure_7 ?_
  refine m_vi (y := 0) (by decide) ?_
  refine lv_istore (lv' := [(6, .int 0), (0, .ref (b + 181)), (1, .ref (b + 4)), (2, .int 0), (3, .ref (b + 4)), (4, .int 0), (5, .int 300)]) hx hb dX6_measure_10 hl (by decide) rfl (fun ls hl => ?_)
  refine lv_iconst (v := 0) hx hb dX6_measure_12 (by decide) ?_
  refine lv_aload_n hx hb dX6_measure_13 rfl (lv_at hl 4 rfl) ?_
  refine m_getN fl_X6_15_X8 C hM (i := 4) (by decide) h4 (v := .int 0) rfl dX6_measure_14 ?_
  refine lv_iload hx hb dX6_measure_17 (lv_at hl 5 rfl) ?_
  refine lv_isub hx hb dX6_measure_19 ?_
  refine m_vi (y := 0) (by decide) ?_
  refine va_mmax hx hb (hml.trans hl.1.symm) hown (hts _ wd_921) (hts _ wd_519) (hts _ wd_91) (hts _ wd_520) (Nat.le_of_ble_eq_true rfl) (Nat.le_of_ble_eq_true rfl) (Nat.le_of_ble_eq_true rfl) (Nat.le_of_ble_eq_true rfl) dX6_measure_20 ?_
  refine m_vi (y := 0) (by decide) ?_
  refine lv_istore (lv' := [(7, .int 0), (6, .int 0), (0, .ref (b + 181)), (1, .ref (b + 4)), (2, .int 0), (3, .ref (b + 4)), (4, .int 0), (5, .int 300)]) hx hb dX6_measure_23 hl (by decide) rfl (fun ls hl => ?_)
  refine lv_iload hx hb dX6_measure_25 (lv_at hl 7 rfl) ?_
  refine lv_iconst (v := 1) hx hb dX6_measure_27 (by decide) ?_
  refine lv_iadd hx hb dX6_measure_28 ?_
  refine m_vi (y := 301) (by decide) ?_
  refine lv_istore (lv' := [(8, .int 301), (7, .int 0), (6, .int 0), (0, .ref (b + 181)), (1, .ref (b + 4)), (2, .int 0), (3, .ref (b + 4)), (4, .int 0), (5, .int 300)]) hx hb dX6_measure_29 hl (by decide) rfl (fun ls hl => ?_)
  refine lv_iload hx hb dX6_measure_31 (lv_at hl 2 rfl) ?_
  refine lv_iload hx hb dX6_measure_33 (lv_at hl 1 rfl) ?_
  refine lv_isub hx hb dX6_measure_35 ?_
  refine m_vi (y := 0) (by decide) ?_
  refine va_mabs hx hb (hml.trans hl.1.symm) hown (hts _ wd_922) (hts _ wd_923) (hts _ wd_91) (hts _ wd_924) (Nat.le_of_ble_eq_true rfl) (Nat.le_of_ble_eq_true rfl) (Nat.le_of_ble_eq_true rfl) (Nat.le_of_ble_eq_true rfl) dX6_measure_36 ?_
  refine m_vi (y := 0) (by decide) ?_
  refine lv_iload hx hb dX6_measure_39 (lv_at hl 8 rfl) ?_
  refine lv_icmp_gt (tgt := 54) hx hb dX6_measure_41 (by decide) (fun h => absurd h (by decide)) (fun _ => ?_)
  refine lv_iload hx hb dX6_measure_44 (lv_at hl 1 rfl) ?_
  refine lv_aload_n hx hb dX6_measure_46 rfl (lv_at hl 3 rfl) ?_
  refine m_get fl_X6_9_X6 C hM (i := 181) (by decide) h181 (v := .ref (b + 182)) rfl dX6_measure_47 ?_
  refine m_alen C hM (j := 182) (by decide) 1 h182 rfl (v := 301) rfl dX6_measure_50 ?_
  refine lv_icmp_lt (tgt := 57) hx hb dX6_measure_51 (by decide) (fun _ => ?_) (fun h => absurd (by decide) h)
  refine lv_iconst (v := 0) hx hb dX6_measure_57 (by decide) ?_
  refine lv_istore (lv' := [(9, .int 0), (8, .int 301), (7, .int 0), (6, .int 0), (0, .ref (b + 181)), (1, .ref (b + 4)), (2, .int 0), (3, .ref (b + 4)), (4, .int 0), (5, .int 300)]) hx hb dX6_measure_58 hl (by decide) rfl (fun ls hl => ?_)
  refine lv_iload hx hb dX6_measure_60 (lv_at hl 0 rfl) ?_
  refine lv_iload hx hb dX6_measure_62 (lv_at hl 2 rfl) ?_
  refine lv_icmp_gt (tgt := 82) hx hb dX6_measure_64 (by decide) (fun h => absurd h (by decide)) (fun _ => ?_)
  refine lv_aload_n hx hb dX6_measure_67 rfl (lv_at hl 4 rfl) ?_
  refine m_get fl_X6_9_X6 C hM (i := 181) (by decide) h181 (v := .ref (b + 182)) rfl dX6_measure_68 ?_
  refine lv_iload hx hb dX6_measure_71 (lv_at hl 0 rfl) ?_
  refine lv_iload hx hb dX6_measure_73 (lv_at hl 0 rfl) ?_
  refine m_iast C hM (j := 182) (by decide) h182 (m_in (by decide)) dX6_measure_75 (fun H locs f1 ef1 hM => ?_)
  have ef1 : f1 = va_up f 182 (.inl (kc 1, 301, .inl (upd (fun _ => 0) 0 0))) := ef1
  refine lv_iinc (v := 1) (lv' := [(9, .int 1), (8, .int 301), (7, .int 0), (6, .int 0), (0, .ref (b + 181)), (1, .ref (b + 4)), (2, .int 0), (3, .ref (b + 4)), (4, .int 0), (5, .int 300)]) hx hb dX6_measure_76 hl (k := 0) rfl (by decide) (by decide) rfl (fun ls hl => ?_)
  refine lv_goto (tgt := 60) hx hb dX6_measure_79 (by decide) ?_
  refine lv_iload hx hb dX6_measure_60 (lv_at hl 0 rfl) ?_
  refine lv_iload hx hb dX6_measure_62 (lv_at hl 2 rfl) ?_
  refine lv_icmp_gt (tgt := 82) hx hb dX6_measure_64 (by decide) (fun _ => ?_) (fun h => absurd (by decide) h)
  refine lv_iconst (v := 1) hx hb dX6_measure_82 (by decide) ?_
  refine lv_istore (lv' := [(9, .int 1), (8, .int 301), (7, .int 0), (6, .int 0), (0, .ref (b + 181)), (1, .ref (b + 4)), (2, .int 0), (3, .ref (b + 4)), (4, .int 0), (5, .int 300)]) hx hb dX6_measure_83 hl (by decide) rfl (fun ls hl => ?_)
  refine lv_iload hx hb dX6_measure_85 (lv_at hl 0 rfl) ?_
  refine lv_iload hx hb dX6_measure_87 (lv_at hl 3 rfl) ?_
  refine lv_icmp_gt (tgt := 127) hx hb dX6_measure_89 (by decide) (fun _ => ?_) (fun h => absurd (by decide) h)
  refine lv_aload_n hx hb dX6_measure_127 rfl (lv_at hl 4 rfl) ?_
  have h181_1 : f1 181 = .inr (6, [.ref (b + 182)]) := m_ne ef1 h181 (by decide)
  refine m_get fl_X6_9_X6 C hM (i := 181) (by decide) h181_1 (v := .ref (b + 182)) rfl dX6_measure_128 ?_
  refine lv_iload hx hb dX6_measure_131 (lv_at hl 2 rfl) ?_
  have h182_1 : f1 182 = .inl (kc 1, 301, .inl (upd (fun _ => 0) 0 0)) := m_eq ef1
  refine m_iald C hM (j := 182) (by decide) h182_1 (m_in (by decide)) dX6_measure_133 ?_
  refine m_vi (y := 0) (by decide) ?_
  refine lv_iload hx hb dX6_measure_134 (lv_at hl 1 rfl) ?_
  refine va_mmin hx hb (hml.trans hl.1.symm) hown (hts _ wd_930) (hts _ wd_522) (hts _ wd_91) (hts _ wd_523) (Nat.le_of_ble_eq_true rfl) (Nat.le_of_ble_eq_true rfl) (Nat.le_of_ble_eq_true rfl) (Nat.le_of_ble_eq_true rfl) dX6_measure_136 ?_
  refine m_vi (y := 0) (by decide) ?_
  exact m_iret C hr hlk hM (⟨rfl, rfl, by rw [ef1]⟩) dX6_measure_139
set_option maxHeartbeats 4000000 in
set_option maxRecDepth 100000 in
theorem a_X6_measure_2 (l : Launch) (D : va_G) (kc : Nat → ClassId) (b : Nat) (f : Nat → va_E) (h4 : f 4 = .inr (8, [.ref (b + 5), .int 0])) (h6 : f 6 = .inr (8, [.ref (b + 7), .int 0])) (h181 : f 181 = .inr (6, [.ref (b + 182)])) (h182 : f 182 = .inl (kc 1, 301, .inl (fun _ => 0))) : mMi l yX6_measure cX6_measure 10 .int 1 0 0 D kc b 220 f [.ref (b + 181), .ref (b + 4), .int 0, .ref (b + 6), .int 0, .int 300] (fun r u => r = 0 ∧ u.1 = 220 ∧ u.2 = va_up f 182 (.inl (kc 1, 301, .inl (upd (fun _ => 0) 0 0)))) := by
  refine m_start (by decide) (Nat.le_of_ble_eq_true rfl) ?_
  intro p e s m below meth c C hr hlk hnm hM ls hl
  obtain ⟨hx, hb, hml, hown, hts, hE, hbs⟩ := id C
  have hl : lv_has ls 10 [(0, .ref (b + 181)), (1, .ref (b + 4)), (2, .int 0), (3, .ref (b + 6)), (4, .int 0), (5, .int 300)] := hl
  refine lv_iconst (v := 0) hx hb dX6_measure_0 (by decide) ?_
  refine lv_aload_n hx hb dX6_measure_1 rfl (lv_at hl 1 rfl) ?_
  refine m_getN fl_X6_15_X8 C hM (i := 4) (by decide) h4 (v := .int 0) rfl dX6_measure_2 ?_
  refine lv_iload_n hx hb dX6_measure_5 rfl (lv_at hl 2 rfl) ?_
  refine lv_isub hx hb dX6_measure_6 ?_
  refine m_vi (y := 0) (by decide) ?_
  refine va_mmax hx hb (hml.trans hl.1.symm) hown (hts _ wd_921) (hts _ wd_519) (hts _ wd_91) (hts _ wd_520) (Nat.le_of_ble_eq_true rfl) (Nat.le_of_ble_eq_true rfl) (Nat.le_of_ble_eq_true rfl) (Nat.le_of_ble_eq_true rfl) dX6_measure_7 ?_
  refine m_vi (y := 0) (by decide) ?_
  refine lv_istore (lv' := [(6, .int 0), (0, .ref (b + 181)), (1, .ref (b + 4)), (2, .int 0), (3, .ref (b + 6)), (4, .int 0), (5, .int 300)]) hx hb dX6_measure_10 hl (by decide) rfl (fun ls hl => ?_)
  refine lv_iconst (v := 0) hx hb dX6_measure_12 (by decide) ?_
  refine lv_aload_n hx hb dX6_measure_13 rfl (lv_at hl 4 rfl) ?_
  refine m_getN fl_X6_15_X8 C hM (i := 6) (by decide) h6 (v := .int 0) rfl dX6_measure_14 ?_
  refine lv_iload hx hb dX6_measure_17 (lv_at hl 5 rfl) ?_
  refine lv_isub hx hb dX6_measure_19 ?_
  refine m_vi (y := 0) (by decide) ?_
  refine va_mmax hx hb (hml.trans hl.1.symm) hown (hts _ wd_921) (hts _ wd_519) (hts _ wd_91) (hts _ wd_520) (Nat.le_of_ble_eq_true rfl) (Nat.le_of_ble_eq_true rfl) (Nat.le_of_ble_eq_true rfl) (Nat.le_of_ble_eq_true rfl) dX6_measure_20 ?_
  refine m_vi (y := 0) (by decide) ?_
  refine lv_istore (lv' := [(7, .int 0), (6, .int 0), (0, .ref (b + 181)), (1, .ref (b + 4)), (2, .int 0), (3, .ref (b + 6)), (4, .int 0), (5, .int 300)]) hx hb dX6_measure_23 hl (by decide) rfl (fun ls hl => ?_)
  refine lv_iload hx hb dX6_measure_25 (lv_at hl 7 rfl) ?_
  refine lv_iconst (v := 1) hx hb dX6_measure_27 (by decide) ?_
  refine lv_iadd hx hb dX6_measure_28 ?_
  refine m_vi (y := 301) (by decide) ?_
  refine lv_istore (lv' := [(8, .int 301), (7, .int 0), (6, .int 0), (0, .ref (b + 181)), (1, .ref (b + 4)), (2, .int 0), (3, .ref (b + 6)), (4, .int 0), (5, .int 300)]) hx hb dX6_measure_29 hl (by decide) rfl (fun ls hl => ?_)
  refine lv_iload hx hb dX6_measure_31 (lv_at hl 2 rfl) ?_
  refine lv_iload hx hb dX6_measure_33 (lv_at hl 1 rfl) ?_
  refine lv_isub hx hb dX6_measure_35 ?_
  refine m_vi (y := 0) (by decide) ?_
  refine va_mabs hx hb (hml.trans hl.1.symm) hown (hts _ wd_922) (hts _ wd_923) (hts _ wd_91) (hts _ wd_924) (Nat.le_of_ble_eq_true rfl) (Nat.le_of_ble_eq_true rfl) (Nat.le_of_ble_eq_true rfl) (Nat.le_of_ble_eq_true rfl) dX6_measure_36 ?_
  refine m_vi (y := 0) (by decide) ?_
  refine lv_iload hx hb dX6_measure_39 (lv_at hl 8 rfl) ?_
  refine lv_icmp_gt (tgt := 54) hx hb dX6_measure_41 (by decide) (fun h => absurd h (by decide)) (fun _ => ?_)
  refine lv_iload hx hb dX6_measure_44 (lv_at hl 1 rfl) ?_
  refine lv_aload_n hx hb dX6_measure_46 rfl (lv_at hl 3 rfl) ?_
  refine m_get fl_X6_9_X6 C hM (i := 181) (by decide) h181 (v := .ref (b + 182)) rfl dX6_measure_47 ?_
  refine m_alen C hM (j := 182) (by decide) 1 h182 rfl (v := 301) rfl dX6_measure_50 ?_
  refine lv_icmp_lt (tgt := 57) hx hb dX6_measure_51 (by decide) (fun _ => ?_) (fun h => absurd (by decide) h)
  refine lv_iconst (v := 0) hx hb dX6_measure_57 (by decide) ?_
  refine lv_istore (lv' := [(9, .int 0), (8, .int 301), (7, .int 0), (6, .int 0), (0, .ref (b + 181)), (1, .ref (b + 4)), (2, .int 0), (3, .ref (b + 6)), (4, .int 0), (5, .int 300)]) hx hb dX6_measure_58 hl (by decide) rfl (fun ls hl => ?_)
  refine lv_iload hx hb dX6_measure_60 (lv_at hl 0 rfl) ?_
  refine lv_iload hx hb dX6_measure_62 (lv_at hl 2 rfl) ?_
  refine lv_icmp_gt (tgt := 82) hx hb dX6_measure_64 (by decide) (fun h => absurd h (by decide)) (fun _ => ?_)
  refine lv_aload_n hx hb dX6_measure_67 rfl (lv_at hl 4 rfl) ?_
  refine m_get fl_X6_9_X6 C hM (i := 181) (by decide) h181 (v := .ref (b + 182)) rfl dX6_measure_68 ?_
  refine lv_iload hx hb dX6_measure_71 (lv_at hl 0 rfl) ?_
  refine lv_iload hx hb dX6_measure_73 (lv_at hl 0 rfl) ?_
  refine m_iast C hM (j := 182) (by decide) h182 (m_in (by decide)) dX6_measure_75 (fun H locs f1 ef1 hM => ?_)
  have ef1 : f1 = va_up f 182 (.inl (kc 1, 301, .inl (upd (fun _ => 0) 0 0))) := ef1
  refine lv_iinc (v := 1) (lv' := [(9, .int 1), (8, .int 301), (7, .int 0), (6, .int 0), (0, .ref (b + 181)), (1, .ref (b + 4)), (2, .int 0), (3, .ref (b + 6)), (4, .int 0), (5, .int 300)]) hx hb dX6_measure_76 hl (k := 0) rfl (by decide) (by decide) rfl (fun ls hl => ?_)
  refine lv_goto (tgt := 60) hx hb dX6_measure_79 (by decide) ?_
  refine lv_iload hx hb dX6_measure_60 (lv_at hl 0 rfl) ?_
  refine lv_iload hx hb dX6_measure_62 (lv_at hl 2 rfl) ?_
  refine lv_icmp_gt (tgt := 82) hx hb dX6_measure_64 (by decide) (fun _ => ?_) (fun h => absurd (by decide) h)
  refine lv_iconst (v := 1) hx hb dX6_measure_82 (by decide) ?_
  refine lv_istore (lv' := [(9, .int 1), (8, .int 301), (7, .int 0), (6, .int 0), (0, .ref (b + 181)), (1, .ref (b + 4)), (2, .int 0), (3, .ref (b + 6)), (4, .int 0), (5, .int 300)]) hx hb dX6_measure_83 hl (by decide) rfl (fun ls hl => ?_)
  refine lv_iload hx hb dX6_measure_85 (lv_at hl 0 rfl) ?_
  refine lv_iload hx hb dX6_measure_87 (lv_at hl 3 rfl) ?_
  refine lv_icmp_gt (tgt := 127) hx hb dX6_measure_89 (by decide) (fun _ => ?_) (fun h => absurd (by decide) h)
  refine lv_aload_n hx hb dX6_measure_127 rfl (lv_at hl 4 rfl) ?_
  have h181_1 : f1 181 = .inr (6, [.ref (b + 182)]) := m_ne ef1 h181 (by decide)
  refine m_get fl_X6_9_X6 C hM (i := 181) (by decide) h181_1 (v := .ref (b + 182)) rfl dX6_measure_128 ?_
  refine lv_iload hx hb dX6_measure_131 (lv_at hl 2 rfl) ?_
  have h182_1 : f1 182 = .inl (kc 1, 301, .inl (upd (fun _ => 0) 0 0)) := m_eq ef1
  refine m_iald C hM (j := 182) (by decide) h182_1 (m_in (by decide)) dX6_measure_133 ?_
  refine m_vi (y := 0) (by decide) ?_
  refine lv_iload hx hb dX6_measure_134 (lv_at hl 1 rfl) ?_
  refine va_mmin hx hb (hml.trans hl.1.symm) hown (hts _ wd_930) (hts _ wd_522) (hts _ wd_91) (hts _ wd_523) (Nat.le_of_ble_eq_true rfl) (Nat.le_of_ble_eq_true rfl) (Nat.le_of_ble_eq_true rfl) (Nat.le_of_ble_eq_true rfl) dX6_measure_136 ?_
  refine m_vi (y := 0) (by decide) ?_
  exact m_iret C hr hlk hM (⟨rfl, rfl, by rw [ef1]⟩) dX6_measure_139
set_option maxHeartbeats 4000000 in
set_option maxRecDepth 100000 in
theorem a_X6_measure_3 (l : Launch) (D : va_G) (kc : Nat → ClassId) (b : Nat) (f : Nat → va_E) (h4 : f 4 = .inr (8, [.ref (b + 5), .int 0])) (h8 : f 8 = .inr (8, [.ref (b + 9), .int 0])) (h181 : f 181 = .inr (6, [.ref (b + 182)])) (h182 : f 182 = .inl (kc 1, 301, .inl (fun _ => 0))) : mMi l yX6_measure cX6_measure 10 .int 1 0 0 D kc b 220 f [.ref (b + 181), .ref (b + 4), .int 0, .ref (b + 8), .int 0, .int 300] (fun r u => r = 0 ∧ u.1 = 220 ∧ u.2 = va_up f 182 (.inl (kc 1, 301, .inl (upd (fun _ => 0) 0 0)))) := by
  refine m_start (by decide) (Nat.le_of_ble_eq_true rfl) ?_
  intro p e s m below meth c C hr hlk hnm hM ls hl
  obtain ⟨hx, hb, hml, hown, hts, hE, hbs⟩ := id C
  have hl : lv_has ls 10 [(0, .ref (b + 181)), (1, .ref (b + 4)), (2, .int 0), (3, .ref (b + 8)), (4, .int 0), (5, .int 300)] := hl
  refine lv_iconst (v := 0) hx hb dX6_measure_0 (by decide) ?_
  refine lv_aload_n hx hb dX6_measure_1 rfl (lv_at hl 1 rfl) ?_
  refine m_getN fl_X6_15_X8 C hM (i := 4) (by decide) h4 (v := .int 0) rfl dX6_measure_2 ?_
  refine lv_iload_n hx hb dX6_measure_5 rfl (lv_at hl 2 rfl) ?_
  refine lv_isub hx hb dX6_measure_6 ?_
  refine m_vi (y := 0) (by decide) ?_
  refine va_mmax hx hb (hml.trans hl.1.symm) hown (hts _ wd_921) (hts _ wd_519) (hts _ wd_91) (hts _ wd_520) (Nat.le_of_ble_eq_true rfl) (Nat.le_of_ble_eq_true rfl) (Nat.le_of_ble_eq_true rfl) (Nat.le_of_ble_eq_true rfl) dX6_measure_7 ?_
  refine m_vi (y := 0) (by decide) ?_
  refine lv_istore (lv' := [(6, .int 0), (0, .ref (b + 181)), (1, .ref (b + 4)), (2, .int 0), (3, .ref (b + 8)), (4, .int 0), (5, .int 300)]) hx hb dX6_measure_10 hl (by decide) rfl (fun ls hl => ?_)
  refine lv_iconst (v := 0) hx hb dX6_measure_12 (by decide) ?_
  refine lv_aload_n hx hb dX6_measure_13 rfl (lv_at hl 4 rfl) ?_
  refine m_getN fl_X6_15_X8 C hM (i := 8) (by decide) h8 (v := .int 0) rfl dX6_measure_14 ?_
  refine lv_iload hx hb dX6_measure_17 (lv_at hl 5 rfl) ?_
  refine lv_isub hx hb dX6_measure_19 ?_
  refine m_vi (y := 0) (by decide) ?_
  refine va_mmax hx hb (hml.trans hl.1.symm) hown (hts _ wd_921) (hts _ wd_519) (hts _ wd_91) (hts _ wd_520) (Nat.le_of_ble_eq_true rfl) (Nat.le_of_ble_eq_true rfl) (Nat.le_of_ble_eq_true rfl) (Nat.le_of_ble_eq_true rfl) dX6_measure_20 ?_
  refine m_vi (y := 0) (by decide) ?_
  refine lv_istore (lv' := [(7, .int 0), (6, .int 0), (0, .ref (b + 181)), (1, .ref (b + 4)), (2, .int 0), (3, .ref (b + 8)), (4, .int 0), (5, .int 300)]) hx hb dX6_measure_23 hl (by decide) rfl (fun ls hl => ?_)
  refine lv_iload hx hb dX6_measure_25 (lv_at hl 7 rfl) ?_
  refine lv_iconst (v := 1) hx hb dX6_measure_27 (by decide) ?_
  refine lv_iadd hx hb dX6_measure_28 ?_
  refine m_vi (y := 301) (by decide) ?_
  refine lv_istore (lv' := [(8, .int 301), (7, .int 0), (6, .int 0), (0, .ref (b + 181)), (1, .ref (b + 4)), (2, .int 0), (3, .ref (b + 8)), (4, .int 0), (5, .int 300)]) hx hb dX6_measure_29 hl (by decide) rfl (fun ls hl => ?_)
  refine lv_iload hx hb dX6_measure_31 (lv_at hl 2 rfl) ?_
  refine lv_iload hx hb dX6_measure_33 (lv_at hl 1 rfl) ?_
  refine lv_isub hx hb dX6_measure_35 ?_
  refine m_vi (y := 0) (by decide) ?_
  refine va_mabs hx hb (hml.trans hl.1.symm) hown (hts _ wd_922) (hts _ wd_923) (hts _ wd_91) (hts _ wd_924) (Nat.le_of_ble_eq_true rfl) (Nat.le_of_ble_eq_true rfl) (Nat.le_of_ble_eq_true rfl) (Nat.le_of_ble_eq_true rfl) dX6_measure_36 ?_
  refine m_vi (y := 0) (by decide) ?_
  refine lv_iload hx hb dX6_measure_39 (lv_at hl 8 rfl) ?_
  refine lv_icmp_gt (tgt := 54) hx hb dX6_measure_41 (by decide) (fun h => absurd h (by decide)) (fun _ => ?_)
  refine lv_iload hx hb dX6_measure_44 (lv_at hl 1 rfl) ?_
  refine lv_aload_n hx hb dX6_measure_46 rfl (lv_at hl 3 rfl) ?_
  refine m_get fl_X6_9_X6 C hM (i := 181) (by decide) h181 (v := .ref (b + 182)) rfl dX6_measure_47 ?_
  refine m_alen C hM (j := 182) (by decide) 1 h182 rfl (v := 301) rfl dX6_measure_50 ?_
  refine lv_icmp_lt (tgt := 57) hx hb dX6_measure_51 (by decide) (fun _ => ?_) (fun h => absurd (by decide) h)
  refine lv_iconst (v := 0) hx hb dX6_measure_57 (by decide) ?_
  refine lv_istore (lv' := [(9, .int 0), (8, .int 301), (7, .int 0), (6, .int 0), (0, .ref (b + 181)), (1, .ref (b + 4)), (2, .int 0), (3, .ref (b + 8)), (4, .int 0), (5, .int 300)]) hx hb dX6_measure_58 hl (by decide) rfl (fun ls hl => ?_)
  refine lv_iload hx hb dX6_measure_60 (lv_at hl 0 rfl) ?_
  refine lv_iload hx hb dX6_measure_62 (lv_at hl 2 rfl) ?_
  refine lv_icmp_gt (tgt := 82) hx hb dX6_measure_64 (by decide) (fun h => absurd h (by decide)) (fun _ => ?_)
  refine lv_aload_n hx hb dX6_measure_67 rfl (lv_at hl 4 rfl) ?_
  refine m_get fl_X6_9_X6 C hM (i := 181) (by decide) h181 (v := .ref (b + 182)) rfl dX6_measure_68 ?_
  refine lv_iload hx hb dX6_measure_71 (lv_at hl 0 rfl) ?_
  refine lv_iload hx hb dX6_measure_73 (lv_at hl 0 rfl) ?_
  refine m_iast C hM (j := 182) (by decide) h182 (m_in (by decide)) dX6_measure_75 (fun H locs f1 ef1 hM => ?_)
  have ef1 : f1 = va_up f 182 (.inl (kc 1, 301, .inl (upd (fun _ => 0) 0 0))) := ef1
  refine lv_iinc (v := 1) (lv' := [(9, .int 1), (8, .int 301), (7, .int 0), (6, .int 0), (0, .ref (b + 181)), (1, .ref (b + 4)), (2, .int 0), (3, .ref (b + 8)), (4, .int 0), (5, .int 300)]) hx hb dX6_measure_76 hl (k := 0) rfl (by decide) (by decide) rfl (fun ls hl => ?_)
  refine lv_goto (tgt := 60) hx hb dX6_measure_79 (by decide) ?_
  refine lv_iload hx hb dX6_measure_60 (lv_at hl 0 rfl) ?_
  refine lv_iload hx hb dX6_measure_62 (lv_at hl 2 rfl) ?_
  refine lv_icmp_gt (tgt := 82) hx hb dX6_measure_64 (by decide) (fun _ => ?_) (fun h => absurd (by decide) h)
  refine lv_iconst (v := 1) hx hb dX6_measure_82 (by decide) ?_
  refine lv_istore (lv' := [(9, .int 1), (8, .int 301), (7, .int 0), (6, .int 0), (0, .ref (b + 181)), (1, .ref (b + 4)), (2, .int 0), (3, .ref (b + 8)), (4, .int 0), (5, .int 300)]) hx hb dX6_measure_83 hl (by decide) rfl (fun ls hl => ?_)
  refine lv_iload hx hb dX6_measure_85 (lv_at hl 0 rfl) ?_
  refine lv_iload hx hb dX6_measure_87 (lv_at hl 3 rfl) ?_
  refine lv_icmp_gt (tgt := 127) hx hb dX6_measure_89 (by decide) (fun _ => ?_) (fun h => absurd (by decide) h)
  refine lv_aload_n hx hb dX6_measure_127 rfl (lv_at hl 4 rfl) ?_
  have h181_1 : f1 181 = .inr (6, [.ref (b + 182)]) := m_ne ef1 h181 (by decide)
  refine m_get fl_X6_9_X6 C hM (i := 181) (by decide) h181_1 (v := .ref (b + 182)) rfl dX6_measure_128 ?_
  refine lv_iload hx hb dX6_measure_131 (lv_at hl 2 rfl) ?_
  have h182_1 : f1 182 = .inl (kc 1, 301, .inl (upd (fun _ => 0) 0 0)) := m_eq ef1
  refine m_iald C hM (j := 182) (by decide) h182_1 (m_in (by decide)) dX6_measure_133 ?_
  refine m_vi (y := 0) (by decide) ?_
  refine lv_iload hx hb dX6_measure_134 (lv_at hl 1 rfl) ?_
  refine va_mmin hx hb (hml.trans hl.1.symm) hown (hts _ wd_930) (hts _ wd_522) (hts _ wd_91) (hts _ wd_523) (Nat.le_of_ble_eq_true rfl) (Nat.le_of_ble_eq_true rfl) (Nat.le_of_ble_eq_true rfl) (Nat.le_of_ble_eq_true rfl) dX6_measure_136 ?_
  refine m_vi (y := 0) (by decide) ?_
  exact m_iret C hr hlk hM (⟨rfl, rfl, by rw [ef1]⟩) dX6_measure_139
set_option maxHeartbeats 4000000 in
set_option maxRecDepth 100000 in
theorem a_X6_measure_4 (l : Launch) (D : va_G) (kc : Nat → ClassId) (b : Nat) (f : Nat → va_E) (h6 : f 6 = .inr (8, [.ref (b + 7), .int 0])) (h4 : f 4 = .inr (8, [.ref (b + 5), .int 0])) (h181 : f 181 = .inr (6, [.ref (b + 182)])) (h182 : f 182 = .inl (kc 1, 301, .inl (fun _ => 0))) : mMi l yX6_measure cX6_measure 10 .int 1 0 0 D kc b 220 f [.ref (b + 181), .ref (b + 6), .int 0, .ref (b + 4), .int 0, .int 300] (fun r u => r = 0 ∧ u.1 = 220 ∧ u.2 = va_up f 182 (.inl (kc 1, 301, .inl (upd (fun _ => 0) 0 0)))) := by
  refine m_start (by decide) (Nat.le_of_ble_eq_true rfl) ?_
  intro p e s m below meth c C hr hlk hnm hM ls hl
  obtain ⟨hx, hb, hml, hown, hts, hE, hbs⟩ := id C
  have hl : lv_has ls 10 [(0, .ref (b + 181)), (1, .ref (b + 6)), (2, .int 0), (3, .ref (b + 4)), (4, .int 0), (5, .int 300)] := hl
  refine lv_iconst (v := 0) hx hb dX6_measure_0 (by decide) ?_
  refine lv_aload_n hx hb dX6_measure_1 rfl (lv_at hl 1 rfl) ?_
  refine m_getN fl_X6_15_X8 C hM (i := 6) (by decide) h6 (v := .int 0) rfl dX6_measure_2 ?_
  refine lv_iload_n hx hb dX6_measure_5 rfl (lv_at hl 2 rfl) ?_
  refine lv_isub hx hb dX6_measure_6 ?_
  refine m_vi (y := 0) (by decide) ?_
  refine va_mmax hx hb (hml.trans hl.1.symm) hown (hts _ wd_921) (hts _ wd_519) (hts _ wd_91) (hts _ wd_520) (Nat.le_of_ble_eq_true rfl) (Nat.le_of_ble_eq_true rfl) (Nat.le_of_ble_eq_true rfl) (Nat.le_of_ble_eq_true rfl) dX6_measure_7 ?_
  refine m_vi (y := 0) (by decide) ?_
  refine lv_istore (lv' := [(6, .int 0), (0, .ref (b + 181)), (1, .ref (b + 6)), (2, .int 0), (3, .ref (b + 4)), (4, .int 0), (5, .int 300)]) hx hb dX6_measure_10 hl (by decide) rfl (fun ls hl => ?_)
  refine lv_iconst (v := 0) hx hb dX6_measure_12 (by decide) ?_
  refine lv_aload_n hx hb dX6_measure_13 rfl (lv_at hl 4 rfl) ?_
  refine m_getN fl_X6_15_X8 C hM (i := 4) (by decide) h4 (v := .int 0) rfl dX6_measure_14 ?_
  refine lv_iload hx hb dX6_measure_17 (lv_at hl 5 rfl) ?_
  refine lv_isub hx hb dX6_measure_19 ?_
  refine m_vi (y := 0) (by decide) ?_
  refine va_mmax hx hb (hml.trans hl.1.symm) hown (hts _ wd_921) (hts _ wd_519) (hts _ wd_91) (hts _ wd_520) (Nat.le_of_ble_eq_true rfl) (Nat.le_of_ble_eq_true rfl) (Nat.le_of_ble_eq_true rfl) (Nat.le_of_ble_eq_true rfl) dX6_measure_20 ?_
  refine m_vi (y := 0) (by decide) ?_
  refine lv_istore (lv' := [(7, .int 0), (6, .int 0), (0, .ref (b + 181)), (1, .ref (b + 6)), (2, .int 0), (3, .ref (b + 4)), (4, .int 0), (5, .int 300)]) hx hb dX6_measure_23 hl (by decide) rfl (fun ls hl => ?_)
  refine lv_iload hx hb dX6_measure_25 (lv_at hl 7 rfl) ?_
  refine lv_iconst (v := 1) hx hb dX6_measure_27 (by decide) ?_
  refine lv_iadd hx hb dX6_measure_28 ?_
  refine m_vi (y := 301) (by decide) ?_
  refine lv_istore (lv' := [(8, .int 301), (7, .int 0), (6, .int 0), (0, .ref (b + 181)), (1, .ref (b + 6)), (2, .int 0), (3, .ref (b + 4)), (4, .int 0), (5, .int 300)]) hx hb dX6_measure_29 hl (by decide) rfl (fun ls hl => ?_)
  refine lv_iload hx hb dX6_measure_31 (lv_at hl 2 rfl) ?_
  refine lv_iload hx hb dX6_measure_33 (lv_at hl 1 rfl) ?_
  refine lv_isub hx hb dX6_measure_35 ?_
  refine m_vi (y := 0) (by decide) ?_
  refine va_mabs hx hb (hml.trans hl.1.symm) hown (hts _ wd_922) (hts _ wd_923) (hts _ wd_91) (hts _ wd_924) (Nat.le_of_ble_eq_true rfl) (Nat.le_of_ble_eq_true rfl) (Nat.le_of_ble_eq_true rfl) (Nat.le_of_ble_eq_true rfl) dX6_measure_36 ?_
  refine m_vi (y := 0) (by decide) ?_
  refine lv_iload hx hb dX6_measure_39 (lv_at hl 8 rfl) ?_
  refine lv_icmp_gt (tgt := 54) hx hb dX6_measure_41 (by decide) (fun h => absurd h (by decide)) (fun _ => ?_)
  refine lv_iload hx hb dX6_measure_44 (lv_at hl 1 rfl) ?_
  refine lv_aload_n hx hb dX6_measure_46 rfl (lv_at hl 3 rfl) ?_
  refine m_get fl_X6_9_X6 C hM (i := 181) (by decide) h181 (v := .ref (b + 182)) rfl dX6_measure_47 ?_
  refine m_alen C hM (j := 182) (by decide) 1 h182 rfl (v := 301) rfl dX6_measure_50 ?_
  refine lv_icmp_lt (tgt := 57) hx hb dX6_measure_51 (by decide) (fun _ => ?_) (fun h => absurd (by decide) h)
  refine lv_iconst (v := 0) hx hb dX6_measure_57 (by decide) ?_
  refine lv_istore (lv' := [(9, .int 0), (8, .int 301), (7, .int 0), (6, .int 0), (0, .ref (b + 181)), (1, .ref (b + 6)), (2, .int 0), (3, .ref (b + 4)), (4, .int 0), (5, .int 300)]) hx hb dX6_measure_58 hl (by decide) rfl (fun ls hl => ?_)
  refine lv_iload hx hb dX6_measure_60 (lv_at hl 0 rfl) ?_
  refine lv_iload hx hb dX6_measure_62 (lv_at hl 2 rfl) ?_
  refine lv_icmp_gt (tgt := 82) hx hb dX6_measure_64 (by decide) (fun h => absurd h (by decide)) (fun _ => ?_)
  refine lv_aload_n hx hb dX6_measure_67 rfl (lv_at hl 4 rfl) ?_
  refine m_get fl_X6_9_X6 C hM (i := 181) (by decide) h181 (v := .ref (b + 182)) rfl dX6_measure_68 ?_
  refine lv_iload hx hb dX6_measure_71 (lv_at hl 0 rfl) ?_
  refine lv_iload hx hb dX6_measure_73 (lv_at hl 0 rfl) ?_
  refine m_iast C hM (j := 182) (by decide) h182 (m_in (by decide)) dX6_measure_75 (fun H locs f1 ef1 hM => ?_)
  have ef1 : f1 = va_up f 182 (.inl (kc 1, 301, .inl (upd (fun _ => 0) 0 0))) := ef1
  refine lv_iinc (v := 1) (lv' := [(9, .int 1), (8, .int 301), (7, .int 0), (6, .int 0), (0, .ref (b + 181)), (1, .ref (b + 6)), (2, .int 0), (3, .ref (b + 4)), (4, .int 0), (5, .int 300)]) hx hb dX6_measure_76 hl (k := 0) rfl (by decide) (by decide) rfl (fun ls hl => ?_)
  refine lv_goto (tgt := 60) hx hb dX6_measure_79 (by decide) ?_
  refine lv_iload hx hb dX6_measure_60 (lv_at hl 0 rfl) ?_
  refine lv_iload hx hb dX6_measure_62 (lv_at hl 2 rfl) ?_
  refine lv_icmp_gt (tgt := 82) hx hb dX6_measure_64 (by decide) (fun _ => ?_) (fun h => absurd (by decide) h)
  refine lv_iconst (v := 1) hx hb dX6_measure_82 (by decide) ?_
  refine lv_istore (lv' := [(9, .int 1), (8, .int 301), (7, .int 0), (6, .int 0), (0, .ref (b + 181)), (1, .ref (b + 6)), (2, .int 0), (3, .ref (b + 4)), (4, .int 0), (5, .int 300)]) hx hb dX6_measure_83 hl (by decide) rfl (fun ls hl => ?_)
  refine lv_iload hx hb dX6_measure_85 (lv_at hl 0 rfl) ?_
  refine lv_iload hx hb dX6_measure_87 (lv_at hl 3 rfl) ?_
  refine lv_icmp_gt (tgt := 127) hx hb dX6_measure_89 (by decide) (fun _ => ?_) (fun h => absurd (by decide) h)
  refine lv_aload_n hx hb dX6_measure_127 rfl (lv_at hl 4 rfl) ?_
  have h181_1 : f1 181 = .inr (6, [.ref (b + 182)]) := m_ne ef1 h181 (by decide)
  refine m_get fl_X6_9_X6 C hM (i := 181) (by decide) h181_1 (v := .ref (b + 182)) rfl dX6_measure_128 ?_
  refine lv_iload hx hb dX6_measure_131 (lv_at hl 2 rfl) ?_
  have h182_1 : f1 182 = .inl (kc 1, 301, .inl (upd (fun _ => 0) 0 0)) := m_eq ef1
  refine m_iald C hM (j := 182) (by decide) h182_1 (m_in (by decide)) dX6_measure_133 ?_
  refine m_vi (y := 0) (by decide) ?_
  refine lv_iload hx hb dX6_measure_134 (lv_at hl 1 rfl) ?_
  refine va_mmin hx hb (hml.trans hl.1.symm) hown (hts _ wd_930) (hts _ wd_522) (hts _ wd_91) (hts _ wd_523) (Nat.le_of_ble_eq_true rfl) (Nat.le_of_ble_eq_true rfl) (Nat.le_of_ble_eq_true rfl) (Nat.le_of_ble_eq_true rfl) dX6_measure_136 ?_
  refine m_vi (y := 0) (by decide) ?_
  exact m_iret C hr hlk hM (⟨rfl, rfl, by rw [ef1]⟩) dX6_measure_139
set_option maxHeartbeats 4000000 in
set_option maxRecDepth 100000 in
theorem a_X6_measure_5 (l : Launch) (D : va_G) (kc : Nat → ClassId) (b : Nat) (f : Nat → va_E) (h6 : f 6 = .inr (8, [.ref (b + 7), .int 0])) (h181 : f 181 = .inr (6, [.ref (b + 182)])) (h182 : f 182 = .inl (kc 1, 301, .inl (fun _ => 0))) : mMi l yX6_measure cX6_measure 10 .int 1 0 0 D kc b 220 f [.ref (b + 181), .ref (b + 6), .int 0, .ref (b + 6), .int 0, .int 300] (fun r u => r = 0 ∧ u.1 = 220 ∧ u.2 = va_up f 182 (.inl (kc 1, 301, .inl (upd (fun _ => 0) 0 0)))) := by
  refine m_start (by decide) (Nat.le_of_ble_eq_true rfl) ?_
  intro p e s m below meth c C hr hlk hnm hM ls hl
  obtain ⟨hx, hb, hml, hown, hts, hE, hbs⟩ := id C
  have hl : lv_has ls 10 [(0, .ref (b + 181)), (1, .ref (b + 6)), (2, .int 0), (3, .ref (b + 6)), (4, .int 0), (5, .int 300)] := hl
  refine lv_iconst (v := 0) hx hb dX6_measure_0 (by decide) ?_
  refine lv_aload_n hx hb dX6_measure_1 rfl (lv_at hl 1 rfl) ?_
  refine m_getN fl_X6_15_X8 C hM (i := 6) (by decide) h6 (v := .int 0) rfl dX6_measure_2 ?_
  refine lv_iload_n hx hb dX6_measure_5 rfl (lv_at hl 2 rfl) ?_
  refine lv_isub hx hb dX6_measure_6 ?_
  refine m_vi (y := 0) (by decide) ?_
  refine va_mmax hx hb (hml.trans hl.1.symm) hown (hts _ wd_921) (hts _ wd_519) (hts _ wd_91) (hts _ wd_520) (Nat.le_of_ble_eq_true rfl) (Nat.le_of_ble_eq_true rfl) (Nat.le_of_ble_eq_true rfl) (Nat.le_of_ble_eq_true rfl) dX6_measure_7 ?_
  refine m_vi (y := 0) (by decide) ?_
  refine lv_istore (lv' := [(6, .int 0), (0, .ref (b + 181)), (1, .ref (b + 6)), (2, .int 0), (3, .ref (b + 6)), (4, .int 0), (5, .int 300)]) hx hb dX6_measure_10 hl (by decide) rfl (fun ls hl => ?_)
  refine lv_iconst (v := 0) hx hb dX6_measure_12 (by decide) ?_
  refine lv_aload_n hx hb dX6_measure_13 rfl (lv_at hl 4 rfl) ?_
  refine m_getN fl_X6_15_X8 C hM (i := 6) (by decide) h6 (v := .int 0) rfl dX6_measure_14 ?_
  refine lv_iload hx hb dX6_measure_17 (lv_at hl 5 rfl) ?_
  refine lv_isub hx hb dX6_measure_19 ?_
  refine m_vi (y := 0) (by decide) ?_
  refine va_mmax hx hb (hml.trans hl.1.symm) hown (hts _ wd_921) (hts _ wd_519) (hts _ wd_91) (hts _ wd_520) (Nat.le_of_ble_eq_true rfl) (Nat.le_of_ble_eq_true rfl) (Nat.le_of_ble_eq_true rfl) (Nat.le_of_ble_eq_true rfl) dX6_measure_20 ?_
  refine m_vi (y := 0) (by decide) ?_
  refine lv_istore (lv' := [(7, .int 0), (6, .int 0), (0, .ref (b + 181)), (1, .ref (b + 6)), (2, .int 0), (3, .ref (b + 6)), (4, .int 0), (5, .int 300)]) hx hb dX6_measure_23 hl (by decide) rfl (fun ls hl => ?_)
  refine lv_iload hx hb dX6_measure_25 (lv_at hl 7 rfl) ?_
  refine lv_iconst (v := 1) hx hb dX6_measure_27 (by decide) ?_
  refine lv_iadd hx hb dX6_measure_28 ?_
  refine m_vi (y := 301) (by decide) ?_
  refine lv_istore (lv' := [(8, .int 301), (7, .int 0), (6, .int 0), (0, .ref (b + 181)), (1, .ref (b + 6)), (2, .int 0), (3, .ref (b + 6)), (4, .int 0), (5, .int 300)]) hx hb dX6_measure_29 hl (by decide) rfl (fun ls hl => ?_)
  refine lv_iload hx hb dX6_measure_31 (lv_at hl 2 rfl) ?_
  refine lv_iload hx hb dX6_measure_33 (lv_at hl 1 rfl) ?_
  refine lv_isub hx hb dX6_measure_35 ?_
  refine m_vi (y := 0) (by decide) ?_
  refine va_mabs hx hb (hml.trans hl.1.symm) hown (hts _ wd_922) (hts _ wd_923) (hts _ wd_91) (hts _ wd_924) (Nat.le_of_ble_eq_true rfl) (Nat.le_of_ble_eq_true rfl) (Nat.le_of_ble_eq_true rfl) (Nat.le_of_ble_eq_true rfl) dX6_measure_36 ?_
  refine m_vi (y := 0) (by decide) ?_
  refine lv_iload hx hb dX6_measure_39 (lv_at hl 8 rfl) ?_
  refine lv_icmp_gt (tgt := 54) hx hb dX6_measure_41 (by decide) (fun h => absurd h (by decide)) (fun _ => ?_)
  refine lv_iload hx hb dX6_measure_44 (lv_at hl 1 rfl) ?_
  refine lv_aload_n hx hb dX6_measure_46 rfl (lv_at hl 3 rfl) ?_
  refine m_get fl_X6_9_X6 C hM (i := 181) (by decide) h181 (v := .ref (b + 182)) rfl dX6_measure_47 ?_
  refine m_alen C hM (j := 182) (by decide) 1 h182 rfl (v := 301) rfl dX6_measure_50 ?_
  refine lv_icmp_lt (tgt := 57) hx hb dX6_measure_51 (by decide) (fun _ => ?_) (fun h => absurd (by decide) h)
  refine lv_iconst (v := 0) hx hb dX6_measure_57 (by decide) ?_
  refine lv_istore (lv' := [(9, .int 0), (8, .int 301), (7, .int 0), (6, .int 0), (0, .ref (b + 181)), (1, .ref (b + 6)), (2, .int 0), (3, .ref (b + 6)), (4, .int 0), (5, .int 300)]) hx hb dX6_measure_58 hl (by decide) rfl (fun ls hl => ?_)
  refine lv_iload hx hb dX6_measure_60 (lv_at hl 0 rfl) ?_
  refine lv_iload hx hb dX6_measure_62 (lv_at hl 2 rfl) ?_
  refine lv_icmp_gt (tgt := 82) hx hb dX6_measure_64 (by decide) (fun h => absurd h (by decide)) (fun _ => ?_)
  refine lv_aload_n hx hb dX6_measure_67 rfl (lv_at hl 4 rfl) ?_
  refine m_get fl_X6_9_X6 C hM (i := 181) (by decide) h181 (v := .ref (b + 182)) rfl dX6_measure_68 ?_
  refine lv_iload hx hb dX6_measure_71 (lv_at hl 0 rfl) ?_
  refine lv_iload hx hb dX6_measure_73 (lv_at hl 0 rfl) ?_
  refine m_iast C hM (j := 182) (by decide) h182 (m_in (by decide)) dX6_measure_75 (fun H locs f1 ef1 hM => ?_)
  have ef1 : f1 = va_up f 182 (.inl (kc 1, 301, .inl (upd (fun _ => 0) 0 0))) := ef1
  refine lv_iinc (v := 1) (lv' := [(9, .int 1), (8, .int 301), (7, .int 0), (6, .int 0), (0, .ref (b + 181)), (1, .ref (b + 6)), (2, .int 0), (3, .ref (b + 6)), (4, .int 0), (5, .int 300)]) hx hb dX6_measure_76 hl (k := 0) rfl (by decide) (by decide) rfl (fun ls hl => ?_)
  refine lv_goto (tgt := 60) hx hb dX6_measure_79 (by decide) ?_
  refine lv_iload hx hb dX6_measure_60 (lv_at hl 0 rfl) ?_
  refine lv_iload hx hb dX6_measure_62 (lv_at hl 2 rfl) ?_
  refine lv_icmp_gt (tgt := 82) hx hb dX6_measure_64 (by decide) (fun _ => ?_) (fun h => absurd (by decide) h)
  refine lv_iconst (v := 1) hx hb dX6_measure_82 (by decide) ?_
  refine lv_istore (lv' := [(9, .int 1), (8, .int 301), (7, .int 0), (6, .int 0), (0, .ref (b + 181)), (1, .ref (b + 6)), (2, .int 0), (3, .ref (b + 6)), (4, .int 0), (5, .int 300)]) hx hb dX6_measure_83 hl (by decide) rfl (fun ls hl => ?_)
  refine lv_iload hx hb dX6_measure_85 (lv_at hl 0 rfl) ?_
  refine lv_iload hx hb dX6_measure_87 (lv_at hl 3 rfl) ?_
  refine lv_icmp_gt (tgt := 127) hx hb dX6_measure_89 (by decide) (fun _ => ?_) (fun h => absurd (by decide) h)
  refine lv_aload_n hx hb dX6_measure_127 rfl (lv_at hl 4 rfl) ?_
  have h181_1 : f1 181 = .inr (6, [.ref (b + 182)]) := m_ne ef1 h181 (by decide)
  refine m_get fl_X6_9_X6 C hM (i := 181) (by decide) h181_1 (v := .ref (b + 182)) rfl dX6_measure_128 ?_
  refine lv_iload hx hb dX6_measure_131 (lv_at hl 2 rfl) ?_
  have h182_1 : f1 182 = .inl (kc 1, 301, .inl (upd (fun _ => 0) 0 0)) := m_eq ef1
  refine m_iald C hM (j := 182) (by decide) h182_1 (m_in (by decide)) dX6_measure_133 ?_
  refine m_vi (y := 0) (by decide) ?_
  refine lv_iload hx hb dX6_measure_134 (lv_at hl 1 rfl) ?_
  refine va_mmin hx hb (hml.trans hl.1.symm) hown (hts _ wd_930) (hts _ wd_522) (hts _ wd_91) (hts _ wd_523) (Nat.le_of_ble_eq_true rfl) (Nat.le_of_ble_eq_true rfl) (Nat.le_of_ble_eq_true rfl) (Nat.le_of_ble_eq_true rfl) dX6_measure_136 ?_
  refine m_vi (y := 0) (by decide) ?_
  exact m_iret C hr hlk hM (⟨rfl, rfl, by rw [ef1]⟩) dX6_measure_139
set_option maxHeartbeats 4000000 in
set_option maxRecDepth 100000 in
theorem a_X6_measure_6 (l : Launch) (D : va_G) (kc : Nat → ClassId) (b : Nat) (f : Nat → va_E) (h6 : f 6 = .inr (8, [.ref (b + 7), .int 0])) (h8 : f 8 = .inr (8, [.ref (b + 9), .int 0])) (h181 : f 181 = .inr (6, [.ref (b + 182)])) (h182 : f 182 = .inl (kc 1, 301, .inl (fun _ => 0))) : mMi l yX6_measure cX6_measure 10 .int 1 0 0 D kc b 220 f [.ref (b + 181), .ref (b + 6), .int 0, .ref (b + 8), .int 0, .int 300] (fun r u => r = 0 ∧ u.1 = 220 ∧ u.2 = va_up f 182 (.inl (kc 1, 301, .inl (upd (fun _ => 0) 0 0)))) := by
  refine m_start (by decide) (Nat.le_of_ble_eq_true rfl) ?_
  intro p e s m below meth c C hr hlk hnm hM ls hl
  obtain ⟨hx, hb, hml, hown, hts, hE, hbs⟩ := id C
  have hl : lv_has ls 10 [(0, .ref (b + 181)), (1, .ref (b + 6)), (2, .int 0), (3, .ref (b + 8)), (4, .int 0), (5, .int 300)] := hl
  refine lv_iconst (v := 0) hx hb dX6_measure_0 (by decide) ?_
  refine lv_aload_n hx hb dX6_measure_1 rfl (lv_at hl 1 rfl) ?_
  refine m_getN fl_X6_15_X8 C hM (i := 6) (by decide) h6 (v := .int 0) rfl dX6_measure_2 ?_
  refine lv_iload_n hx hb dX6_measure_5 rfl (lv_at hl 2 rfl) ?_
  refine lv_isub hx hb dX6_measure_6 ?_
  refine m_vi (y := 0) (by decide) ?_
  refine va_mmax hx hb (hml.trans hl.1.symm) hown (hts _ wd_921) (hts _ wd_519) (hts _ wd_91) (hts _ wd_520) (Nat.le_of_ble_eq_true rfl) (Nat.le_of_ble_eq_true rfl) (Nat.le_of_ble_eq_true rfl) (Nat.le_of_ble_eq_true rfl) dX6_measure_7 ?_
  refine m_vi (y := 0) (by decide) ?_
  refine lv_istore (lv' := [(6, .int 0), (0, .ref (b + 181)), (1, .ref (b + 6)), (2, .int 0), (3, .ref (b + 8)), (4, .int 0), (5, .int 300)]) hx hb dX6_measure_10 hl (by decide) rfl (fun ls hl => ?_)
  refine lv_iconst (v := 0) hx hb dX6_measure_12 (by decide) ?_
  refine lv_aload_n hx hb dX6_measure_13 rfl (lv_at hl 4 rfl) ?_
  refine m_getN fl_X6_15_X8 C hM (i := 8) (by decide) h8 (v := .int 0) rfl dX6_measure_14 ?_
  refine lv_iload hx hb dX6_measure_17 (lv_at hl 5 rfl) ?_
  refine lv_isub hx hb dX6_measure_19 ?_
  refine m_vi (y := 0) (by decide) ?_
  refine va_mmax hx hb (hml.trans hl.1.symm) hown (hts _ wd_921) (hts _ wd_519) (hts _ wd_91) (hts _ wd_520) (Nat.le_of_ble_eq_true rfl) (Nat.le_of_ble_eq_true rfl) (Nat.le_of_ble_eq_true rfl) (Nat.le_of_ble_eq_true rfl) dX6_measure_20 ?_
  refine m_vi (y := 0) (by decide) ?_
  refine lv_istore (lv' := [(7, .int 0), (6, .int 0), (0, .ref (b + 181)), (1, .ref (b + 6)), (2, .int 0), (3, .ref (b + 8)), (4, .int 0), (5, .int 300)]) hx hb dX6_measure_23 hl (by decide) rfl (fun ls hl => ?_)
  refine lv_iload hx hb dX6_measure_25 (lv_at hl 7 rfl) ?_
  refine lv_iconst (v := 1) hx hb dX6_measure_27 (by decide) ?_
  refine lv_iadd hx hb dX6_measure_28 ?_
  refine m_vi (y := 301) (by decide) ?_
  refine lv_istore (lv' := [(8, .int 301), (7, .int 0), (6, .int 0), (0, .ref (b + 181)), (1, .ref (b + 6)), (2, .int 0), (3, .ref (b + 8)), (4, .int 0), (5, .int 300)]) hx hb dX6_measure_29 hl (by decide) rfl (fun ls hl => ?_)
  refine lv_iload hx hb dX6_measure_31 (lv_at hl 2 rfl) ?_
  refine lv_iload hx hb dX6_measure_33 (lv_at hl 1 rfl) ?_
  refine lv_isub hx hb dX6_measure_35 ?_
  refine m_vi (y := 0) (by decide) ?_
  refine va_mabs hx hb (hml.trans hl.1.symm) hown (hts _ wd_922) (hts _ wd_923) (hts _ wd_91) (hts _ wd_924) (Nat.le_of_ble_eq_true rfl) (Nat.le_of_ble_eq_true rfl) (Nat.le_of_ble_eq_true rfl) (Nat.le_of_ble_eq_true rfl) dX6_measure_36 ?_
  refine m_vi (y := 0) (by decide) ?_
  refine lv_iload hx hb dX6_measure_39 (lv_at hl 8 rfl) ?_
  refine lv_icmp_gt (tgt := 54) hx hb dX6_measure_41 (by decide) (fun h => absurd h (by decide)) (fun _ => ?_)
  refine lv_iload hx hb dX6_measure_44 (lv_at hl 1 rfl) ?_
  refine lv_aload_n hx hb dX6_measure_46 rfl (lv_at hl 3 rfl) ?_
  refine m_get fl_X6_9_X6 C hM (i := 181) (by decide) h181 (v := .ref (b + 182)) rfl dX6_measure_47 ?_
  refine m_alen C hM (j := 182) (by decide) 1 h182 rfl (v := 301) rfl dX6_measure_50 ?_
  refine lv_icmp_lt (tgt := 57) hx hb dX6_measure_51 (by decide) (fun _ => ?_) (fun h => absurd (by decide) h)
  refine lv_iconst (v := 0) hx hb dX6_measure_57 (by decide) ?_
  refine lv_istore (lv' := [(9, .int 0), (8, .int 301), (7, .int 0), (6, .int 0), (0, .ref (b + 181)), (1, .ref (b + 6)), (2, .int 0), (3, .ref (b + 8)), (4, .int 0), (5, .int 300)]) hx hb dX6_measure_58 hl (by decide) rfl (fun ls hl => ?_)
  refine lv_iload hx hb dX6_measure_60 (lv_at hl 0 rfl) ?_
  refine lv_iload hx hb dX6_measure_62 (lv_at hl 2 rfl) ?_
  refine lv_icmp_gt (tgt := 82) hx hb dX6_measure_64 (by decide) (fun h => absurd h (by decide)) (fun _ => ?_)
  refine lv_aload_n hx hb dX6_measure_67 rfl (lv_at hl 4 rfl) ?_
  refine m_get fl_X6_9_X6 C hM (i := 181) (by decide) h181 (v := .ref (b + 182)) rfl dX6_measure_68 ?_
  refine lv_iload hx hb dX6_measure_71 (lv_at hl 0 rfl) ?_
  refine lv_iload hx hb dX6_measure_73 (lv_at hl 0 rfl) ?_
  refine m_iast C hM (j := 182) (by decide) h182 (m_in (by decide)) dX6_measure_75 (fun H locs f1 ef1 hM => ?_)
  have ef1 : f1 = va_up f 182 (.inl (kc 1, 301, .inl (upd (fun _ => 0) 0 0))) := ef1
  refine lv_iinc (v := 1) (lv' := [(9, .int 1), (8, .int 301), (7, .int 0), (6, .int 0), (0, .ref (b + 181)), (1, .ref (b + 6)), (2, .int 0), (3, .ref (b + 8)), (4, .int 0), (5, .int 300)]) hx hb dX6_measure_76 hl (k := 0) rfl (by decide) (by decide) rfl (fun ls hl => ?_)
  refine lv_goto (tgt := 60) hx hb dX6_measure_79 (by decide) ?_
  refine lv_iload hx hb dX6_measure_60 (lv_at hl 0 rfl) ?_
  refine lv_iload hx hb dX6_measure_62 (lv_at hl 2 rfl) ?_
  refine lv_icmp_gt (tgt := 82) hx hb dX6_measure_64 (by decide) (fun _ => ?_) (fun h => absurd (by decide) h)
  refine lv_iconst (v := 1) hx hb dX6_measure_82 (by decide) ?_
  refine lv_istore (lv' := [(9, .int 1), (8, .int 301), (7, .int 0), (6, .int 0), (0, .ref (b + 181)), (1, .ref (b + 6)), (2, .int 0), (3, .ref (b + 8)), (4, .int 0), (5, .int 300)]) hx hb dX6_measure_83 hl (by decide) rfl (fun ls hl => ?_)
  refine lv_iload hx hb dX6_measure_85 (lv_at hl 0 rfl) ?_
  refine lv_iload hx hb dX6_measure_87 (lv_at hl 3 rfl) ?_
  refine lv_icmp_gt (tgt := 127) hx hb dX6_measure_89 (by decide) (fun _ => ?_) (fun h => absurd (by decide) h)
  refine lv_aload_n hx hb dX6_measure_127 rfl (lv_at hl 4 rfl) ?_
  have h181_1 : f1 181 = .inr (6, [.ref (b + 182)]) := m_ne ef1 h181 (by decide)
  refine m_get fl_X6_9_X6 C hM (i := 181) (by decide) h181_1 (v := .ref (b + 182)) rfl dX6_measure_128 ?_
  refine lv_iload hx hb dX6_measure_131 (lv_at hl 2 rfl) ?_
  have h182_1 : f1 182 = .inl (kc 1, 301, .inl (upd (fun _ => 0) 0 0)) := m_eq ef1
  refine m_iald C hM (j := 182) (by decide) h182_1 (m_in (by decide)) dX6_measure_133 ?_
  refine m_vi (y := 0) (by decide) ?_
  refine lv_iload hx hb dX6_measure_134 (lv_at hl 1 rfl) ?_
  refine va_mmin hx hb (hml.trans hl.1.symm) hown (hts _ wd_930) (hts _ wd_522) (hts _ wd_91) (hts _ wd_523) (Nat.le_of_ble_eq_true rfl) (Nat.le_of_ble_eq_true rfl) (Nat.le_of_ble_eq_true rfl) (Nat.le_of_ble_eq_true rfl) dX6_measure_136 ?_
  refine m_vi (y := 0) (by decide) ?_
  exact m_iret C hr hlk hM (⟨rfl, rfl, by rw [ef1]⟩) dX6_measure_139
set_option maxHeartbeats 4000000 in
set_option maxRecDepth 100000 in
theorem a_X6_measure_7 (l : Launch) (D : va_G) (kc : Nat → ClassId) (b : Nat) (f : Nat → va_E) (h8 : f 8 = .inr (8, [.ref (b + 9), .int 0])) (h4 : f 4 = .inr (8, [.ref (b + 5), .int 0])) (h181 : f 181 = .inr (6, [.ref (b + 182)])) (h182 : f 182 = .inl (kc 1, 301, .inl (fun _ => 0))) : mMi l yX6_measure cX6_measure 10 .int 1 0 0 D kc b 220 f [.ref (b + 181), .ref (b + 8), .int 0, .ref (b + 4), .int 0, .int 300] (fun r u => r = 0 ∧ u.1 = 220 ∧ u.2 = va_up f 182 (.inl (kc 1, 301, .inl (upd (fun _ => 0) 0 0)))) := by
  refine m_start (by decide) (Nat.le_of_ble_eq_true rfl) ?_
  intro p e s m below meth c C hr hlk hnm hM ls hl
  obtain ⟨hx, hb, hml, hown, hts, hE, hbs⟩ := id C
  have hl : lv_has ls 10 [(0, .ref (b + 181)), (1, .ref (b + 8)), (2, .int 0), (3, .ref (b + 4)), (4, .int 0), (5, .int 300)] := hl
  refine lv_iconst (v := 0) hx hb dX6_measure_0 (by decide) ?_
  refine lv_aload_n hx hb dX6_measure_1 rfl (lv_at hl 1 rfl) ?_
  refine m_getN fl_X6_15_X8 C hM (i := 8) (by decide) h8 (v := .int 0) rfl dX6_measure_2 ?_
  refine lv_iload_n hx hb dX6_measure_5 rfl (lv_at hl 2 rfl) ?_
  refine lv_isub hx hb dX6_measure_6 ?_
  refine m_vi (y := 0) (by decide) ?_
  refine va_mmax hx hb (hml.trans hl.1.symm) hown (hts _ wd_921) (hts _ wd_519) (hts _ wd_91) (hts _ wd_520) (Nat.le_of_ble_eq_true rfl) (Nat.le_of_ble_eq_true rfl) (Nat.le_of_ble_eq_true rfl) (Nat.le_of_ble_eq_true rfl) dX6_measure_7 ?_
  refine m_vi (y := 0) (by decide) ?_
  refine lv_istore (lv' := [(6, .int 0), (0, .ref (b + 181)), (1, .ref (b + 8)), (2, .int 0), (3, .ref (b + 4)), (4, .int 0), (5, .int 300)]) hx hb dX6_measure_10 hl (by decide) rfl (fun ls hl => ?_)
  refine lv_iconst (v := 0) hx hb dX6_measure_12 (by decide) ?_
  refine lv_aload_n hx hb dX6_measure_13 rfl (lv_at hl 4 rfl) ?_
  refine m_getN fl_X6_15_X8 C hM (i := 4) (by decide) h4 (v := .int 0) rfl dX6_measure_14 ?_
  refine lv_iload hx hb dX6_measure_17 (lv_at hl 5 rfl) ?_
  refine lv_isub hx hb dX6_measure_19 ?_
  refine m_vi (y := 0) (by decide) ?_
  refine va_mmax hx hb (hml.trans hl.1.symm) hown (hts _ wd_921) (hts _ wd_519) (hts _ wd_91) (hts _ wd_520) (Nat.le_of_ble_eq_true rfl) (Nat.le_of_ble_eq_true rfl) (Nat.le_of_ble_eq_true rfl) (Nat.le_of_ble_eq_true rfl) dX6_measure_20 ?_
  refine m_vi (y := 0) (by decide) ?_
  refine lv_istore (lv' := [(7, .int 0), (6, .int 0), (0, .ref (b + 181)), (1, .ref (b + 8)), (2, .int 0), (3, .ref (b + 4)), (4, .int 0), (5, .int 300)]) hx hb dX6_measure_23 hl (by decide) rfl (fun ls hl => ?_)
  refine lv_iload hx hb dX6_measure_25 (lv_at hl 7 rfl) ?_
  refine lv_iconst (v := 1) hx hb dX6_measure_27 (by decide) ?_
  refine lv_iadd hx hb dX6_measure_28 ?_
  refine m_vi (y := 301) (by decide) ?_
  refine lv_istore (lv' := [(8, .int 301), (7, .int 0), (6, .int 0), (0, .ref (b + 181)), (1, .ref (b + 8)), (2, .int 0), (3, .ref (b + 4)), (4, .int 0), (5, .int 300)]) hx hb dX6_measure_29 hl (by decide) rfl (fun ls hl => ?_)
  refine lv_iload hx hb dX6_measure_31 (lv_at hl 2 rfl) ?_
  refine lv_iload hx hb dX6_measure_33 (lv_at hl 1 rfl) ?_
  refine lv_isub hx hb dX6_measure_35 ?_
  refine m_vi (y := 0) (by decide) ?_
  refine va_mabs hx hb (hml.trans hl.1.symm) hown (hts _ wd_922) (hts _ wd_923) (hts _ wd_91) (hts _ wd_924) (Nat.le_of_ble_eq_true rfl) (Nat.le_of_ble_eq_true rfl) (Nat.le_of_ble_eq_true rfl) (Nat.le_of_ble_eq_true rfl) dX6_measure_36 ?_
  refine m_vi (y := 0) (by decide) ?_
  refine lv_iload hx hb dX6_measure_39 (lv_at hl 8 rfl) ?_
  refine lv_icmp_gt (tgt := 54) hx hb dX6_measure_41 (by decide) (fun h => absurd h (by decide)) (fun _ => ?_)
  refine lv_iload hx hb dX6_measure_44 (lv_at hl 1 rfl) ?_
  refine lv_aload_n hx hb dX6_measure_46 rfl (lv_at hl 3 rfl) ?_
  refine m_get fl_X6_9_X6 C hM (i := 181) (by decide) h181 (v := .ref (b + 182)) rfl dX6_measure_47 ?_
  refine m_alen C hM (j := 182) (by decide) 1 h182 rfl (v := 301) rfl dX6_measure_50 ?_
  refine lv_icmp_lt (tgt := 57) hx hb dX6_measure_51 (by decide) (fun _ => ?_) (fun h => absurd (by decide) h)
  refine lv_iconst (v := 0) hx hb dX6_measure_57 (by decide) ?_
  refine lv_istore (lv' := [(9, .int 0), (8, .int 301), (7, .int 0), (6, .int 0), (0, .ref (b + 181)), (1, .ref (b + 8)), (2, .int 0), (3, .ref (b + 4)), (4, .int 0), (5, .int 300)]) hx hb dX6_measure_58 hl (by decide) rfl (fun ls hl => ?_)
  refine lv_iload hx hb dX6_measure_60 (lv_at hl 0 rfl) ?_
  refine lv_iload hx hb dX6_measure_62 (lv_at hl 2 rfl) ?_
  refine lv_icmp_gt (tgt := 82) hx hb dX6_measure_64 (by decide) (fun h => absurd h (by decide)) (fun _ => ?_)
  refine lv_aload_n hx hb dX6_measure_67 rfl (lv_at hl 4 rfl) ?_
  refine m_get fl_X6_9_X6 C hM (i := 181) (by decide) h181 (v := .ref (b + 182)) rfl dX6_measure_68 ?_
  refine lv_iload hx hb dX6_measure_71 (lv_at hl 0 rfl) ?_
  refine lv_iload hx hb dX6_measure_73 (lv_at hl 0 rfl) ?_
  refine m_iast C hM (j := 182) (by decide) h182 (m_in (by decide)) dX6_measure_75 (fun H locs f1 ef1 hM => ?_)
  have ef1 : f1 = va_up f 182 (.inl (kc 1, 301, .inl (upd (fun _ => 0) 0 0))) := ef1
  refine lv_iinc (v := 1) (lv' := [(9, .int 1), (8, .int 301), (7, .int 0), (6, .int 0), (0, .ref (b + 181)), (1, .ref (b + 8)), (2, .int 0), (3, .ref (b + 4)), (4, .int 0), (5, .int 300)]) hx hb dX6_measure_76 hl (k := 0) rfl (by decide) (by decide) rfl (fun ls hl => ?_)
  refine lv_goto (tgt := 60) hx hb dX6_measure_79 (by decide) ?_
  refine lv_iload hx hb dX6_measure_60 (lv_at hl 0 rfl) ?_
  refine lv_iload hx hb dX6_measure_62 (lv_at hl 2 rfl) ?_
  refine lv_icmp_gt (tgt := 82) hx hb dX6_measure_64 (by decide) (fun _ => ?_) (fun h => absurd (by decide) h)
  refine lv_iconst (v := 1) hx hb dX6_measure_82 (by decide) ?_
  refine lv_istore (lv' := [(9, .int 1), (8, .int 301), (7, .int 0), (6, .int 0), (0, .ref (b + 181)), (1, .ref (b + 8)), (2, .int 0), (3, .ref (b + 4)), (4, .int 0), (5, .int 300)]) hx hb dX6_measure_83 hl (by decide) rfl (fun ls hl => ?_)
  refine lv_iload hx hb dX6_measure_85 (lv_at hl 0 rfl) ?_
  refine lv_iload hx hb dX6_measure_87 (lv_at hl 3 rfl) ?_
  refine lv_icmp_gt (tgt := 127) hx hb dX6_measure_89 (by decide) (fun _ => ?_) (fun h => absurd (by decide) h)
  refine lv_aload_n hx hb dX6_measure_127 rfl (lv_at hl 4 rfl) ?_
  have h181_1 : f1 181 = .inr (6, [.ref (b + 182)]) := m_ne ef1 h181 (by decide)
  refine m_get fl_X6_9_X6 C hM (i := 181) (by decide) h181_1 (v := .ref (b + 182)) rfl dX6_measure_128 ?_
  refine lv_iload hx hb dX6_measure_131 (lv_at hl 2 rfl) ?_
  have h182_1 : f1 182 = .inl (kc 1, 301, .inl (upd (fun _ => 0) 0 0)) := m_eq ef1
  refine m_iald C hM (j := 182) (by decide) h182_1 (m_in (by decide)) dX6_measure_133 ?_
  refine m_vi (y := 0) (by decide) ?_
  refine lv_iload hx hb dX6_measure_134 (lv_at hl 1 rfl) ?_
  refine va_mmin hx hb (hml.trans hl.1.symm) hown (hts _ wd_930) (hts _ wd_522) (hts _ wd_91) (hts _ wd_523) (Nat.le_of_ble_eq_true rfl) (Nat.le_of_ble_eq_true rfl) (Nat.le_of_ble_eq_true rfl) (Nat.le_of_ble_eq_true rfl) dX6_measure_136 ?_
  refine m_vi (y := 0) (by decide) ?_
  exact m_iret C hr hlk hM (⟨rfl, rfl, by rw [ef1]⟩) dX6_measure_139
