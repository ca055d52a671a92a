set_option maxHeartbeats 4000000 in
set_option maxRecDepth 100000 in
theorem a_X6_measure_8 (l : Launch) (D : va_G) (kc : Nat → ClassId) (b : Nat) (f : Nat → va_E) (h8 : f 8 = .inr (8, [.ref (b + 9), .int 0])) (h6 : f 6 = .inr (8, [.ref (b + 7), .int 0])) (h181 : f 181 = .inr (6, [.ref (b + 182)])) (h182 : f 182 = .inl (kc 1, 301, .inl (fun _ => 0))) : mMi l yX6_measure cX6_measure 10 .int 1 0 0 D kc b 220 f [.ref (b + 181), .ref (b + 8), .int 0, .ref (b + 6), .int 0, .int 300] (fun r u => r = 0 ∧ u.1 = 220 ∧ u.2 = va_up f 182 (.inl (kc 1, 301, .inl (upd (fun _ => 0) 0 0)))) := by
  refine m_start (by decide) (Nat.le_of_ble_eq_true rfl) ?_
  intro p e s m below meth c C hr hlk hnm hM ls hl
  obtain ⟨hx, hb, hml, hown, hts, hE, hbs⟩ := id C
  have hl : lv_has ls 10 [(0, .ref (b + 181)), (1, .ref (b + 8)), (2, .int 0), (3, .ref (b + 6)), (4, .int 0), (5, .int 300)] := hl
  refine lv_iconst (v := 0) hx hb dX6_measure_0 (by decide) ?_
  refine lv_aload_n hx hb dX6_measure_1 rfl (lv_at hl 1 rfl) ?_
  refine m_getN fl_X6_15_X8 C hM (i := 8) (by decide) h8 (v := .int 0) rfl dX6_measure_2 ?_
  refine lv_iload_n hx hb dX6_measure_5 rfl (lv_at hl 2 rfl) ?_
  refine lv_isub hx hb dX6_measure_6 ?_
  refine m_vi (y := 0) (by decide) ?_
  refine va_mmax hx hb (hml.trans hl.1.symm) hown (hts _ wd_921) (hts _ wd_519) (hts _ wd_91) (hts _ wd_520) (Nat.le_of_ble_eq_true rfl) (Nat.le_of_ble_eq_true rfl) (Nat.le_of_ble_eq_true rfl) (Nat.le_of_ble_eq_true rfl) dX6_measure_7 ?_
  refine m_vi (y := 0) (by decide) ?_
  refine lv_istore (lv' := [(6, .int 0), (0, .ref (b + 181)), (1, .ref (b + 8)), (2, .int 0), (3, .ref (b + 6)), (4, .int 0), (5, .int 300)]) hx hb dX6_measure_10 hl (by decide) rfl (fun ls hl => ?_)
  refine lv_iconst (v := 0) hx hb dX6_measure_12 (by decide) ?_
  refine lv_aload_n hx hb dX6_measure_13 rfl (lv_at hl 4 rfl) ?_
  refine m_getN fl_X6_15_X8 C hM (i := 6) (by decide) h6 (v := .int 0) rfl dX6_measure_14 ?_
  refine lv_iload hx hb dX6_measure_17 (lv_at hl 5 rfl) ?_
  refine lv_isub hx hb dX6_measure_19 ?_
  refine m_vi (y := 0) (by decide) ?_
  refine va_mmax hx hb (hml.trans hl.1.symm) hown (hts _ wd_921) (hts _ wd_519) (hts _ wd_91) (hts _ wd_520) (Nat.le_of_ble_eq_true rfl) (Nat.le_of_ble_eq_true rfl) (Nat.le_of_ble_eq_true rfl) (Nat.le_of_ble_eq_true rfl) dX6_measure_20 ?_
  refine m_vi (y := 0) (by decide) ?_
  refine lv_istore (lv' := [(7, .int 0), (6, .int 0), (0, .ref (b + 181)), (1, .ref (b + 8)), (2, .int 0), (3, .ref (b + 6)), (4, .int 0), (5, .int 300)]) hx hb dX6_measure_23 hl (by decide) rfl (fun ls hl => ?_)
  refine lv_iload hx hb dX6_measure_25 (lv_at hl 7 rfl) ?_
  refine lv_iconst (v := 1) hx hb dX6_measure_27 (by decide) ?_
  refine lv_iadd hx hb dX6_measure_28 ?_
  refine m_vi (y := 301) (by decide) ?_
  refine lv_istore (lv' := [(8, .int 301), (7, .int 0), (6, .int 0), (0, .ref (b + 181)), (1, .ref (b + 8)), (2, .int 0), (3, .ref (b + 6)), (4, .int 0), (5, .int 300)]) hx hb dX6_measure_29 hl (by decide) rfl (fun ls hl => ?_)
  refine lv_iload hx hb dX6_measure_31 (lv_at hl 2 rfl) ?_
  refine lv_iload hx hb dX6_measure_33 (lv_at hl 1 rfl) ?_
  refine lv_isub hx hb dX6_measure_35 ?_
  refine m_vi (y := 0) (by decide) ?_
  refine va_mabs hx hb (hml.trans hl.1.symm) hown (hts _ wd_922) (hts _ wd_923) (hts _ wd_91) (hts _ wd_924) (Nat.le_of_ble_eq_true rfl) (Nat.le_of_ble_eq_true rfl) (Nat.le_of_ble_eq_true rfl) (Nat.le_of_ble_eq_true rfl) dX6_measure_36 ?_
  refine m_vi (y := 0) (by decide) ?_
  refine lv_iload hx hb dX6_measure_39 (lv_at hl 8 rfl) ?_
  refine lv_icmp_gt (tgt := 54) hx hb dX6_measure_41 (by decide) (fun h => absurd h (by decide)) (fun _ => ?_)
  refine lv_iload hx hb dX6_measure_44 (lv_at hl 1 rfl) ?_
  refine lv_aload_n hx hb dX6_measure_46 rfl (lv_at hl 3 rfl) ?_
  refine m_get fl_X6_9_X6 C hM (i := 181) (by decide) h181 (v := .ref (b + 182)) rfl dX6_measure_47 ?_
  refine m_alen C hM (j := 182) (by decide) 1 h182 rfl (v := 301) rfl dX6_measure_50 ?_
  refine lv_icmp_lt (tgt := 57) hx hb dX6_measure_51 (by decide) (fun _ => ?_) (fun h => absurd (by decide) h)
  refine lv_iconst (v := 0) hx hb dX6_measure_57 (by decide) ?_
  refine lv_istore (lv' := [(9, .int 0), (8, .int 301), (7, .int 0), (6, .int 0), (0, .ref (b + 181)), (1, .ref (b + 8)), (2, .int 0), (3, .ref (b + 6)), (4, .int 0), (5, .int 300)]) hx hb dX6_measure_58 hl (by decide) rfl (fun ls hl => ?_)
  refine lv_iload hx hb dX6_measure_60 (lv_at hl 0 rfl) ?_
  refine lv_iload hx hb dX6_measure_62 (lv_at hl 2 rfl) ?_
  refine lv_icmp_gt (tgt := 82) hx hb dX6_measure_64 (by decide) (fun h => absurd h (by decide)) (fun _ => ?_)
  refine lv_aload_n hx hb dX6_measure_67 rfl (lv_at hl 4 rfl) ?_
  refine m_get fl_X6_9_X6 C hM (i := 181) (by decide) h181 (v := .ref (b + 182)) rfl dX6_measure_68 ?_
  refine lv_iload hx hb dX6_measure_71 (lv_at hl 0 rfl) ?_
  refine lv_iload hx hb dX6_measure_73 (lv_at hl 0 rfl) ?_
  refine m_iast C hM (j := 182) (by decide) h182 (m_in (by decide)) dX6_measure_75 (fun H locs f1 ef1 hM => ?_)
  have ef1 : f1 = va_up f 182 (.inl (kc 1, 301, .inl (upd (fun _ => 0) 0 0))) := ef1
  refine lv_iinc (v := 1) (lv' := [(9, .int 1), (8, .int 301), (7, .int 0), (6, .int 0), (0, .ref (b + 181)), (1, .ref (b + 8)), (2, .int 0), (3, .ref (b + 6)), (4, .int 0), (5, .int 300)]) hx hb dX6_measure_76 hl (k := 0) rfl (by decide) (by decide) rfl (fun ls hl => ?_)
  refine lv_goto (tgt := 60) hx hb dX6_measure_79 (by decide) ?_
  refine lv_iload hx hb dX6_measure_60 (lv_at hl 0 rfl) ?_
  refine lv_iload hx hb dX6_measure_62 (lv_at hl 2 rfl) ?_
  refine lv_icmp_gt (tgt := 82) hx hb dX6_measure_64 (by decide) (fun _ => ?_) (fun h => absurd (by decide) h)
  refine lv_iconst (v := 1) hx hb dX6_measure_82 (by decide) ?_
  refine lv_istore (lv' := [(9, .int 1), (8, .int 301), (7, .int 0), (6, .int 0), (0, .ref (b + 181)), (1, .ref (b + 8)), (2, .int 0), (3, .ref (b + 6)), (4, .int 0), (5, .int 300)]) hx hb dX6_measure_83 hl (by decide) rfl (fun ls hl => ?_)
  refine lv_iload hx hb dX6_measure_85 (lv_at hl 0 rfl) ?_
  refine lv_iload hx hb dX6_measure_87 (lv_at hl 3 rfl) ?_
  refine lv_icmp_gt (tgt := 127) hx hb dX6_measure_89 (by decide) (fun _ => ?_) (fun h => absurd (by decide) h)
  refine lv_aload_n hx hb dX6_measure_127 rfl (lv_at hl 4 rfl) ?_
  have h181_1 : f1 181 = .inr (6, [.ref (b + 182)]) := m_ne ef1 h181 (by decide)
  refine m_get fl_X6_9_X6 C hM (i := 181) (by decide) h181_1 (v := .ref (b + 182)) rfl dX6_measure_128 ?_
  refine lv_iload hx hb dX6_measure_131 (lv_at hl 2 rfl) ?_
  have h182_1 : f1 182 = .inl (kc 1, 301, .inl (upd (fun _ => 0) 0 0)) := m_eq ef1
  refine m_iald C hM (j := 182) (by decide) h182_1 (m_in (by decide)) dX6_measure_133 ?_
  refine m_vi (y := 0) (by decide) ?_
  refine lv_iload hx hb dX6_measure_134 (lv_at hl 1 rfl) ?_
  refine va_mmin hx hb (hml.trans hl.1.symm) hown (hts _ wd_930) (hts _ wd_522) (hts _ wd_91) (hts _ wd_523) (Nat.le_of_ble_eq_true rfl) (Nat.le_of_ble_eq_true rfl) (Nat.le_of_ble_eq_true rfl) (Nat.le_of_ble_eq_true rfl) dX6_measure_136 ?_
  refine m_vi (y := 0) (by decide) ?_
  exact m_iret C hr hlk hM (⟨rfl, rfl, by rw [ef1]⟩) dX6_measure_139
set_option maxHeartbeats 4000000 in
set_option maxRecDepth 100000 in
theorem a_X6_measure_9 (l : Launch) (D : va_G) (kc : Nat → ClassId) (b : Nat) (f : Nat → va_E) (h8 : f 8 = .inr (8, [.ref (b + 9), .int 0])) (h181 : f 181 = .inr (6, [.ref (b + 182)])) (h182 : f 182 = .inl (kc 1, 301, .inl (fun _ => 0))) : mMi l yX6_measure cX6_measure 10 .int 1 0 0 D kc b 220 f [.ref (b + 181), .ref (b + 8), .int 0, .ref (b + 8), .int 0, .int 300] (fun r u => r = 0 ∧ u.1 = 220 ∧ u.2 = va_up f 182 (.inl (kc 1, 301, .inl (upd (fun _ => 0) 0 0)))) := by
  refine m_start (by decide) (Nat.le_of_ble_eq_true rfl) ?_
  intro p e s m below meth c C hr hlk hnm hM ls hl
  obtain ⟨hx, hb, hml, hown, hts, hE, hbs⟩ := id C
  have hl : lv_has ls 10 [(0, .ref (b + 181)), (1, .ref (b + 8)), (2, .int 0), (3, .ref (b + 8)), (4, .int 0), (5, .int 300)] := hl
  refine lv_iconst (v := 0) hx hb dX6_measure_0 (by decide) ?_
  refine lv_aload_n hx hb dX6_measure_1 rfl (lv_at hl 1 rfl) ?_
  refine m_getN fl_X6_15_X8 C hM (i := 8) (by decide) h8 (v := .int 0) rfl dX6_measure_2 ?_
  refine lv_iload_n hx hb dX6_measure_5 rfl (lv_at hl 2 rfl) ?_
  refine lv_isub hx hb dX6_measure_6 ?_
  refine m_vi (y := 0) (by decide) ?_
  refine va_mmax hx hb (hml.trans hl.1.symm) hown (hts _ wd_921) (hts _ wd_519) (hts _ wd_91) (hts _ wd_520) (Nat.le_of_ble_eq_true rfl) (Nat.le_of_ble_eq_true rfl) (Nat.le_of_ble_eq_true rfl) (Nat.le_of_ble_eq_true rfl) dX6_measure_7 ?_
  refine m_vi (y := 0) (by decide) ?_
  refine lv_istore (lv' := [(6, .int 0), (0, .ref (b + 181)), (1, .ref (b + 8)), (2, .int 0), (3, .ref (b + 8)), (4, .int 0), (5, .int 300)]) hx hb dX6_measure_10 hl (by decide) rfl (fun ls hl => ?_)
  refine lv_iconst (v := 0) hx hb dX6_measure_12 (by decide) ?_
  refine lv_aload_n hx hb dX6_measure_13 rfl (lv_at hl 4 rfl) ?_
  refine m_getN fl_X6_15_X8 C hM (i := 8) (by decide) h8 (v := .int 0) rfl dX6_measure_14 ?_
  refine lv_iload hx hb dX6_measure_17 (lv_at hl 5 rfl) ?_
  refine lv_isub hx hb dX6_measure_19 ?_
  refine m_vi (y := 0) (by decide) ?_
  refine va_mmax hx hb (hml.trans hl.1.symm) hown (hts _ wd_921) (hts _ wd_519) (hts _ wd_91) (hts _ wd_520) (Nat.le_of_ble_eq_true rfl) (Nat.le_of_ble_eq_true rfl) (Nat.le_of_ble_eq_true rfl) (Nat.le_of_ble_eq_true rfl) dX6_measure_20 ?_
  refine m_vi (y := 0) (by decide) ?_
  refine lv_istore (lv' := [(7, .int 0), (6, .int 0), (0, .ref (b + 181)), (1, .ref (b + 8)), (2, .int 0), (3, .ref (b + 8)), (4, .int 0), (5, .int 300)]) hx hb dX6_measure_23 hl (by decide) rfl (fun ls hl => ?_)
  refine lv_iload hx hb dX6_measure_25 (lv_at hl 7 rfl) ?_
  refine lv_iconst (v := 1) hx hb dX6_measure_27 (by decide) ?_
  refine lv_iadd hx hb dX6_measure_28 ?_
  refine m_vi (y := 301) (by decide) ?_
  refine lv_istore (lv' := [(8, .int 301), (7, .int 0), (6, .int 0), (0, .ref (b + 181)), (1, .ref (b + 8)), (2, .int 0), (3, .ref (b + 8)), (4, .int 0), (5, .int 300)]) hx hb dX6_measure_29 hl (by decide) rfl (fun ls hl => ?_)
  refine lv_iload hx hb dX6_measure_31 (lv_at hl 2 rfl) ?_
  refine lv_iload hx hb dX6_measure_33 (lv_at hl 1 rfl) ?_
  refine lv_isub hx hb dX6_measure_35 ?_
  refine m_vi (y := 0) (by decide) ?_
  refine va_mabs hx hb (hml.trans hl.1.symm) hown (hts _ wd_922) (hts _ wd_923) (hts _ wd_91) (hts _ wd_924) (Nat.le_of_ble_eq_true rfl) (Nat.le_of_ble_eq_true rfl) (Nat.le_of_ble_eq_true rfl) (Nat.le_of_ble_eq_true rfl) dX6_measure_36 ?_
  refine m_vi (y := 0) (by decide) ?_
  refine lv_iload hx hb dX6_measure_39 (lv_at hl 8 rfl) ?_
  refine lv_icmp_gt (tgt := 54) hx hb dX6_measure_41 (by decide) (fun h => absurd h (by decide)) (fun _ => ?_)
  refine lv_iload hx hb dX6_measure_44 (lv_at hl 1 rfl) ?_
  refine lv_aload_n hx hb dX6_measure_46 rfl (lv_at hl 3 rfl) ?_
  refine m_get fl_X6_9_X6 C hM (i := 181) (by decide) h181 (v := .ref (b + 182)) rfl dX6_measure_47 ?_
  refine m_alen C hM (j := 182) (by decide) 1 h182 rfl (v := 301) rfl dX6_measure_50 ?_
  refine lv_icmp_lt (tgt := 57) hx hb dX6_measure_51 (by decide) (fun _ => ?_) (fun h => absurd (by decide) h)
  refine lv_iconst (v := 0) hx hb dX6_measure_57 (by decide) ?_
  refine lv_istore (lv' := [(9, .int 0), (8, .int 301), (7, .int 0), (6, .int 0), (0, .ref (b + 181)), (1, .ref (b + 8)), (2, .int 0), (3, .ref (b + 8)), (4, .int 0), (5, .int 300)]) hx hb dX6_measure_58 hl (by decide) rfl (fun ls hl => ?_)
  refine lv_iload hx hb dX6_measure_60 (lv_at hl 0 rfl) ?_
  refine lv_iload hx hb dX6_measure_62 (lv_at hl 2 rfl) ?_
  refine lv_icmp_gt (tgt := 82) hx hb dX6_measure_64 (by decide) (fun h => absurd h (by decide)) (fun _ => ?_)
  refine lv_aload_n hx hb dX6_measure_67 rfl (lv_at hl 4 rfl) ?_
  refine m_get fl_X6_9_X6 C hM (i := 181) (by decide) h181 (v := .ref (b + 182)) rfl dX6_measure_68 ?_
  refine lv_iload hx hb dX6_measure_71 (lv_at hl 0 rfl) ?_
  refine lv_iload hx hb dX6_measure_73 (lv_at hl 0 rfl) ?_
  refine m_iast C hM (j := 182) (by decide) h182 (m_in (by decide)) dX6_measure_75 (fun H locs f1 ef1 hM => ?_)
  have ef1 : f1 = va_up f 182 (.inl (kc 1, 301, .inl (upd (fun _ => 0) 0 0))) := ef1
  refine lv_iinc (v := 1) (lv' := [(9, .int 1), (8, .int 301), (7, .int 0), (6, .int 0), (0, .ref (b + 181)), (1, .ref (b + 8)), (2, .int 0), (3, .ref (b + 8)), (4, .int 0), (5, .int 300)]) hx hb dX6_measure_76 hl (k := 0) rfl (by decide) (by decide) rfl (fun ls hl => ?_)
  refine lv_goto (tgt := 60) hx hb dX6_measure_79 (by decide) ?_
  refine lv_iload hx hb dX6_measure_60 (lv_at hl 0 rfl) ?_
  refine lv_iload hx hb dX6_measure_62 (lv_at hl 2 rfl) ?_
  refine lv_icmp_gt (tgt := 82) hx hb dX6_measure_64 (by decide) (fun _ => ?_) (fun h => absurd (by decide) h)
  refine lv_iconst (v := 1) hx hb dX6_measure_82 (by decide) ?_
  refine lv_istore (lv' := [(9, .int 1), (8, .int 301), (7, .int 0), (6, .int 0), (0, .ref (b + 181)), (1, .ref (b + 8)), (2, .int 0), (3, .ref (b + 8)), (4, .int 0), (5, .int 300)]) hx hb dX6_measure_83 hl (by decide) rfl (fun ls hl => ?_)
  refine lv_iload hx hb dX6_measure_85 (lv_at hl 0 rfl) ?_
  refine lv_iload hx hb dX6_measure_87 (lv_at hl 3 rfl) ?_
  refine lv_icmp_gt (tgt := 127) hx hb dX6_measure_89 (by decide) (fun _ => ?_) (fun h => absurd (by decide) h)
  refine lv_aload_n hx hb dX6_measure_127 rfl (lv_at hl 4 rfl) ?_
  have h181_1 : f1 181 = .inr (6, [.ref (b + 182)]) := m_ne ef1 h181 (by decide)
  refine m_get fl_X6_9_X6 C hM (i := 181) (by decide) h181_1 (v := .ref (b + 182)) rfl dX6_measure_128 ?_
  refine lv_iload hx hb dX6_measure_131 (lv_at hl 2 rfl) ?_
  have h182_1 : f1 182 = .inl (kc 1, 301, .inl (upd (fun _ => 0) 0 0)) := m_eq ef1
  refine m_iald C hM (j := 182) (by decide) h182_1 (m_in (by decide)) dX6_measure_133 ?_
  refine m_vi (y := 0) (by decide) ?_
  refine lv_iload hx hb dX6_measure_134 (lv_at hl 1 rfl) ?_
  refine va_mmin hx hb (hml.trans hl.1.symm) hown (hts _ wd_930) (hts _ wd_522) (hts _ wd_91) (hts _ wd_523) (Nat.le_of_ble_eq_true rfl) (Nat.le_of_ble_eq_true rfl) (Nat.le_of_ble_eq_true rfl) (Nat.le_of_ble_eq_true rfl) dX6_measure_136 ?_
  refine m_vi (y := 0) (by decide) ?_
  exact m_iret C hr hlk hM (⟨rfl, rfl, by rw [ef1]⟩) dX6_measure_139
set_option maxHeartbeats 4000000 in
set_option maxRecDepth 100000 in
theorem k_x_distance (l : Launch) (D : va_G) (kc : Nat → ClassId) (b : Nat) (f : Nat → va_E) (a0 : Int32) (a1 : Int32) (h0 : f 0 = .inr (11, [.ref (b + 1), .ref (b + 3), .ref (b + 4), .ref (b + 6), .ref (b + 8), .ref (b + 10), .ref (b + 174), .ref (b + 177), .ref (b + 178), .ref (b + 181), .ref (b + 183), .ref (b + 190)])) (h4 : f 4 = .inr (8, [.ref (b + 5), .int 0])) (h181 : f 181 = .inr (6, [.ref (b + 182)])) (h182 : f 182 = .inl (kc 1, 301, .inl (fun _ => 0))) (h6 : f 6 = .inr (8, [.ref (b + 7), .int 0])) (h8 : f 8 = .inr (8, [.ref (b + 9), .int 0])) : mMi l yX11_distance cX11_distance 5 .int 2 0 0 D kc b 220 f [.ref (b + 0), .int a0, .int a1] (fun r u => r = p_distance a0 a1 ∧ u.1 = 220 ∧ ∀ j, 192 ≤ j → u.2 j = f j) := by
  refine m_start (by decide) (Nat.le_of_ble_eq_true rfl) ?_
  intro p e s m below meth c C hr hlk hnm hM ls hl
  obtain ⟨hx, hb, hml, hown, hts, hE, hbs⟩ := id C
  have hl : lv_has ls 5 [(0, .ref (b + 0)), (1, .int a0), (2, .int a1)] := hl
  by_cases q1 : a0 < 0
  · refine lv_aload_n hx hb dX11_distance_0 rfl (lv_at hl 0 rfl) ?_
    refine lv_iload_n hx hb dX11_distance_1 rfl (lv_at hl 1 rfl) ?_
    refine m_goq (m_runV calV_X11_sheetOf wd_845 (a_X11_sheetOf_0 l D kc b f a0 q1) C hM (by decide) h0 rfl hl.1 rfl rfl (Nat.le_of_ble_eq_true rfl) dX11_distance_2 ⟨Nat.le_of_ble_eq_true rfl, Nat.le_of_ble_eq_true rfl⟩ ⟨Nat.le_of_ble_eq_true rfl, Nat.le_of_ble_eq_true rfl⟩) hM (fun r2 n3 f1 H locs hp hM => ?_)
    have hp : r2 = none ∧ n3 = 220 ∧ f1 = f := hp
    obtain ⟨rfl, rfl, ef1⟩ := hp
    refine m_vv (y := .null) rfl ?_
    refine lv_astore_nN (lv' := [(3, .null), (0, .ref (b + 0)), (1, .int a0), (2, .int a1)]) hx hb dX11_distance_5 rfl hl (by decide) rfl (fun ls hl => ?_)
    by_cases q4 : a1 < 0
    · refine lv_aload_n hx hb dX11_distance_6 rfl (lv_at hl 1 rfl) ?_
      refine lv_iload_n hx hb dX11_distance_7 rfl (lv_at hl 3 rfl) ?_
      have h0_1 : f1 0 = .inr (11, [.ref (b + 1), .ref (b + 3), .ref (b + 4), .ref (b + 6), .ref (b + 8), .ref (b + 10), .ref (b + 174), .ref (b + 177), .ref (b + 178), .ref (b + 181), .ref (b + 183), .ref (b + 190)]) := m_sm ef1 h0
      refine m_goq (m_runV calV_X11_sheetOf wd_845 (a_X11_sheetOf_5 l D kc b f1 a1 q4) C hM (by decide) h0_1 rfl hl.1 rfl rfl (Nat.le_of_ble_eq_true rfl) dX11_distance_8 ⟨Nat.le_of_ble_eq_true rfl, Nat.le_of_ble_eq_true rfl⟩ ⟨Nat.le_of_ble_eq_true rfl, Nat.le_of_ble_eq_true rfl⟩) hM (fun r5 n6 f2 H locs hp hM => ?_)
      have hp : r5 = none ∧ n6 = 220 ∧ f2 = f1 := hp
      obtain ⟨rfl, rfl, ef2⟩ := hp
      refine m_vv (y := .null) rfl ?_
      refine lv_astoreN (lv' := [(4, .null), (3, .null), (0, .ref (b + 0)), (1, .int a0), (2, .int a1)]) hx hb dX11_distance_11 hl (by decide) rfl (fun ls hl => ?_)
      refine lv_aload_nN hx hb dX11_distance_13 rfl (lv_at hl 1 rfl) ?_
      refine lv_ifnullN (tgt := 22) hx hb dX11_distance_14 (by decide) ?_
      refine lv_bipush (v := (-2)) hx hb dX11_distance_22 (by decide) ?_
      have fr_1 : ∀ j, 192 ≤ j → f1 j = f j := fun j hj => m_sm ef1 (rfl)
      have fr_2 : ∀ j, 192 ≤ j → f2 j = f j := fun j hj => m_sm ef2 (fr_1 j hj)
      exact m_iret C hr hlk hM (⟨by unfold p_distance; rw [if_neg (by revert q1 q4; simp only [Int32.lt_iff_toInt_lt, Int32.le_iff_toInt_le, m_lits]; omega)], rfl, fr_2⟩) dX11_distance_24
    by_cases q7 : 2 < a1
    · refine lv_aload_n hx hb dX11_distance_6 rfl (lv_at hl 1 rfl) ?_
      refine lv_iload_n hx hb dX11_distance_7 rfl (lv_at hl 3 rfl) ?_
      have h0_1 : f1 0 = .inr (11, [.ref (b + 1), .ref (b + 3), .ref (b + 4), .ref (b + 6), .ref (b + 8), .ref (b + 10), .ref (b + 174), .ref (b + 177), .ref (b + 178), .ref (b + 181), .ref (b + 183), .ref (b + 190)]) := m_sm ef1 h0
      refine m_goq (m_runV calV_X11_sheetOf wd_845 (a_X11_sheetOf_6 l D kc b f1 a1 q4 q7) C hM (by decide) h0_1 rfl hl.1 rfl rfl (Nat.le_of_ble_eq_true rfl) dX11_distance_8 ⟨Nat.le_of_ble_eq_true rfl, Nat.le_of_ble_eq_true rfl⟩ ⟨Nat.le_of_ble_eq_true rfl, Nat.le_of_ble_eq_true rfl⟩) hM (fun r8 n9 f2 H locs hp hM => ?_)
      have hp : r8 = none ∧ n9 = 220 ∧ f2 = f1 := hp
      obtain ⟨rfl, rfl, ef2⟩ := hp
      refine m_vv (y := .null) rfl ?_
      refine lv_astoreN (lv' := [(4, .null), (3, .null), (0, .ref (b + 0)), (1, .int a0), (2, .int a1)]) hx hb dX11_distance_11 hl (by decide) rfl (fun ls hl => ?_)
      refine lv_aload_nN hx hb dX11_distance_13 rfl (lv_at hl 1 rfl) ?_
      refine lv_ifnullN (tgt := 22) hx hb dX11_distance_14 (by decide) ?_
      refine lv_bipush (v := (-2)) hx hb dX11_distance_22 (by decide) ?_
      have fr_1 : ∀ j, 192 ≤ j → f1 j = f j := fun j hj => m_sm ef1 (rfl)
      have fr_2 : ∀ j, 192 ≤ j → f2 j = f j := fun j hj => m_sm ef2 (fr_1 j hj)
      exact m_iret C hr hlk hM (⟨by unfold p_distance; rw [if_neg (by revert q1 q4 q7; simp only [Int32.lt_iff_toInt_lt, Int32.le_iff_toInt_le, m_lits]; omega)], rfl, fr_2⟩) dX11_distance_24
    by_cases s10 : a1 = 0
    · subst s10
      refine lv_aload_n hx hb dX11_distance_6 rfl (lv_at hl 1 rfl) ?_
      refine lv_iload_n hx hb dX11_distance_7 rfl (lv_at hl 3 rfl) ?_
      have h0_1 : f1 0 = .inr (11, [.ref (b + 1), .ref (b + 3), .ref (b + 4), .ref (b + 6), .ref (b + 8), .ref (b + 10), .ref (b + 174), .ref (b + 177), .ref (b + 178), .ref (b + 181), .ref (b + 183), .ref (b + 190)]) := m_sm ef1 h0
      refine m_goq (m_runV calV_X11_sheetOf wd_845 (a_X11_sheetOf_2 l D kc b f1 h0_1) C hM (by decide) h0_1 rfl hl.1 rfl rfl (Nat.le_of_ble_eq_true rfl) dX11_distance_8 ⟨Nat.le_of_ble_eq_true rfl, Nat.le_of_ble_eq_true rfl⟩ ⟨Nat.le_of_ble_eq_true rfl, Nat.le_of_ble_eq_true rfl⟩) hM (fun r11 n12 f2 H locs hp hM => ?_)
      have hp : r11 = some (b + 4) ∧ n12 = 220 ∧ f2 = f1 := hp
      obtain ⟨rfl, rfl, ef2⟩ := hp
      refine m_vv (y := .ref (b + 4)) rfl ?_
      refine lv_astore (lv' := [(4, .ref (b + 4)), (3, .null), (0, .ref (b + 0)), (1, .int a0), (2, .int 0)]) hx hb dX11_distance_11 hl (by decide) rfl (fun ls hl => ?_)
      refine lv_aload_nN hx hb dX11_distance_13 rfl (lv_at hl 1 rfl) ?_
      refine lv_ifnullN (tgt := 22) hx hb dX11_distance_14 (by decide) ?_
      refine lv_bipush (v := (-2)) hx hb dX11_distance_22 (by decide) ?_
      have fr_1 : ∀ j, 192 ≤ j → f1 j = f j := fun j hj => m_sm ef1 (rfl)
      have fr_2 : ∀ j, 192 ≤ j → f2 j = f j := fun j hj => m_sm ef2 (fr_1 j hj)
      exact m_iret C hr hlk hM (⟨by unfold p_distance; rw [if_neg (by revert q1; simp only [Int32.lt_iff_toInt_lt, Int32.le_iff_toInt_le, m_lits]; omega)], rfl, fr_2⟩) dX11_distance_24
    by_cases s13 : a1 = 1
    · subst s13
      refine lv_aload_n hx hb dX11_distance_6 rfl (lv_at hl 1 rfl) ?_
      refine lv_iload_n hx hb dX11_distance_7 rfl (lv_at hl 3 rfl) ?_
      have h0_1 : f1 0 = .inr (11, [.ref (b + 1), .ref (b + 3), .ref (b + 4), .ref (b + 6), .ref (b + 8), .ref (b + 10), .ref (b + 174), .ref (b + 177), .ref (b + 178), .ref (b + 181), .ref (b + 183), .ref (b + 190)]) := m_sm ef1 h0
      refine m_goq (m_runV calV_X11_sheetOf wd_845 (a_X11_sheetOf_3 l D kc b f1 h0_1) C hM (by decide) h0_1 rfl hl.1 rfl rfl (Nat.le_of_ble_eq_true rfl) dX11_distance_8 ⟨Nat.le_of_ble_eq_true rfl, Nat.le_of_ble_eq_true rfl⟩ ⟨Nat.le_of_ble_eq_true rfl, Nat.le_of_ble_eq_true rfl⟩) hM (fun r14 n15 f2 H locs hp hM => ?_)
      have hp : r14 = some (b + 6) ∧ n15 = 220 ∧ f2 = f1 := hp
      obtain ⟨rfl, rfl, ef2⟩ := hp
      refine m_vv (y := .ref (b + 6)) rfl ?_
      refine lv_astore (lv' := [(4, .ref (b + 6)), (3, .null), (0, .ref (b + 0)), (1, .int a0), (2, .int 1)]) hx hb dX11_distance_11 hl (by decide) rfl (fun ls hl => ?_)
      refine lv_aload_nN hx hb dX11_distance_13 rfl (lv_at hl 1 rfl) ?_
      refine lv_ifnullN (tgt := 22) hx hb dX11_distance_14 (by decide) ?_
      refine lv_bipush (v := (-2)) hx hb dX11_distance_22 (by decide) ?_
      have fr_1 : ∀ j, 192 ≤ j → f1 j = f j := fun j hj => m_sm ef1 (rfl)
      have fr_2 : ∀ j, 192 ≤ j → f2 j = f j := fun j hj => m_sm ef2 (fr_1 j hj)
      exact m_iret C hr hlk hM (⟨by unfold p_distance; rw [if_neg (by revert q1; simp only [Int32.lt_iff_toInt_lt, Int32.le_iff_toInt_le, m_lits]; omega)], rfl, fr_2⟩) dX11_distance_24
    by_cases s16 : a1 = 2
    · subst s16
      refine lv_aload_n hx hb dX11_distance_6 rfl (lv_at hl 1 rfl) ?_
      refine lv_iload_n hx hb dX11_distance_7 rfl (lv_at hl 3 rfl) ?_
      have h0_1 : f1 0 = .inr (11, [.ref (b + 1), .ref (b + 3), .ref (b + 4), .ref (b + 6), .ref (b + 8), .ref (b + 10), .ref (b + 174), .ref (b + 177), .ref (b + 178), .ref (b + 181), .ref (b + 183), .ref (b + 190)]) := m_sm ef1 h0
      refine m_goq (m_runV calV_X11_sheetOf wd_845 (a_X11_sheetOf_4 l D kc b f1 h0_1) C hM (by decide) h0_1 rfl hl.1 rfl rfl (Nat.le_of_ble_eq_true rfl) dX11_distance_8 ⟨Nat.le_of_ble_eq_true rfl, Nat.le_of_ble_eq_true rfl⟩ ⟨Nat.le_of_ble_eq_true rfl, Nat.le_of_ble_eq_true rfl⟩) hM (fun r17 n18 f2 H locs hp hM => ?_)
      have hp : r17 = some (b + 8) ∧ n18 = 220 ∧ f2 = f1 := hp
      obtain ⟨rfl, rfl, ef2⟩ := hp
      refine m_vv (y := .ref (b + 8)) rfl ?_
      refine lv_astore (lv' := [(4, .ref (b + 8)), (3, .null), (0, .ref (b + 0)), (1, .int a0), (2, .int 2)]) hx hb dX11_distance_11 hl (by decide) rfl (fun ls hl => ?_)
      refine lv_aload_nN hx hb dX11_distance_13 rfl (lv_at hl 1 rfl) ?_
      refine lv_ifnullN (tgt := 22) hx hb dX11_distance_14 (by decide) ?_
      refine lv_bipush (v := (-2)) hx hb dX11_distance_22 (by decide) ?_
      have fr_1 : ∀ j, 192 ≤ j → f1 j = f j := fun j hj => m_sm ef1 (rfl)
      have fr_2 : ∀ j, 192 ≤ j → f2 j = f j := fun j hj => m_sm ef2 (fr_1 j hj)
      exact m_iret C hr hlk hM (⟨by unfold p_distance; rw [if_neg (by revert q1; simp only [Int32.lt_iff_toInt_lt, Int32.le_iff_toInt_le, m_lits]; omega)], rfl, fr_2⟩) dX11_distance_24
    exfalso; revert q4 q7 s10 s13 s16; simp only [← Int32.toInt_inj, Int32.lt_iff_toInt_lt, Int32.le_iff_toInt_le, m_lits]; omega
  by_cases q19 : 2 < a0
  · refine lv_aload_n hx hb dX11_distance_0 rfl (lv_at hl 0 rfl) ?_
    refine lv_iload_n hx hb dX11_distance_1 rfl (lv_at hl 1 rfl) ?_
    refine m_goq (m_runV calV_X11_sheetOf wd_845 (a_X11_sheetOf_1 l D kc b f a0 q1 q19) C hM (by decide) h0 rfl hl.1 rfl rfl (Nat.le_of_ble_eq_true rfl) dX11_distance_2 ⟨Nat.le_of_ble_eq_true rfl, Nat.le_of_ble_eq_true rfl⟩ ⟨Nat.le_of_ble_eq_true rfl, Nat.le_of_ble_eq_true rfl⟩) hM (fun r20 n21 f1 H locs hp hM => ?_)
    have hp : r20 = none ∧ n21 = 220 ∧ f1 = f := hp
    obtain ⟨rfl, rfl, ef1⟩ := hp
    refine m_vv (y := .null) rfl ?_
    refine lv_astore_nN (lv' := [(3, .null), (0, .ref (b + 0)), (1, .int a0), (2, .int a1)]) hx hb dX11_distance_5 rfl hl (by decide) rfl (fun ls hl => ?_)
    by_cases q22 : a1 < 0
    · refine lv_aload_n hx hb dX11_distance_6 rfl (lv_at hl 1 rfl) ?_
      refine lv_iload_n hx hb dX11_distance_7 rfl (lv_at hl 3 rfl) ?_
      have h0_1 : f1 0 = .inr (11, [.ref (b + 1), .ref (b + 3), .ref (b + 4), .ref (b + 6), .ref (b + 8), .ref (b + 10), .ref (b + 174), .ref (b + 177), .ref (b + 178), .ref (b + 181), .ref (b + 183), .ref (b + 190)]) := m_sm ef1 h0
      refine m_goq (m_runV calV_X11_sheetOf wd_845 (a_X11_sheetOf_5 l D kc b f1 a1 q22) C hM (by decide) h0_1 rfl hl.1 rfl rfl (Nat.le_of_ble_eq_true rfl) dX11_distance_8 ⟨Nat.le_of_ble_eq_true rfl, Nat.le_of_ble_eq_true rfl⟩ ⟨Nat.le_of_ble_eq_true rfl, Nat.le_of_ble_eq_true rfl⟩) hM (fun r23 n24 f2 H locs hp hM => ?_)
      have hp : r23 = none ∧ n24 = 220 ∧ f2 = f1 := hp
      obtain ⟨rfl, rfl, ef2⟩ := hp
      refine m_vv (y := .null) rfl ?_
      refine lv_astoreN (lv' := [(4, .null), (3, .null), (0, .ref (b + 0)), (1, .int a0), (2, .int a1)]) hx hb dX11_distance_11 hl (by decide) rfl (fun ls hl => ?_)
      refine lv_aload_nN hx hb dX11_distance_13 rfl (lv_at hl 1 rfl) ?_
      refine lv_ifnullN (tgt := 22) hx hb dX11_distance_14 (by decide) ?_
      refine lv_bipush (v := (-2)) hx hb dX11_distance_22 (by decide) ?_
      have fr_1 : ∀ j, 192 ≤ j → f1 j = f j := fun j hj => m_sm ef1 (rfl)
      have fr_2 : ∀ j, 192 ≤ j → f2 j = f j := fun j hj => m_sm ef2 (fr_1 j hj)
      exact m_iret C hr hlk hM (⟨by unfold p_distance; rw [if_neg (by revert q1 q19 q22; simp only [Int32.lt_iff_toInt_lt, Int32.le_iff_toInt_le, m_lits]; omega)], rfl, fr_2⟩) dX11_distance_24
    by_cases q25 : 2 < a1
    · refine lv_aload_n hx hb dX11_distance_6 rfl (lv_at hl 1 rfl) ?_
      refine lv_iload_n hx hb dX11_distance_7 rfl (lv_at hl 3 rfl) ?_
      have h0_1 : f1 0 = .inr (11, [.ref (b + 1), .ref (b + 3), .ref (b + 4), .ref (b + 6), .ref (b + 8), .ref (b + 10), .ref (b + 174), .ref (b + 177), .ref (b + 178), .ref (b + 181), .ref (b + 183), .ref (b + 190)]) := m_sm ef1 h0
      refine m_goq (m_runV calV_X11_sheetOf wd_845 (a_X11_sheetOf_6 l D kc b f1 a1 q22 q25) C hM (by decide) h0_1 rfl hl.1 rfl rfl (Nat.le_of_ble_eq_true rfl) dX11_distance_8 ⟨Nat.le_of_ble_eq_true rfl, Nat.le_of_ble_eq_true rfl⟩ ⟨Nat.le_of_ble_eq_true rfl, Nat.le_of_ble_eq_true rfl⟩) hM (fun r26 n27 f2 H locs hp hM => ?_)
      have hp : r26 = none ∧ n27 = 220 ∧ f2 = f1 := hp
      obtain ⟨rfl, rfl, ef2⟩ := hp
      refine m_vv (y := .null) rfl ?_
      refine lv_astoreN (lv' := [(4, .null), (3, .null), (0, .ref (b + 0)), (1, .int a0), (2, .int a1)]) hx hb dX11_distance_11 hl (by decide) rfl (fun ls hl => ?_)
      refine lv_aload_nN hx hb dX11_distance_13 rfl (lv_at hl 1 rfl) ?_
      refine lv_ifnullN (tgt := 22) hx hb dX11_distance_14 (by decide) ?_
      refine lv_bipush (v := (-2)) hx hb dX11_distance_22 (by decide) ?_
      have fr_1 : ∀ j, 192 ≤ j → f1 j = f j := fun j hj => m_sm ef1 (rfl)
      have fr_2 : ∀ j, 192 ≤ j → f2 j = f j := fun j hj => m_sm ef2 (fr_1 j hj)
      exact m_iret C hr hlk hM (⟨by unfold p_distance; rw [if_neg (by revert q1 q19 q22 q25; simp only [Int32.lt_iff_toInt_lt, Int32.le_iff_toInt_le, m_lits]; omega)], rfl, fr_2⟩) dX11_distance_24
    by_cases s28 : a1 = 0
    · subst s28
      refine lv_aload_n hx hb dX11_distance_6 rfl (lv_at hl 1 rfl) ?_
      refine lv_iload_n hx hb dX11_distance_7 rfl (lv_at hl 3 rfl) ?_
      have h0_1 : f1 0 = .inr (11, [.ref (b + 1), .ref (b + 3), .ref (b + 4), .ref (b + 6), .ref (b + 8), .ref (b + 10), .ref (b + 174), .ref (b + 177), .ref (b + 178), .ref (b + 181), .ref (b + 183), .ref (b + 190)]) := m_sm ef1 h0
      refine m_goq (m_runV calV_X11_sheetOf wd_845 (a_X11_sheetOf_2 l D kc b f1 h0_1) C hM (by decide) h0_1 rfl hl.1 rfl rfl (Nat.le_of_ble_eq_true rfl) dX11_distance_8 ⟨Nat.le_of_ble_eq_true rfl, Nat.le_of_ble_eq_true rfl⟩ ⟨Nat.le_of_ble_eq_true rfl, Nat.le_of_ble_eq_true rfl⟩) hM (fun r29 n30 f2 H locs hp hM => ?_)
      have hp : r29 = some (b + 4) ∧ n30 = 220 ∧ f2 = f1 := hp
      obtain ⟨rfl, rfl, ef2⟩ := hp
      refine m_vv (y := .ref (b + 4)) rfl ?_
      refine lv_astore (lv' := [(4, .ref (b + 4)), (3, .null), (0, .ref (b + 0)), (1, .int a0), (2, .int 0)]) hx hb dX11_distance_11 hl (by decide) rfl (fun ls hl => ?_)
      refine lv_aload_nN hx hb dX11_distance_13 rfl (lv_at hl 1 rfl) ?_
      refine lv_ifnullN (tgt := 22) hx hb dX11_distance_14 (by decide) ?_
      refine lv_bipush (v := (-2)) hx hb dX11_distance_22 (by decide) ?_
      have fr_1 : ∀ j, 192 ≤ j → f1 j = f j := fun j hj => m_sm ef1 (rfl)
      have fr_2 : ∀ j, 192 ≤ j → f2 j = f j := fun j hj => m_sm ef2 (fr_1 j hj)
      exact m_iret C hr hlk hM (⟨by unfold p_distance; rw [if_neg (by revert q1 q19; simp only [Int32.lt_iff_toInt_lt, Int32.le_iff_toInt_le, m_lits]; omega)], rfl, fr_2⟩) dX11_distance_24
    by_cases s31 : a1 = 1
    · subst s31
      refine lv_aload_n hx hb dX11_distance_6 rfl (lv_at hl 1 rfl) ?_
      refine lv_iload_n hx hb dX11_distance_7 rfl (lv_at hl 3 rfl) ?_
      have h0_1 : f1 0 = .inr (11, [.ref (b + 1), .ref (b + 3), .ref (b + 4), .ref (b + 6), .ref (b + 8), .ref (b + 10), .ref (b + 174), .ref (b + 177), .ref (b + 178), .ref (b + 181), .ref (b + 183), .ref (b + 190)]) := m_sm ef1 h0
      refine m_goq (m_runV calV_X11_sheetOf wd_845 (a_X11_sheetOf_3 l D kc b f1 h0_1) C hM (by decide) h0_1 rfl hl.1 rfl rfl (Nat.le_of_ble_eq_true rfl) dX11_distance_8 ⟨Nat.le_of_ble_eq_true rfl, Nat.le_of_ble_eq_true rfl⟩ ⟨Nat.le_of_ble_eq_true rfl, Nat.le_of_ble_eq_true rfl⟩) hM (fun r32 n33 f2 H locs hp hM => ?_)
      have hp : r32 = some (b + 6) ∧ n33 = 220 ∧ f2 = f1 := hp
      obtain ⟨rfl, rfl, ef2⟩ := hp
      refine m_vv (y := .ref (b + 6)) rfl ?_
      refine lv_astore (lv' := [(4, .ref (b + 6)), (3, .null), (0, .ref (b + 0)), (1, .int a0), (2, .int 1)]) hx hb dX11_distance_11 hl (by decide) rfl (fun ls hl => ?_)
      refine lv_aload_nN hx hb dX11_distance_13 rfl (lv_at hl 1 rfl) ?_
      refine lv_ifnullN (tgt := 22) hx hb dX11_distance_14 (by decide) ?_
      refine lv_bipush (v := (-2)) hx hb dX11_distance_22 (by decide) ?_
      have fr_1 : ∀ j, 192 ≤ j → f1 j = f j := fun j hj => m_sm ef1 (rfl)
      have fr_2 : ∀ j, 192 ≤ j → f2 j = f j := fun j hj => m_sm ef2 (fr_1 j hj)
      exact m_iret C hr hlk hM (⟨by unfold p_distance; rw [if_neg (by revert q1 q19; simp only [Int32.lt_iff_toInt_lt, Int32.le_iff_toInt_le, m_lits]; omega)], rfl, fr_2⟩) dX11_distance_24
    by_cases s34 : a1 = 2
    · subst s34
      refine lv_aload_n hx hb dX11_distance_6 rfl (lv_at hl 1 rfl) ?_
      refine lv_iload_n hx hb dX11_distance_7 rfl (lv_at hl 3 rfl) ?_
      have h0_1 : f1 0 = .inr (11, [.ref (b + 1), .ref (b + 3), .ref (b + 4), .ref (b + 6), .ref (b + 8), .ref (b + 10), .ref (b + 174), .ref (b + 177), .ref (b + 178), .ref (b + 181), .ref (b + 183), .ref (b + 190)]) := m_sm ef1 h0
      refine m_goq (m_runV calV_X11_sheetOf wd_845 (a_X11_sheetOf_4 l D kc b f1 h0_1) C hM (by decide) h0_1 rfl hl.1 rfl rfl (Nat.le_of_ble_eq_true rfl) dX11_distance_8 ⟨Nat.le_of_ble_eq_true rfl, Nat.le_of_ble_eq_true rfl⟩ ⟨Nat.le_of_ble_eq_true rfl, Nat.le_of_ble_eq_true rfl⟩) hM (fun r35 n36 f2 H locs hp hM => ?_)
      have hp : r35 = some (b + 8) ∧ n36 = 220 ∧ f2 = f1 := hp
      obtain ⟨rfl, rfl, ef2⟩ := hp
      refine m_vv (y := .ref (b + 8)) rfl ?_
      refine lv_astore (lv' := [(4, .ref (b + 8)), (3, .null), (0, .ref (b + 0)), (1, .int a0), (2, .int 2)]) hx hb dX11_distance_11 hl (by decide) rfl (fun ls hl => ?_)
      refine lv_aload_nN hx hb dX11_distance_13 rfl (lv_at hl 1 rfl) ?_
      refine lv_ifnullN (tgt := 22) hx hb dX11_distance_14 (by decide) ?_
      refine lv_bipush (v := (-2)) hx hb dX11_distance_22 (by decide) ?_
      have fr_1 : ∀ j, 192 ≤ j → f1 j = f j := fun j hj => m_sm ef1 (rfl)
      have fr_2 : ∀ j, 192 ≤ j → f2 j = f j := fun j hj => m_sm ef2 (fr_1 j hj)
      exact m_iret C hr hlk hM (⟨by unfold p_distance; rw [if_neg (by revert q1 q19; simp only [Int32.lt_iff_toInt_lt, Int32.le_iff_toInt_le, m_lits]; omega)], rfl, fr_2⟩) dX11_distance_24
    exfalso; revert q22 q25 s28 s31 s34; simp only [← Int32.toInt_inj, Int32.lt_iff_toInt_lt, Int32.le_iff_toInt_le, m_lits]; omega
  by_cases s37 : a0 = 0
  · subst s37
    refine lv_aload_n hx hb dX11_distance_0 rfl (lv_at hl 0 rfl) ?_
    refine lv_iload_n hx hb dX11_distance_1 rfl (lv_at hl 1 rfl) ?_
    refine m_goq (m_runV calV_X11_sheetOf wd_845 (a_X11_sheetOf_2 l D kc b f h0) C hM (by decide) h0 rfl hl.1 rfl rfl (Nat.le_of_ble_eq_true rfl) dX11_distance_2 ⟨Nat.le_of_ble_eq_true rfl, Nat.le_of_ble_eq_true rfl⟩ ⟨Nat.le_of_ble_eq_true rfl, Nat.le_of_ble_eq_true rfl⟩) hM (fun r38 n39 f1 H locs hp hM => ?_)
    have hp : r38 = some (b + 4) ∧ n39 = 220 ∧ f1 = f := hp
    obtain ⟨rfl, rfl, ef1⟩ := hp
    refine m_vv (y := .ref (b + 4)) rfl ?_
    refine lv_astore_n (lv' := [(3, .ref (b + 4)), (0, .ref (b + 0)), (1, .int 0), (2, .int a1)]) hx hb dX11_distance_5 rfl hl (by decide) rfl (fun ls hl => ?_)
    by_cases q40 : a1 < 0
    · refine lv_aload_n hx hb dX11_distance_6 rfl (lv_at hl 1 rfl) ?_
      refine lv_iload_n hx hb dX11_distance_7 rfl (lv_at hl 3 rfl) ?_
      have h0_1 : f1 0 = .inr (11, [.ref (b + 1), .ref (b + 3), .ref (b + 4), .ref (b + 6), .ref (b + 8), .ref (b + 10), .ref (b + 174), .ref (b + 177), .ref (b + 178), .ref (b + 181), .ref (b + 183), .ref (b + 190)]) := m_sm ef1 h0
      refine m_goq (m_runV calV_X11_sheetOf wd_845 (a_X11_sheetOf_5 l D kc b f1 a1 q40) C hM (by decide) h0_1 rfl hl.1 rfl rfl (Nat.le_of_ble_eq_true rfl) dX11_distance_8 ⟨Nat.le_of_ble_eq_true rfl, Nat.le_of_ble_eq_true rfl⟩ ⟨Nat.le_of_ble_eq_true rfl, Nat.le_of_ble_eq_true rfl⟩) hM (fun r41 n42 f2 H locs hp hM => ?_)
      have hp : r41 = none ∧ n42 = 220 ∧ f2 = f1 := hp
      obtain ⟨rfl, rfl, ef2⟩ := hp
      refine m_vv (y := .null) rfl ?_
      refine lv_astoreN (lv' := [(4, .null), (3, .ref (b + 4)), (0, .ref (b + 0)), (1, .int 0), (2, .int a1)]) hx hb dX11_distance_11 hl (by decide) rfl (fun ls hl => ?_)
      refine lv_aload_n hx hb dX11_distance_13 rfl (lv_at hl 1 rfl) ?_
      refine lv_ifnull hx hb dX11_distance_14 ?_
      refine lv_aloadN hx hb dX11_distance_17 (lv_at hl 0 rfl) ?_
      refine lv_ifnonnullN hx hb dX11_distance_19 ?_
      refine lv_bipush (v := (-2)) hx hb dX11_distance_22 (by decide) ?_
      have fr_1 : ∀ j, 192 ≤ j → f1 j = f j := fun j hj => m_sm ef1 (rfl)
      have fr_2 : ∀ j, 192 ≤ j → f2 j = f j := fun j hj => m_sm ef2 (fr_1 j hj)
      exact m_iret C hr hlk hM (⟨by unfold p_distance; rw [if_neg (by revert q40; simp only [Int32.lt_iff_toInt_lt, Int32.le_iff_toInt_le, m_lits]; omega)], rfl, fr_2⟩) dX11_distance_24
    by_cases q43 : 2 < a1
    · refine lv_aload_n hx hb dX11_distance_6 rfl (lv_at hl 1 rfl) ?_
      refine lv_iload_n hx hb dX11_distance_7 rfl (lv_at hl 3 rfl) ?_
      have h0_1 : f1 0 = .inr (11, [.ref (b + 1), .ref (b + 3), .ref (b + 4), .ref (b + 6), .ref (b + 8), .ref (b + 10), .ref (b + 174), .ref (b + 177), .ref (b + 178), .ref (b + 181), .ref (b + 183), .ref (b + 190)]) := m_sm ef1 h0
      refine m_goq (m_runV calV_X11_sheetOf wd_845 (a_X11_sheetOf_6 l D kc b f1 a1 q40 q43) C hM (by decide) h0_1 rfl hl.1 rfl rfl (Nat.le_of_ble_eq_true rfl) dX11_distance_8 ⟨Nat.le_of_ble_eq_true rfl, Nat.le_of_ble_eq_true rfl⟩ ⟨Nat.le_of_ble_eq_true rfl, Nat.le_of_ble_eq_true rfl⟩) hM (fun r44 n45 f2 H locs hp hM => ?_)
      have hp : r44 = none ∧ n45 = 220 ∧ f2 = f1 := hp
      obtain ⟨rfl, rfl, ef2⟩ := hp
      refine m_vv (y := .null) rfl ?_
      refine lv_astoreN (lv' := [(4, .null), (3, .ref (b + 4)), (0, .ref (b + 0)), (1, .int 0), (2, .int a1)]) hx hb dX11_distance_11 hl (by decide) rfl (fun ls hl => ?_)
      refine lv_aload_n hx hb dX11_distance_13 rfl (lv_at hl 1 rfl) ?_
      refine lv_ifnull hx hb dX11_distance_14 ?_
      refine lv_aloadN hx hb dX11_distance_17 (lv_at hl 0 rfl) ?_
      refine lv_ifnonnullN hx hb dX11_distance_19 ?_
      refine lv_bipush (v := (-2)) hx hb dX11_distance_22 (by decide) ?_
      have fr_1 : ∀ j, 192 ≤ j → f1 j = f j := fun j hj => m_sm ef1 (rfl)
      have fr_2 : ∀ j, 192 ≤ j → f2 j = f j := fun j hj => m_sm ef2 (fr_1 j hj)
      exact m_iret C hr hlk hM (⟨by unfold p_distance; rw [if_neg (by revert q40 q43; simp only [Int32.lt_iff_toInt_lt, Int32.le_iff_toInt_le, m_lits]; omega)], rfl, fr_2⟩) dX11_distance_24
    by_cases s46 : a1 = 0
    · subst s46
      refine lv_aload_n hx hb dX11_distance_6 rfl (lv_at hl 1 rfl) ?_
      refine lv_iload_n hx hb dX11_distance_7 rfl (lv_at hl 3 rfl) ?_
      have h0_1 : f1 0 = .inr (11, [.ref (b + 1), .ref (b + 3), .ref (b + 4), .ref (b + 6), .ref (b + 8), .ref (b + 10), .ref (b + 174), .ref (b + 177), .ref (b + 178), .ref (b + 181), .ref (b + 183), .ref (b + 190)]) := m_sm ef1 h0
      refine m_goq (m_runV calV_X11_sheetOf wd_845 (a_X11_sheetOf_2 l D kc b f1 h0_1) C hM (by decide) h0_1 rfl hl.1 rfl rfl (Nat.le_of_ble_eq_true rfl) dX11_distance_8 ⟨Nat.le_of_ble_eq_true rfl, Nat.le_of_ble_eq_true rfl⟩ ⟨Nat.le_of_ble_eq_true rfl, Nat.le_of_ble_eq_true rfl⟩) hM (fun r47 n48 f2 H locs hp hM => ?_)
      have hp : r47 = some (b + 4) ∧ n48 = 220 ∧ f2 = f1 := hp
      obtain ⟨rfl, rfl, ef2⟩ := hp
      refine m_vv (y := .ref (b + 4)) rfl ?_
      refine lv_astore (lv' := [(4, .ref (b + 4)), (3, .ref (b + 4)), (0, .ref (b + 0)), (1, .int 0), (2, .int 0)]) hx hb dX11_distance_11 hl (by decide) rfl (fun ls hl => ?_)
      refine lv_aload_n hx hb dX11_distance_13 rfl (lv_at hl 1 rfl) ?_
      refine lv_ifnull hx hb dX11_distance_14 ?_
      refine lv_aload hx hb dX11_distance_17 (lv_at hl 0 rfl) ?_
      refine lv_ifnonnull (tgt := 25) hx hb dX11_distance_19 (by decide) ?_
      refine lv_aload_n hx hb dX11_distance_25 rfl (lv_at hl 2 rfl) ?_
      have h0_2 : f2 0 = .inr (11, [.ref (b + 1), .ref (b + 3), .ref (b + 4), .ref (b + 6), .ref (b + 8), .ref (b + 10), .ref (b + 174), .ref (b + 177), .ref (b + 178), .ref (b + 181), .ref (b + 183), .ref (b + 190)]) := m_sm ef2 h0_1
      refine m_get fl_X11_69_X11 C hM (i := 0) (by decide) h0_2 (v := .ref (b + 181)) rfl dX11_distance_26 ?_
      refine lv_aload_n hx hb dX11_distance_29 rfl (lv_at hl 1 rfl) ?_
      refine lv_iconst (v := 0) hx hb dX11_distance_30 (by decide) ?_
      refine lv_aload hx hb dX11_distance_31 (lv_at hl 0 rfl) ?_
      refine lv_iconst (v := 0) hx hb dX11_distance_33 (by decide) ?_
      refine lv_sipush (v := 300) hx hb dX11_distance_34 (by decide) ?_
      have h4_1 : f1 4 = .inr (8, [.ref (b + 5), .int 0]) := m_sm ef1 h4
      have h4_2 : f2 4 = .inr (8, [.ref (b + 5), .int 0]) := m_sm ef2 h4_1
      have h181_1 : f1 181 = .inr (6, [.ref (b + 182)]) := m_sm ef1 h181
      have h181_2 : f2 181 = .inr (6, [.ref (b + 182)]) := m_sm ef2 h181_1
      have h182_1 : f1 182 = .inl (kc 1, 301, .inl (fun _ => 0)) := m_sm ef1 h182
      have h182_2 : f2 182 = .inl (kc 1, 301, .inl (fun _ => 0)) := m_sm ef2 h182_1
      refine m_goi (m_runV calV_X6_measure wd_969 (a_X6_measure_1 l D kc b f2 h4_2 h181_2 h182_2) C hM (by decide) h181_2 rfl hl.1 rfl rfl (Nat.le_of_ble_eq_true rfl) dX11_distance_37 ⟨Nat.le_of_ble_eq_true rfl, Nat.le_of_ble_eq_true rfl⟩ ⟨Nat.le_of_ble_eq_true rfl, Nat.le_of_ble_eq_true rfl⟩) hM (fun r49 n50 f3 H locs hp hM => ?_)
      have hp : r49 = 0 ∧ n50 = 220 ∧ f3 = va_up f2 182 (.inl (kc 1, 301, .inl (upd (fun _ => 0) 0 0))) := hp
      obtain ⟨rfl, rfl, ef3⟩ := hp
      have fr_1 : ∀ j, 192 ≤ j → f1 j = f j := fun j hj => m_sm ef1 (rfl)
      have fr_2 : ∀ j, 192 ≤ j → f2 j = f j := fun j hj => m_sm ef2 (fr_1 j hj)
      have fr_3 : ∀ j, 192 ≤ j → f3 j = f j := fun j hj => m_ne ef3 (fr_2 j hj) (by omega)
      exact m_iret C hr hlk hM (⟨by decide, rfl, fr_3⟩) dX11_distance_40
    by_cases s51 : a1 = 1
    · subst s51
      refine lv_aload_n hx hb dX11_distance_6 rfl (lv_at hl 1 rfl) ?_
      refine lv_iload_n hx hb dX11_distance_7 rfl (lv_at hl 3 rfl) ?_
      have h0_1 : f1 0 = .inr (11, [.ref (b + 1), .ref (b + 3), .ref (b + 4), .ref (b + 6), .ref (b + 8), .ref (b + 10), .ref (b + 174), .ref (b + 177), .ref (b + 178), .ref (b + 181), .ref (b + 183), .ref (b + 190)]) := m_sm ef1 h0
      refine m_goq (m_runV calV_X11_sheetOf wd_845 (a_X11_sheetOf_3 l D kc b f1 h0_1) C hM (by decide) h0_1 rfl hl.1 rfl rfl (Nat.le_of_ble_eq_true rfl) dX11_distance_8 ⟨Nat.le_of_ble_eq_true rfl, Nat.le_of_ble_eq_true rfl⟩ ⟨Nat.le_of_ble_eq_true rfl, Nat.le_of_ble_eq_true rfl⟩) hM (fun r52 n53 f2 H locs hp hM => ?_)
      have hp : r52 = some (b + 6) ∧ n53 = 220 ∧ f2 = f1 := hp
      obtain ⟨rfl, rfl, ef2⟩ := hp
      refine m_vv (y := .ref (b + 6)) rfl ?_
      refine lv_astore (lv' := [(4, .ref (b + 6)), (3, .ref (b + 4)), (0, .ref (b + 0)), (1, .int 0), (2, .int 1)]) hx hb dX11_distance_11 hl (by decide) rfl (fun ls hl => ?_)
      refine lv_aload_n hx hb dX11_distance_13 rfl (lv_at hl 1 rfl) ?_
      refine lv_ifnull hx hb dX11_distance_14 ?_
      refine lv_aload hx hb dX11_distance_17 (lv_at hl 0 rfl) ?_
      refine lv_ifnonnull (tgt := 25) hx hb dX11_distance_19 (by decide) ?_
      refine lv_aload_n hx hb dX11_distance_25 rfl (lv_at hl 2 rfl) ?_
      have h0_2 : f2 0 = .inr (11, [.ref (b + 1), .ref (b + 3), .ref (b + 4), .ref (b + 6), .ref (b + 8), .ref (b + 10), .ref (b + 174), .ref (b + 177), .ref (b + 178), .ref (b + 181), .ref (b + 183), .ref (b + 190)]) := m_sm ef2 h0_1
      refine m_get fl_X11_69_X11 C hM (i := 0) (by decide) h0_2 (v := .ref (b + 181)) rfl dX11_distance_26 ?_
      refine lv_aload_n hx hb dX11_distance_29 rfl (lv_at hl 1 rfl) ?_
      refine lv_iconst (v := 0) hx hb dX11_distance_30 (by decide) ?_
      refine lv_aload hx hb dX11_distance_31 (lv_at hl 0 rfl) ?_
      refine lv_iconst (v := 0) hx hb dX11_distance_33 (by decide) ?_
      refine lv_sipush (v := 300) hx hb dX11_distance_34 (by decide) ?_
      have h4_1 : f1 4 = .inr (8, [.ref (b + 5), .int 0]) := m_sm ef1 h4
      have h4_2 : f2 4 = .inr (8, [.ref (b + 5), .int 0]) := m_sm ef2 h4_1
      have h6_1 : f1 6 = .inr (8, [.ref (b + 7), .int 0]) := m_sm ef1 h6
      have h6_2 : f2 6 = .inr (8, [.ref (b + 7), .int 0]) := m_sm ef2 h6_1
      have h181_1 : f1 181 = .inr (6, [.ref (b + 182)]) := m_sm ef1 h181
      have h181_2 : f2 181 = .inr (6, [.ref (b + 182)]) := m_sm ef2 h181_1
      have h182_1 : f1 182 = .inl (kc 1, 301, .inl (fun _ => 0)) := m_sm ef1 h182
      have h182_2 : f2 182 = .inl (kc 1, 301, .inl (fun _ => 0)) := m_sm ef2 h182_1
      refine m_goi (m_runV calV_X6_measure wd_969 (a_X6_measure_2 l D kc b f2 h4_2 h6_2 h181_2 h182_2) C hM (by decide) h181_2 rfl hl.1 rfl rfl (Nat.le_of_ble_eq_true rfl) dX11_distance_37 ⟨Nat.le_of_ble_eq_true rfl, Nat.le_of_ble_eq_true rfl⟩ ⟨Nat.le_of_ble_eq_true rfl, Nat.le_of_ble_eq_true rfl⟩) hM (fun r54 n55 f3 H locs hp hM => ?_)
      have hp : r54 = 0 ∧ n55 = 220 ∧ f3 = va_up f2 182 (.inl (kc 1, 301, .inl (upd (fun _ => 0) 0 0))) := hp
      obtain ⟨rfl, rfl, ef3⟩ := hp
      have fr_1 : ∀ j, 192 ≤ j → f1 j = f j := fun j hj => m_sm ef1 (rfl)
      have fr_2 : ∀ j, 192 ≤ j → f2 j = f j := fun j hj => m_sm ef2 (fr_1 j hj)
      have fr_3 : ∀ j, 192 ≤ j → f3 j = f j := fun j hj => m_ne ef3 (fr_2 j hj) (by omega)
      exact m_iret C hr hlk hM (⟨by decide, rfl, fr_3⟩) dX11_distance_40
    by_cases s56 : a1 = 2
    · subst s56
      refine lv_aload_n hx hb dX11_distance_6 rfl (lv_at hl 1 rfl) ?_
      refine lv_iload_n hx hb dX11_distance_7 rfl (lv_at hl 3 rfl) ?_
      have h0_1 : f1 0 = .inr (11, [.ref (b + 1), .ref (b + 3), .ref (b + 4), .ref (b + 6), .ref (b + 8), .ref (b + 10), .ref (b + 174), .ref (b + 177), .ref (b + 178), .ref (b + 181), .ref (b + 183), .ref (b + 190)]) := m_sm ef1 h0
      refine m_goq (m_runV calV_X11_sheetOf wd_845 (a_X11_sheetOf_4 l D kc b f1 h0_1) C hM (by decide) h0_1 rfl hl.1 rfl rfl (Nat.le_of_ble_eq_true rfl) dX11_distance_8 ⟨Nat.le_of_ble_eq_true rfl, Nat.le_of_ble_eq_true rfl⟩ ⟨Nat.le_of_ble_eq_true rfl, Nat.le_of_ble_eq_true rfl⟩) hM (fun r57 n58 f2 H locs hp hM => ?_)
      have hp : r57 = some (b + 8) ∧ n58 = 220 ∧ f2 = f1 := hp
      obtain ⟨rfl, rfl, ef2⟩ := hp
      refine m_vv (y := .ref (b + 8)) rfl ?_
      refine lv_astore (lv' := [(4, .ref (b + 8)), (3, .ref (b + 4)), (0, .ref (b + 0)), (1, .int 0), (2, .int 2)]) hx hb dX11_distance_11 hl (by decide) rfl (fun ls hl => ?_)
      refine lv_aload_n hx hb dX11_distance_13 rfl (lv_at hl 1 rfl) ?_
      refine lv_ifnull hx hb dX11_distance_14 ?_
      refine lv_aload hx hb dX11_distance_17 (lv_at hl 0 rfl) ?_
      refine lv_ifnonnull (tgt := 25) hx hb dX11_distance_19 (by decide) ?_
      refine lv_aload_n hx hb dX11_distance_25 rfl (lv_at hl 2 rfl) ?_
      have h0_2 : f2 0 = .inr (11, [.ref (b + 1), .ref (b + 3), .ref (b + 4), .ref (b + 6), .ref (b + 8), .ref (b + 10), .ref (b + 174), .ref (b + 177), .ref (b + 178), .ref (b + 181), .ref (b + 183), .ref (b + 190)]) := m_sm ef2 h0_1
      refine m_get fl_X11_69_X11 C hM (i := 0) (by decide) h0_2 (v := .ref (b + 181)) rfl dX11_distance_26 ?_
      refine lv_aload_n hx hb dX11_distance_29 rfl (lv_at hl 1 rfl) ?_
      refine lv_iconst (v := 0) hx hb dX11_distance_30 (by decide) ?_
      refine lv_aload hx hb dX11_distance_31 (lv_at hl 0 rfl) ?_
      refine lv_iconst (v := 0) hx hb dX11_distance_33 (by decide) ?_
      refine lv_sipush (v := 300) hx hb dX11_distance_34 (by decide) ?_
      have h4_1 : f1 4 = .inr (8, [.ref (b + 5), .int 0]) := m_sm ef1 h4
      have h4_2 : f2 4 = .inr (8, [.ref (b + 5), .int 0]) := m_sm ef2 h4_1
      have h8_1 : f1 8 = .inr (8, [.ref (b + 9), .int 0]) := m_sm ef1 h8
      have h8_2 : f2 8 = .inr (8, [.ref (b + 9), .int 0]) := m_sm ef2 h8_1
      have h181_1 : f1 181 = .inr (6, [.ref (b + 182)]) := m_sm ef1 h181
      have h181_2 : f2 181 = .inr (6, [.ref (b + 182)]) := m_sm ef2 h181_1
      have h182_1 : f1 182 = .inl (kc 1, 301, .inl (fun _ => 0)) := m_sm ef1 h182
      have h182_2 : f2 182 = .inl (kc 1, 301, .inl (fun _ => 0)) := m_sm ef2 h182_1
      refine m_goi (m_runV calV_X6_measure wd_969 (a_X6_measure_3 l D kc b f2 h4_2 h8_2 h181_2 h182_2) C hM (by decide) h181_2 rfl hl.1 rfl rfl (Nat.le_of_ble_eq_true rfl) dX11_distance_37 ⟨Nat.le_of_ble_eq_true rfl, Nat.le_of_ble_eq_true rfl⟩ ⟨Nat.le_of_ble_eq_true rfl, Nat.le_of_ble_eq_true rfl⟩) hM (fun r59 n60 f3 H locs hp hM => ?_)
      have hp : r59 = 0 ∧ n60 = 220 ∧ f3 = va_up f2 182 (.inl (kc 1, 301, .inl (upd (fun _ => 0) 0 0))) := hp
      obtain ⟨rfl, rfl, ef3⟩ := hp
      have fr_1 : ∀ j, 192 ≤ j → f1 j = f j := fun j hj => m_sm ef1 (rfl)
      have fr_2 : ∀ j, 192 ≤ j → f2 j = f j := fun j hj => m_sm ef2 (fr_1 j hj)
      have fr_3 : ∀ j, 192 ≤ j → f3 j = f j := fun j hj => m_ne ef3 (fr_2 j hj) (by omega)
      exact m_iret C hr hlk hM (⟨by decide, rfl, fr_3⟩) dX11_distance_40
    exfalso; revert q40 q43 s46 s51 s56; simp only [← Int32.toInt_inj, Int32.lt_iff_toInt_lt, Int32.le_iff_toInt_le, m_lits]; omega
  by_cases s61 : a0 = 1
  · subst s61
    refine lv_aload_n hx hb dX11_distance_0 rfl (lv_at hl 0 rfl) ?_
    refine lv_iload_n hx hb dX11_distance_1 rfl (lv_at hl 1 rfl) ?_
    refine m_goq (m_runV calV_X11_sheetOf wd_845 (a_X11_sheetOf_3 l D kc b f h0) C hM (by decide) h0 rfl hl.1 rfl rfl (Nat.le_of_ble_eq_true rfl) dX11_distance_2 ⟨Nat.le_of_ble_eq_true rfl, Nat.le_of_ble_eq_true rfl⟩ ⟨Nat.le_of_ble_eq_true rfl, Nat.le_of_ble_eq_true rfl⟩) hM (fun r62 n63 f1 H locs hp hM => ?_)
    have hp : r62 = some (b + 6) ∧ n63 = 220 ∧ f1 = f := hp
    obtain ⟨rfl, rfl, ef1⟩ := hp
    refine m_vv (y := .ref (b + 6)) rfl ?_
    refine lv_astore_n (lv' := [(3, .ref (b + 6)), (0, .ref (b + 0)), (1, .int 1), (2, .int a1)]) hx hb dX11_distance_5 rfl hl (by decide) rfl (fun ls hl => ?_)
    by_cases q64 : a1 < 0
    · refine lv_aload_n hx hb dX11_distance_6 rfl (lv_at hl 1 rfl) ?_
      refine lv_iload_n hx hb dX11_distance_7 rfl (lv_at hl 3 rfl) ?_
      have h0_1 : f1 0 = .inr (11, [.ref (b + 1), .ref (b + 3), .ref (b + 4), .ref (b + 6), .ref (b + 8), .ref (b + 10), .ref (b + 174), .ref (b + 177), .ref (b + 178), .ref (b + 181), .ref (b + 183), .ref (b + 190)]) := m_sm ef1 h0
      refine m_goq (m_runV calV_X11_sheetOf wd_845 (a_X11_sheetOf_5 l D kc b f1 a1 q64) C hM (by decide) h0_1 rfl hl.1 rfl rfl (Nat.le_of_ble_eq_true rfl) dX11_distance_8 ⟨Nat.le_of_ble_eq_true rfl, Nat.le_of_ble_eq_true rfl⟩ ⟨Nat.le_of_ble_eq_true rfl, Nat.le_of_ble_eq_true rfl⟩) hM (fun r65 n66 f2 H locs hp hM => ?_)
      have hp : r65 = none ∧ n66 = 220 ∧ f2 = f1 := hp
      obtain ⟨rfl, rfl, ef2⟩ := hp
      refine m_vv (y := .null) rfl ?_
      refine lv_astoreN (lv' := [(4, .null), (3, .ref (b + 6)), (0, .ref (b + 0)), (1, .int 1), (2, .int a1)]) hx hb dX11_distance_11 hl (by decide) rfl (fun ls hl => ?_)
      refine lv_aload_n hx hb dX11_distance_13 rfl (lv_at hl 1 rfl) ?_
      refine lv_ifnull hx hb dX11_distance_14 ?_
      refine lv_aloadN hx hb dX11_distance_17 (lv_at hl 0 rfl) ?_
      refine lv_ifnonnullN hx hb dX11_distance_19 ?_
      refine lv_bipush (v := (-2)) hx hb dX11_distance_22 (by decide) ?_
      have fr_1 : ∀ j, 192 ≤ j → f1 j = f j := fun j hj => m_sm ef1 (rfl)
      have fr_2 : ∀ j, 192 ≤ j → f2 j = f j := fun j hj => m_sm ef2 (fr_1 j hj)
      exact m_iret C hr hlk hM (⟨by unfold p_distance; rw [if_neg (by revert q64; simp only [Int32.lt_iff_toInt_lt, Int32.le_iff_toInt_le, m_lits]; omega)], rfl, fr_2⟩) dX11_distance_24
    by_cases q67 : 2 < a1
    · refine lv_aload_n hx hb dX11_distance_6 rfl (lv_at hl 1 rfl) ?_
      refine lv_iload_n hx hb dX11_distance_7 rfl (lv_at hl 3 rfl) ?_
      have h0_1 : f1 0 = .inr (11, [.ref (b + 1), .ref (b + 3), .ref (b + 4), .ref (b + 6), .ref (b + 8), .ref (b + 10), .ref (b + 174), .ref (b + 177), .ref (b + 178), .ref (b + 181), .ref (b + 183), .ref (b + 190)]) := m_sm ef1 h0
      refine m_goq (m_runV calV_X11_sheetOf wd_845 (a_X11_sheetOf_6 l D kc b f1 a1 q64 q67) C hM (by decide) h0_1 rfl hl.1 rfl rfl (Nat.le_of_ble_eq_true rfl) dX11_distance_8 ⟨Nat.le_of_ble_eq_true rfl, Nat.le_of_ble_eq_true rfl⟩ ⟨Nat.le_of_ble_eq_true rfl, Nat.le_of_ble_eq_true rfl⟩) hM (fun r68 n69 f2 H locs hp hM => ?_)
      have hp : r68 = none ∧ n69 = 220 ∧ f2 = f1 := hp
      obtain ⟨rfl, rfl, ef2⟩ := hp
      refine m_vv (y := .null) rfl ?_
      refine lv_astoreN (lv' := [(4, .null), (3, .ref (b + 6)), (0, .ref (b + 0)), (1, .int 1), (2, .int a1)]) hx hb dX11_distance_11 hl (by decide) rfl (fun ls hl => ?_)
      refine lv_aload_n hx hb dX11_distance_13 rfl (lv_at hl 1 rfl) ?_
      refine lv_ifnull hx hb dX11_distance_14 ?_
      refine lv_aloadN hx hb dX11_distance_17 (lv_at hl 0 rfl) ?_
      refine lv_ifnonnullN hx hb dX11_distance_19 ?_
      refine lv_bipush (v := (-2)) hx hb dX11_distance_22 (by decide) ?_
      have fr_1 : ∀ j, 192 ≤ j → f1 j = f j := fun j hj => m_sm ef1 (rfl)
      have fr_2 : ∀ j, 192 ≤ j → f2 j = f j := fun j hj => m_sm ef2 (fr_1 j hj)
      exact m_iret C hr hlk hM (⟨by unfold p_distance; rw [if_neg (by revert q64 q67; simp only [Int32.lt_iff_toInt_lt, Int32.le_iff_toInt_le, m_lits]; omega)], rfl, fr_2⟩) dX11_distance_24
    by_cases s70 : a1 = 0
    · subst s70
      refine lv_aload_n hx hb dX11_distance_6 rfl (lv_at hl 1 rfl) ?_
      refine lv_iload_n hx hb dX11_distance_7 rfl (lv_at hl 3 rfl) ?_
      have h0_1 : f1 0 = .inr (11, [.ref (b + 1), .ref (b + 3), .ref (b + 4), .ref (b + 6), .ref (b + 8), .ref (b + 10), .ref (b + 174), .ref (b + 177), .ref (b + 178), .ref (b + 181), .ref (b + 183), .ref (b + 190)]) := m_sm ef1 h0
      refine m_goq (m_runV calV_X11_sheetOf wd_845 (a_X11_sheetOf_2 l D kc b f1 h0_1) C hM (by decide) h0_1 rfl hl.1 rfl rfl (Nat.le_of_ble_eq_true rfl) dX11_distance_8 ⟨Nat.le_of_ble_eq_true rfl, Nat.le_of_ble_eq_true rfl⟩ ⟨Nat.le_of_ble_eq_true rfl, Nat.le_of_ble_eq_true rfl⟩) hM (fun r71 n72 f2 H locs hp hM => ?_)
      have hp : r71 = some (b + 4) ∧ n72 = 220 ∧ f2 = f1 := hp
      obtain ⟨rfl, rfl, ef2⟩ := hp
      refine m_vv (y := .ref (b + 4)) rfl ?_
      refine lv_astore (lv' := [(4, .ref (b + 4)), (3, .ref (b + 6)), (0, .ref (b + 0)), (1, .int 1), (2, .int 0)]) hx hb dX11_distance_11 hl (by decide) rfl (fun ls hl => ?_)
      refine lv_aload_n hx hb dX11_distance_13 rfl (lv_at hl 1 rfl) ?_
      refine lv_ifnull hx hb dX11_distance_14 ?_
      refine lv_aload hx hb dX11_distance_17 (lv_at hl 0 rfl) ?_
      refine lv_ifnonnull (tgt := 25) hx hb dX11_distance_19 (by decide) ?_
      refine lv_aload_n hx hb dX11_distance_25 rfl (lv_at hl 2 rfl) ?_
      have h0_2 : f2 0 = .inr (11, [.ref (b + 1), .ref (b + 3), .ref (b + 4), .ref (b + 6), .ref (b + 8), .ref (b + 10), .ref (b + 174), .ref (b + 177), .ref (b + 178), .ref (b + 181), .ref (b + 183), .ref (b + 190)]) := m_sm ef2 h0_1
      refine m_get fl_X11_69_X11 C hM (i := 0) (by decide) h0_2 (v := .ref (b + 181)) rfl dX11_distance_26 ?_
      refine lv_aload_n hx hb dX11_distance_29 rfl (lv_at hl 1 rfl) ?_
      refine lv_iconst (v := 0) hx hb dX11_distance_30 (by decide) ?_
      refine lv_aload hx hb dX11_distance_31 (lv_at hl 0 rfl) ?_
      refine lv_iconst (v := 0) hx hb dX11_distance_33 (by decide) ?_
      refine lv_sipush (v := 300) hx hb dX11_distance_34 (by decide) ?_
      have h6_1 : f1 6 = .inr (8, [.ref (b + 7), .int 0]) := m_sm ef1 h6
      have h6_2 : f2 6 = .inr (8, [.ref (b + 7), .int 0]) := m_sm ef2 h6_1
      have h4_1 : f1 4 = .inr (8, [.ref (b + 5), .int 0]) := m_sm ef1 h4
      have h4_2 : f2 4 = .inr (8, [.ref (b + 5), .int 0]) := m_sm ef2 h4_1
      have h181_1 : f1 181 = .inr (6, [.ref (b + 182)]) := m_sm ef1 h181
      have h181_2 : f2 181 = .inr (6, [.ref (b + 182)]) := m_sm ef2 h181_1
      have h182_1 : f1 182 = .inl (kc 1, 301, .inl (fun _ => 0)) := m_sm ef1 h182
      have h182_2 : f2 182 = .inl (kc 1, 301, .inl (fun _ => 0)) := m_sm ef2 h182_1
      refine m_goi (m_runV calV_X6_measure wd_969 (a_X6_measure_4 l D kc b f2 h6_2 h4_2 h181_2 h182_2) C hM (by decide) h181_2 rfl hl.1 rfl rfl (Nat.le_of_ble_eq_true rfl) dX11_distance_37 ⟨Nat.le_of_ble_eq_true rfl, Nat.le_of_ble_eq_true rfl⟩ ⟨Nat.le_of_ble_eq_true rfl, Nat.le_of_ble_eq_true rfl⟩) hM (fun r73 n74 f3 H locs hp hM => ?_)
      have hp : r73 = 0 ∧ n74 = 220 ∧ f3 = va_up f2 182 (.inl (kc 1, 301, .inl (upd (fun _ => 0) 0 0))) := hp
      obtain ⟨rfl, rfl, ef3⟩ := hp
      have fr_1 : ∀ j, 192 ≤ j → f1 j = f j := fun j hj => m_sm ef1 (rfl)
      have fr_2 : ∀ j, 192 ≤ j → f2 j = f j := fun j hj => m_sm ef2 (fr_1 j hj)
      have fr_3 : ∀ j, 192 ≤ j → f3 j = f j := fun j hj => m_ne ef3 (fr_2 j hj) (by omega)
      exact m_iret C hr hlk hM (⟨by decide, rfl, fr_3⟩) dX11_distance_40
    by_cases s75 : a1 = 1
    · subst s75
      refine lv_aload_n hx hb dX11_distance_6 rfl (lv_at hl 1 rfl) ?_
      refine lv_iload_n hx hb dX11_distance_7 rfl (lv_at hl 3 rfl) ?_
      have h0_1 : f1 0 = .inr (11, [.ref (b + 1), .ref (b + 3), .ref (b + 4), .ref (b + 6), .ref (b + 8), .ref (b + 10), .ref (b + 174), .ref (b + 177), .ref (b + 178), .ref (b + 181), .ref (b + 183), .ref (b + 190)]) := m_sm ef1 h0
      refine m_goq (m_runV calV_X11_sheetOf wd_845 (a_X11_sheetOf_3 l D kc b f1 h0_1) C hM (by decide) h0_1 rfl hl.1 rfl rfl (Nat.le_of_ble_eq_true rfl) dX11_distance_8 ⟨Nat.le_of_ble_eq_true rfl, Nat.le_of_ble_eq_true rfl⟩ ⟨Nat.le_of_ble_eq_true rfl, Nat.le_of_ble_eq_true rfl⟩) hM (fun r76 n77 f2 H locs hp hM => ?_)
      have hp : r76 = some (b + 6) ∧ n77 = 220 ∧ f2 = f1 := hp
      obtain ⟨rfl, rfl, ef2⟩ := hp
      refine m_vv (y := .ref (b + 6)) rfl ?_
      refine lv_astore (lv' := [(4, .ref (b + 6)), (3, .ref (b + 6)), (0, .ref (b + 0)), (1, .int 1), (2, .int 1)]) hx hb dX11_distance_11 hl (by decide) rfl (fun ls hl => ?_)
      refine lv_aload_n hx hb dX11_distance_13 rfl (lv_at hl 1 rfl) ?_
      refine lv_ifnull hx hb dX11_distance_14 ?_
      refine lv_aload hx hb dX11_distance_17 (lv_at hl 0 rfl) ?_
      refine lv_ifnonnull (tgt := 25) hx hb dX11_distance_19 (by decide) ?_
      refine lv_aload_n hx hb dX11_distance_25 rfl (lv_at hl 2 rfl) ?_
      have h0_2 : f2 0 = .inr (11, [.ref (b + 1), .ref (b + 3), .ref (b + 4), .ref (b + 6), .ref (b + 8), .ref (b + 10), .ref (b + 174), .ref (b + 177), .ref (b + 178), .ref (b + 181), .ref (b + 183), .ref (b + 190)]) := m_sm ef2 h0_1
      refine m_get fl_X11_69_X11 C hM (i := 0) (by decide) h0_2 (v := .ref (b + 181)) rfl dX11_distance_26 ?_
      refine lv_aload_n hx hb dX11_distance_29 rfl (lv_at hl 1 rfl) ?_
      refine lv_iconst (v := 0) hx hb dX11_distance_30 (by decide) ?_
      refine lv_aload hx hb dX11_distance_31 (lv_at hl 0 rfl) ?_
      refine lv_iconst (v := 0) hx hb dX11_distance_33 (by decide) ?_
      refine lv_sipush (v := 300) hx hb dX11_distance_34 (by decide) ?_
      have h6_1 : f1 6 = .inr (8, [.ref (b + 7), .int 0]) := m_sm ef1 h6
      have h6_2 : f2 6 = .inr (8, [.ref (b + 7), .int 0]) := m_sm ef2 h6_1
      have h181_1 : f1 181 = .inr (6, [.ref (b + 182)]) := m_sm ef1 h181
      have h181_2 : f2 181 = .inr (6, [.ref (b + 182)]) := m_sm ef2 h181_1
      have h182_1 : f1 182 = .inl (kc 1, 301, .inl (fun _ => 0)) := m_sm ef1 h182
      have h182_2 : f2 182 = .inl (kc 1, 301, .inl (fun _ => 0)) := m_sm ef2 h182_1
      refine m_goi (m_runV calV_X6_measure wd_969 (a_X6_measure_5 l D kc b f2 h6_2 h181_2 h182_2) C hM (by decide) h181_2 rfl hl.1 rfl rfl (Nat.le_of_ble_eq_true rfl) dX11_distance_37 ⟨Nat.le_of_ble_eq_true rfl, Nat.le_of_ble_eq_true rfl⟩ ⟨Nat.le_of_ble_eq_true rfl, Nat.le_of_ble_eq_true rfl⟩) hM (fun r78 n79 f3 H locs hp hM => ?_)
      have hp : r78 = 0 ∧ n79 = 220 ∧ f3 = va_up f2 182 (.inl (kc 1, 301, .inl (upd (fun _ => 0) 0 0))) := hp
      obtain ⟨rfl, rfl, ef3⟩ := hp
      have fr_1 : ∀ j, 192 ≤ j → f1 j = f j := fun j hj => m_sm ef1 (rfl)
      have fr_2 : ∀ j, 192 ≤ j → f2 j = f j := fun j hj => m_sm ef2 (fr_1 j hj)
      have fr_3 : ∀ j, 192 ≤ j → f3 j = f j := fun j hj => m_ne ef3 (fr_2 j hj) (by omega)
      exact m_iret C hr hlk hM (⟨by decide, rfl, fr_3⟩) dX11_distance_40
    by_cases s80 : a1 = 2
    · subst s80
      refine lv_aload_n hx hb dX11_distance_6 rfl (lv_at hl 1 rfl) ?_
      refine lv_iload_n hx hb dX11_distance_7 rfl (lv_at hl 3 rfl) ?_
      have h0_1 : f1 0 = .inr (11, [.ref (b + 1), .ref (b + 3), .ref (b + 4), .ref (b + 6), .ref (b + 8), .ref (b + 10), .ref (b + 174), .ref (b + 177), .ref (b + 178), .ref (b + 181), .ref (b + 183), .ref (b + 190)]) := m_sm ef1 h0
      refine m_goq (m_runV calV_X11_sheetOf wd_845 (a_X11_sheetOf_4 l D kc b f1 h0_1) C hM (by decide) h0_1 rfl hl.1 rfl rfl (Nat.le_of_ble_eq_true rfl) dX11_distance_8 ⟨Nat.le_of_ble_eq_true rfl, Nat.le_of_ble_eq_true rfl⟩ ⟨Nat.le_of_ble_eq_true rfl, Nat.le_of_ble_eq_true rfl⟩) hM (fun r81 n82 f2 H locs hp hM => ?_)
      have hp : r81 = some (b + 8) ∧ n82 = 220 ∧ f2 = f1 := hp
      obtain ⟨rfl, rfl, ef2⟩ := hp
      refine m_vv (y := .ref (b + 8)) rfl ?_
      refine lv_astore (lv' := [(4, .ref (b + 8)), (3, .ref (b + 6)), (0, .ref (b + 0)), (1, .int 1), (2, .int 2)]) hx hb dX11_distance_11 hl (by decide) rfl (fun ls hl => ?_)
      refine lv_aload_n hx hb dX11_distance_13 rfl (lv_at hl 1 rfl) ?_
      refine lv_ifnull hx hb dX11_distance_14 ?_
      refine lv_aload hx hb dX11_distance_17 (lv_at hl 0 rfl) ?_
      refine lv_ifnonnull (tgt := 25) hx hb dX11_distance_19 (by decide) ?_
      refine lv_aload_n hx hb dX11_distance_25 rfl (lv_at hl 2 rfl) ?_
      have h0_2 : f2 0 = .inr (11, [.ref (b + 1), .ref (b + 3), .ref (b + 4), .ref (b + 6), .ref (b + 8), .ref (b + 10), .ref (b + 174), .ref (b + 177), .ref (b + 178), .ref (b + 181), .ref (b + 183), .ref (b + 190)]) := m_sm ef2 h0_1
      refine m_get fl_X11_69_X11 C hM (i := 0) (by decide) h0_2 (v := .ref (b + 181)) rfl dX11_distance_26 ?_
      refine lv_aload_n hx hb dX11_distance_29 rfl (lv_at hl 1 rfl) ?_
      refine lv_iconst (v := 0) hx hb dX11_distance_30 (by decide) ?_
      refine lv_aload hx hb dX11_distance_31 (lv_at hl 0 rfl) ?_
      refine lv_iconst (v := 0) hx hb dX11_distance_33 (by decide) ?_
      refine lv_sipush (v := 300) hx hb dX11_distance_34 (by decide) ?_
      have h6_1 : f1 6 = .inr (8, [.ref (b + 7), .int 0]) := m_sm ef1 h6
      have h6_2 : f2 6 = .inr (8, [.ref (b + 7), .int 0]) := m_sm ef2 h6_1
      have h8_1 : f1 8 = .inr (8, [.ref (b + 9), .int 0]) := m_sm ef1 h8
      have h8_2 : f2 8 = .inr (8, [.ref (b + 9), .int 0]) := m_sm ef2 h8_1
      have h181_1 : f1 181 = .inr (6, [.ref (b + 182)]) := m_sm ef1 h181
      have h181_2 : f2 181 = .inr (6, [.ref (b + 182)]) := m_sm ef2 h181_1
      have h182_1 : f1 182 = .inl (kc 1, 301, .inl (fun _ => 0)) := m_sm ef1 h182
      have h182_2 : f2 182 = .inl (kc 1, 301, .inl (fun _ => 0)) := m_sm ef2 h182_1
      refine m_goi (m_runV calV_X6_measure wd_969 (a_X6_measure_6 l D kc b f2 h6_2 h8_2 h181_2 h182_2) C hM (by decide) h181_2 rfl hl.1 rfl rfl (Nat.le_of_ble_eq_true rfl) dX11_distance_37 ⟨Nat.le_of_ble_eq_true rfl, Nat.le_of_ble_eq_true rfl⟩ ⟨Nat.le_of_ble_eq_true rfl, Nat.le_of_ble_eq_true rfl⟩) hM (fun r83 n84 f3 H locs hp hM => ?_)
      have hp : r83 = 0 ∧ n84 = 220 ∧ f3 = va_up f2 182 (.inl (kc 1, 301, .inl (upd (fun _ => 0) 0 0))) := hp
      obtain ⟨rfl, rfl, ef3⟩ := hp
      have fr_1 : ∀ j, 192 ≤ j → f1 j = f j := fun j hj => m_sm ef1 (rfl)
      have fr_2 : ∀ j, 192 ≤ j → f2 j = f j := fun j hj => m_sm ef2 (fr_1 j hj)
      have fr_3 : ∀ j, 192 ≤ j → f3 j = f j := fun j hj => m_ne ef3 (fr_2 j hj) (by omega)
      exact m_iret C hr hlk hM (⟨by decide, rfl, fr_3⟩) dX11_distance_40
    exfalso; revert q64 q67 s70 s75 s80; simp only [← Int32.toInt_inj, Int32.lt_iff_toInt_lt, Int32.le_iff_toInt_le, m_lits]; omega
  by_cases s85 : a0 = 2
  · subst s85
    refine lv_aload_n hx hb dX11_distance_0 rfl (lv_at hl 0 rfl) ?_
    refine lv_iload_n hx hb dX11_distance_1 rfl (lv_at hl 1 rfl) ?_
    refine m_goq (m_runV calV_X11_sheetOf wd_845 (a_X11_sheetOf_4 l D kc b f h0) C hM (by decide) h0 rfl hl.1 rfl rfl (Nat.le_of_ble_eq_true rfl) dX11_distance_2 ⟨Nat.le_of_ble_eq_true rfl, Nat.le_of_ble_eq_true rfl⟩ ⟨Nat.le_of_ble_eq_true rfl, Nat.le_of_ble_eq_true rfl⟩) hM (fun r86 n87 f1 H locs hp hM => ?_)
    have hp : r86 = some (b + 8) ∧ n87 = 220 ∧ f1 = f := hp
    obtain ⟨rfl, rfl, ef1⟩ := hp
    refine m_vv (y := .ref (b + 8)) rfl ?_
    refine lv_astore_n (lv' := [(3, .ref (b + 8)), (0, .ref (b + 0)), (1, .int 2), (2, .int a1)]) hx hb dX11_distance_5 rfl hl (by decide) rfl (fun ls hl => ?_)
    by_cases q88 : a1 < 0
    · refine lv_aload_n hx hb dX11_distance_6 rfl (lv_at hl 1 rfl) ?_
      refine lv_iload_n hx hb dX11_distance_7 rfl (lv_at hl 3 rfl) ?_
      have h0_1 : f1 0 = .inr (11, [.ref (b + 1), .ref (b + 3), .ref (b + 4), .ref (b + 6), .ref (b + 8), .ref (b + 10), .ref (b + 174), .ref (b + 177), .ref (b + 178), .ref (b + 181), .ref (b + 183), .ref (b + 190)]) := m_sm ef1 h0
      refine m_goq (m_runV calV_X11_sheetOf wd_845 (a_X11_sheetOf_5 l D kc b f1 a1 q88) C hM (by decide) h0_1 rfl hl.1 rfl rfl (Nat.le_of_ble_eq_true rfl) dX11_distance_8 ⟨Nat.le_of_ble_eq_true rfl, Nat.le_of_ble_eq_true rfl⟩ ⟨Nat.le_of_ble_eq_true rfl, Nat.le_of_ble_eq_true rfl⟩) hM (fun r89 n90 f2 H locs hp hM => ?_)
      have hp : r89 = none ∧ n90 = 220 ∧ f2 = f1 := hp
      obtain ⟨rfl, rfl, ef2⟩ := hp
      refine m_vv (y := .null) rfl ?_
      refine lv_astoreN (lv' := [(4, .null), (3, .ref (b + 8)), (0, .ref (b + 0)), (1, .int 2), (2, .int a1)]) hx hb dX11_distance_11 hl (by decide) rfl (fun ls hl => ?_)
      refine lv_aload_n hx hb dX11_distance_13 rfl (lv_at hl 1 rfl) ?_
      refine lv_ifnull hx hb dX11_distance_14 ?_
      refine lv_aloadN hx hb dX11_distance_17 (lv_at hl 0 rfl) ?_
      refine lv_ifnonnullN hx hb dX11_distance_19 ?_
      refine lv_bipush (v := (-2)) hx hb dX11_distance_22 (by decide) ?_
      have fr_1 : ∀ j, 192 ≤ j → f1 j = f j := fun j hj => m_sm ef1 (rfl)
      have fr_2 : ∀ j, 192 ≤ j → f2 j = f j := fun j hj => m_sm ef2 (fr_1 j hj)
      exact m_iret C hr hlk hM (⟨by unfold p_distance; rw [if_neg (by revert q88; simp only [Int32.lt_iff_toInt_lt, Int32.le_iff_toInt_le, m_lits]; omega)], rfl, fr_2⟩) dX11_distance_24
    by_cases q91 : 2 < a1
    · refine lv_aload_n hx hb dX11_distance_6 rfl (lv_at hl 1 rfl) ?_
      refine lv_iload_n hx hb dX11_distance_7 rfl (lv_at hl 3 rfl) ?_
      have h0_1 : f1 0 = .inr (11, [.ref (b + 1), .ref (b + 3), .ref (b + 4), .ref (b + 6), .ref (b + 8), .ref (b + 10), .ref (b + 174), .ref (b + 177), .ref (b + 178), .ref (b + 181), .ref (b + 183), .ref (b + 190)]) := m_sm ef1 h0
      refine m_goq (m_runV calV_X11_sheetOf wd_845 (a_X11_sheetOf_6 l D kc b f1 a1 q88 q91) C hM (by decide) h0_1 rfl hl.1 rfl rfl (Nat.le_of_ble_eq_true rfl) dX11_distance_8 ⟨Nat.le_of_ble_eq_true rfl, Nat.le_of_ble_eq_true rfl⟩ ⟨Nat.le_of_ble_eq_true rfl, Nat.le_of_ble_eq_true rfl⟩) hM (fun r92 n93 f2 H locs hp hM => ?_)
      have hp : r92 = none ∧ n93 = 220 ∧ f2 = f1 := hp
      obtain ⟨rfl, rfl, ef2⟩ := hp
      refine m_vv (y := .null) rfl ?_
      refine lv_astoreN (lv' := [(4, .null), (3, .ref (b + 8)), (0, .ref (b + 0)), (1, .int 2), (2, .int a1)]) hx hb dX11_distance_11 hl (by decide) rfl (fun ls hl => ?_)
      refine lv_aload_n hx hb dX11_distance_13 rfl (lv_at hl 1 rfl) ?_
      refine lv_ifnull hx hb dX11_distance_14 ?_
      refine lv_aloadN hx hb dX11_distance_17 (lv_at hl 0 rfl) ?_
      refine lv_ifnonnullN hx hb dX11_distance_19 ?_
      refine lv_bipush (v := (-2)) hx hb dX11_distance_22 (by decide) ?_
      have fr_1 : ∀ j, 192 ≤ j → f1 j = f j := fun j hj => m_sm ef1 (rfl)
      have fr_2 : ∀ j, 192 ≤ j → f2 j = f j := fun j hj => m_sm ef2 (fr_1 j hj)
      exact m_iret C hr hlk hM (⟨by unfold p_distance; rw [if_neg (by revert q88 q91; simp only [Int32.lt_iff_toInt_lt, Int32.le_iff_toInt_le, m_lits]; omega)], rfl, fr_2⟩) dX11_distance_24
    by_cases s94 : a1 = 0
    · subst s94
      refine lv_aload_n hx hb dX11_distance_6 rfl (lv_at hl 1 rfl) ?_
      refine lv_iload_n hx hb dX11_distance_7 rfl (lv_at hl 3 rfl) ?_
      have h0_1 : f1 0 = .inr (11, [.ref (b + 1), .ref (b + 3), .ref (b + 4), .ref (b + 6), .ref (b + 8), .ref (b + 10), .ref (b + 174), .ref (b + 177), .ref (b + 178), .ref (b + 181), .ref (b + 183), .ref (b + 190)]) := m_sm ef1 h0
      refine m_goq (m_runV calV_X11_sheetOf wd_845 (a_X11_sheetOf_2 l D kc b f1 h0_1) C hM (by decide) h0_1 rfl hl.1 rfl rfl (Nat.le_of_ble_eq_true rfl) dX11_distance_8 ⟨Nat.le_of_ble_eq_true rfl, Nat.le_of_ble_eq_true rfl⟩ ⟨Nat.le_of_ble_eq_true rfl, Nat.le_of_ble_eq_true rfl⟩) hM (fun r95 n96 f2 H locs hp hM => ?_)
      have hp : r95 = some (b + 4) ∧ n96 = 220 ∧ f2 = f1 := hp
      obtain ⟨rfl, rfl, ef2⟩ := hp
      refine m_vv (y := .ref (b + 4)) rfl ?_
      refine lv_astore (lv' := [(4, .ref (b + 4)), (3, .ref (b + 8)), (0, .ref (b + 0)), (1, .int 2), (2, .int 0)]) hx hb dX11_distance_11 hl (by decide) rfl (fun ls hl => ?_)
      refine lv_aload_n hx hb dX11_distance_13 rfl (lv_at hl 1 rfl) ?_
      refine lv_ifnull hx hb dX11_distance_14 ?_
      refine lv_aload hx hb dX11_distance_17 (lv_at hl 0 rfl) ?_
      refine lv_ifnonnull (tgt := 25) hx hb dX11_distance_19 (by decide) ?_
      refine lv_aload_n hx hb dX11_distance_25 rfl (lv_at hl 2 rfl) ?_
      have h0_2 : f2 0 = .inr (11, [.ref (b + 1), .ref (b + 3), .ref (b + 4), .ref (b + 6), .ref (b + 8), .ref (b + 10), .ref (b + 174), .ref (b + 177), .ref (b + 178), .ref (b + 181), .ref (b + 183), .ref (b + 190)]) := m_sm ef2 h0_1
      refine m_get fl_X11_69_X11 C hM (i := 0) (by decide) h0_2 (v := .ref (b + 181)) rfl dX11_distance_26 ?_
      refine lv_aload_n hx hb dX11_distance_29 rfl (lv_at hl 1 rfl) ?_
      refine lv_iconst (v := 0) hx hb dX11_distance_30 (by decide) ?_
      refine lv_aload hx hb dX11_distance_31 (lv_at hl 0 rfl) ?_
      refine lv_iconst (v := 0) hx hb dX11_distance_33 (by decide) ?_
      refine lv_sipush (v := 300) hx hb dX11_distance_34 (by decide) ?_
      have h8_1 : f1 8 = .inr (8, [.ref (b + 9), .int 0]) := m_sm ef1 h8
      have h8_2 : f2 8 = .inr (8, [.ref (b + 9), .int 0]) := m_sm ef2 h8_1
      have h4_1 : f1 4 = .inr (8, [.ref (b + 5), .int 0]) := m_sm ef1 h4
      have h4_2 : f2 4 = .inr (8, [.ref (b + 5), .int 0]) := m_sm ef2 h4_1
      have h181_1 : f1 181 = .inr (6, [.ref (b + 182)]) := m_sm ef1 h181
      have h181_2 : f2 181 = .inr (6, [.ref (b + 182)]) := m_sm ef2 h181_1
      have h182_1 : f1 182 = .inl (kc 1, 301, .inl (fun _ => 0)) := m_sm ef1 h182
      have h182_2 : f2 182 = .inl (kc 1, 301, .inl (fun _ => 0)) := m_sm ef2 h182_1
      refine m_goi (m_runV calV_X6_measure wd_969 (a_X6_measure_7 l D kc b f2 h8_2 h4_2 h181_2 h182_2) C hM (by decide) h181_2 rfl hl.1 rfl rfl (Nat.le_of_ble_eq_true rfl) dX11_distance_37 ⟨Nat.le_of_ble_eq_true rfl, Nat.le_of_ble_eq_true rfl⟩ ⟨Nat.le_of_ble_eq_true rfl, Nat.le_of_ble_eq_true rfl⟩) hM (fun r97 n98 f3 H locs hp hM => ?_)
      have hp : r97 = 0 ∧ n98 = 220 ∧ f3 = va_up f2 182 (.inl (kc 1, 301, .inl (upd (fun _ => 0) 0 0))) := hp
      obtain ⟨rfl, rfl, ef3⟩ := hp
      have fr_1 : ∀ j, 192 ≤ j → f1 j = f j := fun j hj => m_sm ef1 (rfl)
      have fr_2 : ∀ j, 192 ≤ j → f2 j = f j := fun j hj => m_sm ef2 (fr_1 j hj)
      have fr_3 : ∀ j, 192 ≤ j → f3 j = f j := fun j hj => m_ne ef3 (fr_2 j hj) (by omega)
      exact m_iret C hr hlk hM (⟨by decide, rfl, fr_3⟩) dX11_distance_40
    by_cases s99 : a1 = 1
    · subst s99
      refine lv_aload_n hx hb dX11_distance_6 rfl (lv_at hl 1 rfl) ?_
      refine lv_iload_n hx hb dX11_distance_7 rfl (lv_at hl 3 rfl) ?_
      have h0_1 : f1 0 = .inr (11, [.ref (b + 1), .ref (b + 3), .ref (b + 4), .ref (b + 6), .ref (b + 8), .ref (b + 10), .ref (b + 174), .ref (b + 177), .ref (b + 178), .ref (b + 181), .ref (b + 183), .ref (b + 190)]) := m_sm ef1 h0
      refine m_goq (m_runV calV_X11_sheetOf wd_845 (a_X11_sheetOf_3 l D kc b f1 h0_1) C hM (by decide) h0_1 rfl hl.1 rfl rfl (Nat.le_of_ble_eq_true rfl) dX11_distance_8 ⟨Nat.le_of_ble_eq_true rfl, Nat.le_of_ble_eq_true rfl⟩ ⟨Nat.le_of_ble_eq_true rfl, Nat.le_of_ble_eq_true rfl⟩) hM (fun r100 n101 f2 H locs hp hM => ?_)
      have hp : r100 = some (b + 6) ∧ n101 = 220 ∧ f2 = f1 := hp
      obtain ⟨rfl, rfl, ef2⟩ := hp
      refine m_vv (y := .ref (b + 6)) rfl ?_
      refine lv_astore (lv' := [(4, .ref (b + 6)), (3, .ref (b + 8)), (0, .ref (b + 0)), (1, .int 2), (2, .int 1)]) hx hb dX11_distance_11 hl (by decide) rfl (fun ls hl => ?_)
      refine lv_aload_n hx hb dX11_distance_13 rfl (lv_at hl 1 rfl) ?_
      refine lv_ifnull hx hb dX11_distance_14 ?_
      refine lv_aload hx hb dX11_distance_17 (lv_at hl 0 rfl) ?_
      refine lv_ifnonnull (tgt := 25) hx hb dX11_distance_19 (by decide) ?_
      refine lv_aload_n hx hb dX11_distance_25 rfl (lv_at hl 2 rfl) ?_
      have h0_2 : f2 0 = .inr (11, [.ref (b + 1), .ref (b + 3), .ref (b + 4), .ref (b + 6), .ref (b + 8), .ref (b + 10), .ref (b + 174), .ref (b + 177), .ref (b + 178), .ref (b + 181), .ref (b + 183), .ref (b + 190)]) := m_sm ef2 h0_1
      refine m_get fl_X11_69_X11 C hM (i := 0) (by decide) h0_2 (v := .ref (b + 181)) rfl dX11_distance_26 ?_
      refine lv_aload_n hx hb dX11_distance_29 rfl (lv_at hl 1 rfl) ?_
      refine lv_iconst (v := 0) hx hb dX11_distance_30 (by decide) ?_
      refine lv_aload hx hb dX11_distance_31 (lv_at hl 0 rfl) ?_
      refine lv_iconst (v := 0) hx hb dX11_distance_33 (by decide) ?_
      refine lv_sipush (v := 300) hx hb dX11_distance_34 (by decide) ?_
      have h8_1 : f1 8 = .inr (8, [.ref (b + 9), .int 0]) := m_sm ef1 h8
      have h8_2 : f2 8 = .inr (8, [.ref (b + 9), .int 0]) := m_sm ef2 h8_1
      have h6_1 : f1 6 = .inr (8, [.ref (b + 7), .int 0]) := m_sm ef1 h6
      have h6_2 : f2 6 = .inr (8, [.ref (b + 7), .int 0]) := m_sm ef2 h6_1
      have h181_1 : f1 181 = .inr (6, [.ref (b + 182)]) := m_sm ef1 h181
      have h181_2 : f2 181 = .inr (6, [.ref (b + 182)]) := m_sm ef2 h181_1
      have h182_1 : f1 182 = .inl (kc 1, 301, .inl (fun _ => 0)) := m_sm ef1 h182
      have h182_2 : f2 182 = .inl (kc 1, 301, .inl (fun _ => 0)) := m_sm ef2 h182_1
      refine m_goi (m_runV calV_X6_measure wd_969 (a_X6_measure_8 l D kc b f2 h8_2 h6_2 h181_2 h182_2) C hM (by decide) h181_2 rfl hl.1 rfl rfl (Nat.le_of_ble_eq_true rfl) dX11_distance_37 ⟨Nat.le_of_ble_eq_true rfl, Nat.le_of_ble_eq_true rfl⟩ ⟨Nat.le_of_ble_eq_true rfl, Nat.le_of_ble_eq_true rfl⟩) hM (fun r102 n103 f3 H locs hp hM => ?_)
      have hp : r102 = 0 ∧ n103 = 220 ∧ f3 = va_up f2 182 (.inl (kc 1, 301, .inl (upd (fun _ => 0) 0 0))) := hp
      obtain ⟨rfl, rfl, ef3⟩ := hp
      have fr_1 : ∀ j, 192 ≤ j → f1 j = f j := fun j hj => m_sm ef1 (rfl)
      have fr_2 : ∀ j, 192 ≤ j → f2 j = f j := fun j hj => m_sm ef2 (fr_1 j hj)
      have fr_3 : ∀ j, 192 ≤ j → f3 j = f j := fun j hj => m_ne ef3 (fr_2 j hj) (by omega)
      exact m_iret C hr hlk hM (⟨by decide, rfl, fr_3⟩) dX11_distance_40
    by_cases s104 : a1 = 2
    · subst s104
      refine lv_aload_n hx hb dX11_distance_6 rfl (lv_at hl 1 rfl) ?_
      refine lv_iload_n hx hb dX11_distance_7 rfl (lv_at hl 3 rfl) ?_
      have h0_1 : f1 0 = .inr (11, [.ref (b + 1), .ref (b + 3), .ref (b + 4), .ref (b + 6), .ref (b + 8), .ref (b + 10), .ref (b + 174), .ref (b + 177), .ref (b + 178), .ref (b + 181), .ref (b + 183), .ref (b + 190)]) := m_sm ef1 h0
      refine m_goq (m_runV calV_X11_sheetOf wd_845 (a_X11_sheetOf_4 l D kc b f1 h0_1) C hM (by decide) h0_1 rfl hl.1 rfl rfl (Nat.le_of_ble_eq_true rfl) dX11_distance_8 ⟨Nat.le_of_ble_eq_true rfl, Nat.le_of_ble_eq_true rfl⟩ ⟨Nat.le_of_ble_eq_true rfl, Nat.le_of_ble_eq_true rfl⟩) hM (fun r105 n106 f2 H locs hp hM => ?_)
      have hp : r105 = some (b + 8) ∧ n106 = 220 ∧ f2 = f1 := hp
      obtain ⟨rfl, rfl, ef2⟩ := hp
      refine m_vv (y := .ref (b + 8)) rfl ?_
      refine lv_astore (lv' := [(4, .ref (b + 8)), (3, .ref (b + 8)), (0, .ref (b + 0)), (1, .int 2), (2, .int 2)]) hx hb dX11_distance_11 hl (by decide) rfl (fun ls hl => ?_)
      refine lv_aload_n hx hb dX11_distance_13 rfl (lv_at hl 1 rfl) ?_
      refine lv_ifnull hx hb dX11_distance_14 ?_
      refine lv_aload hx hb dX11_distance_17 (lv_at hl 0 rfl) ?_
      refine lv_ifnonnull (tgt := 25) hx hb dX11_distance_19 (by decide) ?_
      refine lv_aload_n hx hb dX11_distance_25 rfl (lv_at hl 2 rfl) ?_
      have h0_2 : f2 0 = .inr (11, [.ref (b + 1), .ref (b + 3), .ref (b + 4), .ref (b + 6), .ref (b + 8), .ref (b + 10), .ref (b + 174), .ref (b + 177), .ref (b + 178), .ref (b + 181), .ref (b + 183), .ref (b + 190)]) := m_sm ef2 h0_1
      refine m_get fl_X11_69_X11 C hM (i := 0) (by decide) h0_2 (v := .ref (b + 181)) rfl dX11_distance_26 ?_
      refine lv_aload_n hx hb dX11_distance_29 rfl (lv_at hl 1 rfl) ?_
      refine lv_iconst (v := 0) hx hb dX11_distance_30 (by decide) ?_
      refine lv_aload hx hb dX11_distance_31 (lv_at hl 0 rfl) ?_
      refine lv_iconst (v := 0) hx hb dX11_distance_33 (by decide) ?_
      refine lv_sipush (v := 300) hx hb dX11_distance_34 (by decide) ?_
      have h8_1 : f1 8 = .inr (8, [.ref (b + 9), .int 0]) := m_sm ef1 h8
      have h8_2 : f2 8 = .inr (8, [.ref (b + 9), .int 0]) := m_sm ef2 h8_1
      have h181_1 : f1 181 = .inr (6, [.ref (b + 182)]) := m_sm ef1 h181
      have h181_2 : f2 181 = .inr (6, [.ref (b + 182)]) := m_sm ef2 h181_1
      have h182_1 : f1 182 = .inl (kc 1, 301, .inl (fun _ => 0)) := m_sm ef1 h182
      have h182_2 : f2 182 = .inl (kc 1, 301, .inl (fun _ => 0)) := m_sm ef2 h182_1
      refine m_goi (m_runV calV_X6_measure wd_969 (a_X6_measure_9 l D kc b f2 h8_2 h181_2 h182_2) C hM (by decide) h181_2 rfl hl.1 rfl rfl (Nat.le_of_ble_eq_true rfl) dX11_distance_37 ⟨Nat.le_of_ble_eq_true rfl, Nat.le_of_ble_eq_true rfl⟩ ⟨Nat.le_of_ble_eq_true rfl, Nat.le_of_ble_eq_true rfl⟩) hM (fun r107 n108 f3 H locs hp hM => ?_)
      have hp : r107 = 0 ∧ n108 = 220 ∧ f3 = va_up f2 182 (.inl (kc 1, 301, .inl (upd (fun _ => 0) 0 0))) := hp
      obtain ⟨rfl, rfl, ef3⟩ := hp
      have fr_1 : ∀ j, 192 ≤ j → f1 j = f j := fun j hj => m_sm ef1 (rfl)
      have fr_2 : ∀ j, 192 ≤ j → f2 j = f j := fun j hj => m_sm ef2 (fr_1 j hj)
      have fr_3 : ∀ j, 192 ≤ j → f3 j = f j := fun j hj => m_ne ef3 (fr_2 j hj) (by omega)
      exact m_iret C hr hlk hM (⟨by decide, rfl, fr_3⟩) dX11_distance_40
    exfalso; revert q88 q91 s94 s99 s104; simp only [← Int32.toInt_inj, Int32.lt_iff_toInt_lt, Int32.le_iff_toInt_le, m_lits]; omega
  exfalso; revert q1 q19 s37 s61 s85; simp only [← Int32.toInt_inj, Int32.lt_iff_toInt_lt, Int32.le_iff_toInt_le, m_lits]; omega
set_option maxHeartbeats 4000000 in
set_option maxRecDepth 100000 in
theorem k_x_next (l : Launch) (D : va_G) (kc : Nat → ClassId) (b : Nat) (f : Nat → va_E) (h0 : f 0 = .inr (11, [.ref (b + 1), .ref (b + 3), .ref (b + 4), .ref (b + 6), .ref (b + 8), .ref (b + 10), .ref (b + 174), .ref (b + 177), .ref (b + 178), .ref (b + 181), .ref (b + 183), .ref (b + 190)])) (h6 : f 6 = .inr (8, [.ref (b + 7), .int 0])) : mMi l yX11_next cX11_next 1 .int 1 0 0 D kc b 220 f [.ref (b + 0)] (fun r u => r = (-4) ∧ u.1 = 220 ∧ ∀ j, 192 ≤ j → u.2 j = f j) := by
  refine m_start (by decide) (Nat.le_of_ble_eq_true rfl) ?_
  intro p e s m below meth c C hr hlk hnm hM ls hl
  obtain ⟨hx, hb, hml, hown, hts, hE, hbs⟩ := id C
  have hl : lv_has ls 1 [(0, .ref (b + 0))] := hl
  refine lv_aload_n hx hb dX11_next_0 rfl (lv_at hl 0 rfl) ?_
  refine m_get fl_X11_32_X11 C hM (i := 0) (by decide) h0 (v := .ref (b + 6)) rfl dX11_next_1 ?_
  refine m_getN fl_X11_111_X8 C hM (i := 6) (by decide) h6 (v := .int 0) rfl dX11_next_4 ?_
  refine lv_if_eq (tgt := 22) hx hb dX11_next_7 (by decide) (fun _ => ?_) (fun h => absurd (by decide) h)
  refine lv_bipush (v := (-4)) hx hb dX11_next_22 (by decide) ?_
  exact m_iret C hr hlk hM (⟨rfl, rfl, fun _ _ => rfl⟩) dX11_next_24
set_option maxHeartbeats 4000000 in
set_option maxRecDepth 100000 in
theorem k_x_error (l : Launch) (D : va_G) (kc : Nat → ClassId) (b : Nat) (f : Nat → va_E) (a0 : Int32) (a1 : Int32) (h0 : f 0 = .inr (11, [.ref (b + 1), .ref (b + 3), .ref (b + 4), .ref (b + 6), .ref (b + 8), .ref (b + 10), .ref (b + 174), .ref (b + 177), .ref (b + 178), .ref (b + 181), .ref (b + 183), .ref (b + 190)])) (h10 : f 10 = .inr (5, [.ref (b + 11), .ref (b + 12), .ref (b + 13), .int 0, .int 0, .int 0])) : mMi l yX11_error cX11_error 5 .int 4 0 0 D kc b 220 f [.ref (b + 0), .int a0, .int a1] (fun r u => r = (-2) ∧ u.1 = 220 ∧ ∀ j, 192 ≤ j → u.2 j = f j) := by
  refine m_start (by decide) (Nat.le_of_ble_eq_true rfl) ?_
  intro p e s m below meth c C hr hlk hnm hM ls hl
  obtain ⟨hx, hb, hml, hown, hts, hE, hbs⟩ := id C
  have hl : lv_has ls 5 [(0, .ref (b + 0)), (1, .int a0), (2, .int a1)] := hl
  refine lv_aload_n hx hb dX11_error_0 rfl (lv_at hl 0 rfl) ?_
  refine m_get fl_X11_41_X11 C hM (i := 0) (by decide) h0 (v := .ref (b + 10)) rfl dX11_error_1 ?_
  refine lv_iload_n hx hb dX11_error_4 rfl (lv_at hl 1 rfl) ?_
  refine m_goq (m_runV calV_X5_findNoStet wd_881 (a_X5_findNoStet_0 l D kc b f a0 h10) C hM (by decide) h10 rfl hl.1 rfl rfl (Nat.le_of_ble_eq_true rfl) dX11_error_5 ⟨Nat.le_of_ble_eq_true rfl, Nat.le_of_ble_eq_true rfl⟩ ⟨Nat.le_of_ble_eq_true rfl, Nat.le_of_ble_eq_true rfl⟩) hM (fun r1 n2 f1 H locs hp hM => ?_)
  have hp : r1 = none ∧ n2 = 220 ∧ f1 = f := hp
  obtain ⟨rfl, rfl, ef1⟩ := hp
  refine m_vv (y := .null) rfl ?_
  refine lv_astore_nN (lv' := [(3, .null), (0, .ref (b + 0)), (1, .int a0), (2, .int a1)]) hx hb dX11_error_8 rfl hl (by decide) rfl (fun ls hl => ?_)
  refine lv_aload_nN hx hb dX11_error_9 rfl (lv_at hl 0 rfl) ?_
  refine lv_ifnonnullN hx hb dX11_error_10 ?_
  refine lv_bipush (v := (-2)) hx hb dX11_error_13 (by decide) ?_
  have fr_1 : ∀ j, 192 ≤ j → f1 j = f j := fun j hj => m_sm ef1 (rfl)
  exact m_iret C hr hlk hM (⟨rfl, rfl, fr_1⟩) dX11_error_15
set_option maxHeartbeats 4000000 in
set_option maxRecDepth 100000 in
theorem a_X0_priceOf_0 (l : Launch) (D : va_G) (kc : Nat → ClassId) (b : Nat) (f : Nat → va_E) (a0 : Int32) (h190 : f 190 = .inr (0, [.ref (b + 191)])) (h191 : f 191 = .inl (kc 1, 5, .inl (mPr))) (z1 : ¬ a0 < 0) (z2 : ¬ 5 ≤ a0) : mMi l yX0_priceOf cX0_priceOf 2 .int 1 0 0 D kc b 220 f [.ref (b + 190), .int a0] (fun r u => r = ((mPr) a0.toNatClampNeg) ∧ u.1 = 220 ∧ u.2 = f) := by
  refine m_start (by decide) (Nat.le_of_ble_eq_true rfl) ?_
  intro p e s m below meth c C hr hlk hnm hM ls hl
  obtain ⟨hx, hb, hml, hown, hts, hE, hbs⟩ := id C
  have hl : lv_has ls 2 [(0, .ref (b + 190)), (1, .int a0)] := hl
  refine lv_iload_n hx hb dX0_priceOf_0 rfl (lv_at hl 1 rfl) ?_
  refine lv_if_lt (tgt := 13) hx hb dX0_priceOf_1 (by decide) (fun c1 => ?_) (fun c1 => ?_)
  · exfalso; revert z1 z2 c1; simp only [← Int32.toInt_inj, Int32.lt_iff_toInt_lt, Int32.le_iff_toInt_le, m_lits]; omega
  · refine lv_iload_n hx hb dX0_priceOf_4 rfl (lv_at hl 1 rfl) ?_
    refine lv_aload_n hx hb dX0_priceOf_5 rfl (lv_at hl 0 rfl) ?_
    refine m_get fl_X0_18_X0 C hM (i := 190) (by decide) h190 (v := .ref (b + 191)) rfl dX0_priceOf_6 ?_
    refine m_alen C hM (j := 191) (by decide) 1 h191 rfl (v := 5) rfl dX0_priceOf_9 ?_
    refine lv_icmp_lt (tgt := 17) hx hb dX0_priceOf_10 (by decide) (fun c2 => ?_) (fun c2 => ?_)
    · refine lv_aload_n hx hb dX0_priceOf_17 rfl (lv_at hl 0 rfl) ?_
      refine m_get fl_X0_18_X0 C hM (i := 190) (by decide) h190 (v := .ref (b + 191)) rfl dX0_priceOf_18 ?_
      refine lv_iload_n hx hb dX0_priceOf_21 rfl (lv_at hl 1 rfl) ?_
      refine m_iald C hM (j := 191) (by decide) h191 (by revert z1 z2 c1 c2; rw [vp_in_iff]; simp only [Int32.lt_iff_toInt_lt, Int32.le_iff_toInt_le, m_lits]; omega) dX0_priceOf_22 ?_
      exact m_iret C hr hlk hM (⟨rfl, rfl, rfl⟩) dX0_priceOf_23
    · exfalso; revert z1 z2 c1 c2; simp only [← Int32.toInt_inj, Int32.lt_iff_toInt_lt, Int32.le_iff_toInt_le, m_lits]; omega
set_option maxHeartbeats 4000000 in
set_option maxRecDepth 100000 in
theorem a_X0_setPrice_0 (l : Launch) (D : va_G) (kc : Nat → ClassId) (b : Nat) (f : Nat → va_E) (a0 : Int32) (a1 : Int32) (h190 : f 190 = .inr (0, [.ref (b + 191)])) (h191 : f 191 = .inl (kc 1, 5, .inl (mPr))) (z1 : ¬ a0 < 0) (z2 : ¬ 5 ≤ a0) (z3 : ¬ a1 < 0) (z4 : a1 ≤ 999) : mMi l yX0_setPrice cX0_setPrice 4 .int 2 0 0 D kc b 220 f [.ref (b + 190), .int a0, .int a1] (fun r u => r = ((mPr) a0.toNatClampNeg) ∧ u.1 = 220 ∧ u.2 = va_up f 191 (.inl (kc 1, 5, .inl (upd mPr a0.toNatClampNeg a1)))) := by
  refine m_start (by decide) (Nat.le_of_ble_eq_true rfl) ?_
  intro p e s m below meth c C hr hlk hnm hM ls hl
  obtain ⟨hx, hb, hml, hown, hts, hE, hbs⟩ := id C
  have hl : lv_has ls 4 [(0, .ref (b + 190)), (1, .int a0), (2, .int a1)] := hl
  refine lv_aload_n hx hb dX0_setPrice_0 rfl (lv_at hl 0 rfl) ?_
  refine lv_iload_n hx hb dX0_setPrice_1 rfl (lv_at hl 1 rfl) ?_
  refine m_goi (m_runV calV_X0_priceOf wd_987 (a_X0_priceOf_0 l D kc b f a0 h190 h191 z1 z2) C hM (by decide) h190 rfl hl.1 rfl rfl (Nat.le_of_ble_eq_true rfl) dX0_setPrice_2 ⟨Nat.le_of_ble_eq_true rfl, Nat.le_of_ble_eq_true rfl⟩ ⟨Nat.le_of_ble_eq_true rfl, Nat.le_of_ble_eq_true rfl⟩) hM (fun r1 n2 f1 H locs hp hM => ?_)
  have hp : r1 = ((mPr) a0.toNatClampNeg) ∧ n2 = 220 ∧ f1 = f := hp
  obtain ⟨rfl, rfl, ef1⟩ := hp
  refine lv_topi (fun x3 ex3 => ?_)
  refine lv_istore_n (lv' := [(3, .int x3), (0, .ref (b + 190)), (1, .int a0), (2, .int a1)]) hx hb dX0_setPrice_5 rfl hl (by decide) rfl (fun ls hl => ?_)
  refine lv_iload_n hx hb dX0_setPrice_6 rfl (lv_at hl 2 rfl) ?_
  refine lv_if_lt (tgt := 26) hx hb dX0_setPrice_7 (by decide) (fun c4 => ?_) (fun c4 => ?_)
  · exfalso; revert z1 z2 c4; simp only [← Int32.toInt_inj, Int32.lt_iff_toInt_lt, Int32.le_iff_toInt_le, m_lits]; omega
  · refine lv_iload_n hx hb dX0_setPrice_10 rfl (lv_at hl 2 rfl) ?_
    refine lv_aload_n hx hb dX0_setPrice_11 rfl (lv_at hl 1 rfl) ?_
    have h190_1 : f1 190 = .inr (0, [.ref (b + 191)]) := m_sm ef1 h190
    refine m_get fl_X0_18_X0 C hM (i := 190) (by decide) h190_1 (v := .ref (b + 191)) rfl dX0_setPrice_12 ?_
    have h191_1 : f1 191 = .inl (kc 1, 5, .inl (mPr)) := m_sm ef1 h191
    refine m_alen C hM (j := 191) (by decide) 1 h191_1 rfl (v := 5) rfl dX0_setPrice_15 ?_
    refine lv_icmp_ge (tgt := 26) hx hb dX0_setPrice_16 (by decide) (fun c5 => ?_) (fun c5 => ?_)
    · exfalso; revert z1 z2 c4 c5; simp only [← Int32.toInt_inj, Int32.lt_iff_toInt_lt, Int32.le_iff_toInt_le, m_lits]; omega
    · refine lv_aload_n hx hb dX0_setPrice_19 rfl (lv_at hl 1 rfl) ?_
      refine m_get fl_X0_18_X0 C hM (i := 190) (by decide) h190_1 (v := .ref (b + 191)) rfl dX0_setPrice_20 ?_
      refine lv_iload_n hx hb dX0_setPrice_23 rfl (lv_at hl 2 rfl) ?_
      refine lv_iload_n hx hb dX0_setPrice_24 rfl (lv_at hl 3 rfl) ?_
      refine m_iast C hM (j := 191) (by decide) h191_1 (by revert z1 z2 c4 c5; rw [vp_in_iff]; simp only [Int32.lt_iff_toInt_lt, Int32.le_iff_toInt_le, m_lits]; omega) dX0_setPrice_25 (fun H locs f2 ef2 hM => ?_)
      have ef2 : f2 = va_up f1 191 (.inl (kc 1, 5, .inl (upd mPr a0.toNatClampNeg a1))) := ef2
      refine lv_iload_n hx hb dX0_setPrice_26 rfl (lv_at hl 0 rfl) ?_
      exact m_iret C hr hlk hM (⟨ex3, rfl, by rw [ef2, ef1]⟩) dX0_setPrice_27
set_option maxHeartbeats 4000000 in
set_option maxRecDepth 100000 in
theorem k_x_price (l : Launch) (D : va_G) (kc : Nat → ClassId) (b : Nat) (f : Nat → va_E) (a0 : Int32) (a1 : Int32) (h0 : f 0 = .inr (11, [.ref (b + 1), .ref (b + 3), .ref (b + 4), .ref (b + 6), .ref (b + 8), .ref (b + 10), .ref (b + 174), .ref (b + 177), .ref (b + 178), .ref (b + 181), .ref (b + 183), .ref (b + 190)])) (h190 : f 190 = .inr (0, [.ref (b + 191)])) (h191 : f 191 = .inl (kc 1, 5, .inl (mPr))) : mMi l yX11_price cX11_price 3 .int 3 0 0 D kc b 220 f [.ref (b + 0), .int a0, .int a1] (fun r u => r = p_price a0 a1 ∧ u.1 = 220 ∧ ∀ j, 192 ≤ j → u.2 j = f j) := by
  refine m_start (by decide) (Nat.le_of_ble_eq_true rfl) ?_
  intro p e s m below meth c C hr hlk hnm hM ls hl
  obtain ⟨hx, hb, hml, hown, hts, hE, hbs⟩ := id C
  have hl : lv_has ls 3 [(0, .ref (b + 0)), (1, .int a0), (2, .int a1)] := hl
  refine lv_iload_n hx hb dX11_price_0 rfl (lv_at hl 1 rfl) ?_
  refine lv_if_lt (tgt := 20) hx hb dX11_price_1 (by decide) (fun c1 => ?_) (fun c1 => ?_)
  · refine lv_bipush (v := (-2)) hx hb dX11_price_20 (by decide) ?_
    exact m_iret C hr hlk hM (⟨by unfold p_price; rw [if_neg (by revert c1; simp only [Int32.lt_iff_toInt_lt, Int32.le_iff_toInt_le, m_lits]; omega)], rfl, fun _ _ => rfl⟩) dX11_price_22
  · refine lv_iload_n hx hb dX11_price_4 rfl (lv_at hl 1 rfl) ?_
    refine lv_iconst (v := 5) hx hb dX11_price_5 (by decide) ?_
    refine lv_icmp_ge (tgt := 20) hx hb dX11_price_6 (by decide) (fun c2 => ?_) (fun c2 => ?_)
    · refine lv_bipush (v := (-2)) hx hb dX11_price_20 (by decide) ?_
      exact m_iret C hr hlk hM (⟨by unfold p_price; rw [if_neg (by revert c1 c2; simp only [Int32.lt_iff_toInt_lt, Int32.le_iff_toInt_le, m_lits]; omega)], rfl, fun _ _ => rfl⟩) dX11_price_22
    · refine lv_iload_n hx hb dX11_price_9 rfl (lv_at hl 2 rfl) ?_
      refine lv_if_lt (tgt := 20) hx hb dX11_price_10 (by decide) (fun c3 => ?_) (fun c3 => ?_)
      · refine lv_bipush (v := (-2)) hx hb dX11_price_20 (by decide) ?_
        exact m_iret C hr hlk hM (⟨by unfold p_price; rw [if_neg (by revert c1 c2 c3; simp only [Int32.lt_iff_toInt_lt, Int32.le_iff_toInt_le, m_lits]; omega)], rfl, fun _ _ => rfl⟩) dX11_price_22
      · refine lv_iload_n hx hb dX11_price_13 rfl (lv_at hl 2 rfl) ?_
        refine lv_sipush (v := 999) hx hb dX11_price_14 (by decide) ?_
        refine lv_icmp_le (tgt := 23) hx hb dX11_price_17 (by decide) (fun c4 => ?_) (fun c4 => ?_)
        · refine lv_aload_n hx hb dX11_price_23 rfl (lv_at hl 0 rfl) ?_
          refine m_get fl_X11_83_X11 C hM (i := 0) (by decide) h0 (v := .ref (b + 190)) rfl dX11_price_24 ?_
          refine lv_iload_n hx hb dX11_price_27 rfl (lv_at hl 1 rfl) ?_
          refine lv_iload_n hx hb dX11_price_28 rfl (lv_at hl 2 rfl) ?_
          refine m_goi (m_runV calV_X0_setPrice wd_983 (a_X0_setPrice_0 l D kc b f a0 a1 h190 h191 c1 c2 c3 c4) C hM (by decide) h190 rfl hl.1 rfl rfl (Nat.le_of_ble_eq_true rfl) dX11_price_29 ⟨Nat.le_of_ble_eq_true rfl, Nat.le_of_ble_eq_true rfl⟩ ⟨Nat.le_of_ble_eq_true rfl, Nat.le_of_ble_eq_true rfl⟩) hM (fun r5 n6 f1 H locs hp hM => ?_)
          have hp : r5 = ((mPr) a0.toNatClampNeg) ∧ n6 = 220 ∧ f1 = va_up f 191 (.inl (kc 1, 5, .inl (upd mPr a0.toNatClampNeg a1))) := hp
          obtain ⟨rfl, rfl, ef1⟩ := hp
          have fr_1 : ∀ j, 192 ≤ j → f1 j = f j := fun j hj => m_ne ef1 (rfl) (by omega)
          exact m_iret C hr hlk hM (⟨by unfold p_price; rw [if_pos (by revert c1 c2 c3 c4; simp only [Int32.lt_iff_toInt_lt, Int32.le_iff_toInt_le, m_lits]; omega)], rfl, fr_1⟩) dX11_price_32
        · refine lv_bipush (v := (-2)) hx hb dX11_price_20 (by decide) ?_
          exact m_iret C hr hlk hM (⟨by unfold p_price; rw [if_neg (by revert c1 c2 c3 c4; simp only [Int32.lt_iff_toInt_lt, Int32.le_iff_toInt_le, m_lits]; omega)], rfl, fun _ _ => rfl⟩) dX11_price_22
set_option maxHeartbeats 4000000 in
set_option maxRecDepth 100000 in
theorem a_X0_sum_0 (l : Launch) (D : va_G) (kc : Nat → ClassId) (b : Nat) (f : Nat → va_E) (h10 : f 10 = .inr (5, [.ref (b + 11), .ref (b + 12), .ref (b + 13), .int 0, .int 0, .int 0])) : mMi l yX0_sum cX0_sum 6 .int 1 0 0 D kc b 220 f [.ref (b + 190), .ref (b + 10), .int 0] (fun r u => r = 0 ∧ u.1 = 220 ∧ u.2 = f) := by
  refine m_start (by decide) (Nat.le_of_ble_eq_true rfl) ?_
  intro p e s m below meth c C hr hlk hnm hM ls hl
  obtain ⟨hx, hb, hml, hown, hts, hE, hbs⟩ := id C
  have hl : lv_has ls 6 [(0, .ref (b + 190)), (1, .ref (b + 10)), (2, .int 0)] := hl
  refine lv_iconst (v := 0) hx hb dX0_sum_0 (by decide) ?_
  refine lv_istore_n (lv' := [(3, .int 0), (0, .ref (b + 190)), (1, .ref (b + 10)), (2, .int 0)]) hx hb dX0_sum_1 rfl hl (by decide) rfl (fun ls hl => ?_)
  refine lv_iconst (v := 0) hx hb dX0_sum_2 (by decide) ?_
  refine lv_istore (lv' := [(4, .int 0), (3, .int 0), (0, .ref (b + 190)), (1, .ref (b + 10)), (2, .int 0)]) hx hb dX0_sum_3 hl (by decide) rfl (fun ls hl => ?_)
  refine lv_iload hx hb dX0_sum_5 (lv_at hl 0 rfl) ?_
  refine lv_aload_n hx hb dX0_sum_7 rfl (lv_at hl 3 rfl) ?_
  refine m_getN fl_X0_27_X5 C hM (i := 10) (by decide) h10 (v := .int 0) rfl dX0_sum_8 ?_
  refine lv_icmp_ge (tgt := 75) hx hb dX0_sum_11 (by decide) (fun _ => ?_) (fun h => absurd (by decide) h)
  refine lv_iload_n hx hb dX0_sum_75 rfl (lv_at hl 1 rfl) ?_
  exact m_iret C hr hlk hM (⟨rfl, rfl, rfl⟩) dX0_sum_76
