set_option maxHeartbeats 4000000 in
set_option maxRecDepth 100000 in
theorem a_X10_init_0 (l : Launch) (D : va_G) (kc : Nat → ClassId) (b : Nat) (f : Nat → va_E) (h1 : f 1 = .inr (10, [.null, .int 0])) : mMv l yX10_init cX10_init 1 1 1 2000 D kc b 2 f [.ref (b + 1)] (fun u => u.1 = 3 ∧ u.2 = va_up (va_up f 2 (.inl (kc 0, 2000, .inl (fun _ => 0)))) 1 (.inr (10, [.ref (b + 2), .int 0]))) := by
  refine m_start (by decide) (Nat.le_of_ble_eq_true rfl) ?_
  intro p e s m below meth c C hr hlk hnm hM ls hl
  obtain ⟨hx, hb, hml, hown, hts, hE, hbs⟩ := id C
  have hl : lv_has ls 1 [(0, .ref (b + 1))] := hl
  refine lv_aload_n hx hb dX10_init_0 rfl (lv_at hl 0 rfl) ?_
  refine m_objInit wd_109 wd_102 wd_103 C hl.1 dX10_init_1 (Nat.le_of_ble_eq_true rfl) (Nat.le_of_ble_eq_true rfl) ?_
  refine lv_aload_n hx hb dX10_init_4 rfl (lv_at hl 0 rfl) ?_
  refine lv_sipush (v := 2000) hx hb dX10_init_5 (by decide) ?_
  refine m_newa (ty := .byte) rfl wd_120 0 rfl id C hM (N' := 2000) (a0 := (2000, .inl (fun _ => 0))) (fun _ => rfl) (by decide) (by decide) (by decide) (Nat.le_of_ble_eq_true rfl) (Nat.le_of_ble_eq_true rfl) dX10_init_8 (fun H f1 ef1 hM => ?_)
  have h1_1 : f1 1 = .inr (10, [.null, .int 0]) := m_ne ef1 h1 (by decide)
  refine m_putF fl_X10_9_X10 C hnm hM (i := 1) (by decide) h1_1 rfl rfl (Nat.le_of_ble_eq_true rfl) (fs1 := [.ref (b + 2), .int 0]) rfl (fun q hq => by cases hq; rfl) dX10_init_10 (fun H locs f2 ef2 hM => ?_)
  exact m_vret C hr hlk hM (⟨rfl, by rw [ef2, ef1]⟩) dX10_init_13
set_option maxHeartbeats 4000000 in
set_option maxRecDepth 100000 in
theorem a_X1_init_0 (l : Launch) (D : va_G) (kc : Nat → ClassId) (b : Nat) (f : Nat → va_E) (h3 : f 3 = .inr (1, [.int 0, .int 0])) : mMv l yX1_init cX1_init 1 1 0 0 D kc b 4 f [.ref (b + 3)] (fun u => u.1 = 4 ∧ u.2 = va_up f 3 (.inr (1, [.int 0, .int (-1)]))) := by
  refine m_start (by decide) (Nat.le_of_ble_eq_true rfl) ?_
  intro p e s m below meth c C hr hlk hnm hM ls hl
  obtain ⟨hx, hb, hml, hown, hts, hE, hbs⟩ := id C
  have hl : lv_has ls 1 [(0, .ref (b + 3))] := hl
  refine lv_aload_n hx hb dX1_init_0 rfl (lv_at hl 0 rfl) ?_
  refine m_objInit wd_126 wd_102 wd_103 C hl.1 dX1_init_1 (Nat.le_of_ble_eq_true rfl) (Nat.le_of_ble_eq_true rfl) ?_
  refine lv_aload_n hx hb dX1_init_4 rfl (lv_at hl 0 rfl) ?_
  refine lv_iconst (v := 0) hx hb dX1_init_5 (by decide) ?_
  refine m_put fl_X1_9_X1 C hM (i := 3) (by decide) h3 rfl rfl (Nat.le_of_ble_eq_true rfl) (fs1 := [.int 0, .int 0]) rfl dX1_init_6 (fun H locs f1 ef1 hM => ?_)
  refine lv_aload_n hx hb dX1_init_9 rfl (lv_at hl 0 rfl) ?_
  refine lv_iconst (v := (-1)) hx hb dX1_init_10 (by decide) ?_
  have h3_1 : f1 3 = .inr (1, [.int 0, .int 0]) := m_eq ef1
  refine m_put fl_X1_15_X1 C hM (i := 3) (by decide) h3_1 rfl rfl (Nat.le_of_ble_eq_true rfl) (fs1 := [.int 0, .int (-1)]) rfl dX1_init_11 (fun H locs f2 ef2 hM => ?_)
  exact m_vret C hr hlk hM (⟨rfl, by rw [ef2, ef1]; simp only [bx_uu]⟩) dX1_init_14
set_option maxHeartbeats 4000000 in
set_option maxRecDepth 100000 in
theorem a_X8_init_1 (l : Launch) (D : va_G) (kc : Nat → ClassId) (b : Nat) (f : Nat → va_E) (h4 : f 4 = .inr (8, [.null, .int 0])) : mMv l yX8_init cX8_init 2 1 1 60 D kc b 5 f [.ref (b + 4), .int 60] (fun u => u.1 = 6 ∧ u.2 = va_up (va_up f 5 (.inl (kc 2, 60, .inr (.inl (fun _ => 0))))) 4 (.inr (8, [.ref (b + 5), .int 0]))) := by
  refine m_start (by decide) (Nat.le_of_ble_eq_true rfl) ?_
  intro p e s m below meth c C hr hlk hnm hM ls hl
  obtain ⟨hx, hb, hml, hown, hts, hE, hbs⟩ := id C
  have hl : lv_has ls 2 [(0, .ref (b + 4)), (1, .int 60)] := hl
  refine lv_aload_n hx hb dX8_init_0 rfl (lv_at hl 0 rfl) ?_
  refine m_objInit wd_141 wd_102 wd_103 C hl.1 dX8_init_1 (Nat.le_of_ble_eq_true rfl) (Nat.le_of_ble_eq_true rfl) ?_
  refine lv_aload_n hx hb dX8_init_4 rfl (lv_at hl 0 rfl) ?_
  refine lv_iload_n hx hb dX8_init_5 rfl (lv_at hl 1 rfl) ?_
  refine lv_if_ge (tgt := 13) hx hb dX8_init_6 (by decide) (fun _ => ?_) (fun h => absurd (by decide) h)
  refine lv_iload_n hx hb dX8_init_13 rfl (lv_at hl 1 rfl) ?_
  refine m_newa (ty := .long) rfl wd_156 2 rfl id C hM (N' := 60) (a0 := (60, .inr (.inl (fun _ => 0)))) (fun _ => rfl) (by decide) (by decide) (by decide) (Nat.le_of_ble_eq_true rfl) (Nat.le_of_ble_eq_true rfl) dX8_init_14 (fun H f1 ef1 hM => ?_)
  have h4_1 : f1 4 = .inr (8, [.null, .int 0]) := m_ne ef1 h4 (by decide)
  refine m_putF fl_X8_7_X8 C hnm hM (i := 4) (by decide) h4_1 rfl rfl (Nat.le_of_ble_eq_true rfl) (fs1 := [.ref (b + 5), .int 0]) rfl (fun q hq => by cases hq; rfl) dX8_init_16 (fun H locs f2 ef2 hM => ?_)
  exact m_vret C hr hlk hM (⟨rfl, by rw [ef2, ef1]⟩) dX8_init_19
set_option maxHeartbeats 4000000 in
set_option maxRecDepth 100000 in
theorem a_X8_init_2 (l : Launch) (D : va_G) (kc : Nat → ClassId) (b : Nat) (f : Nat → va_E) (h6 : f 6 = .inr (8, [.null, .int 0])) : mMv l yX8_init cX8_init 2 1 1 150 D kc b 7 f [.ref (b + 6), .int 150] (fun u => u.1 = 8 ∧ u.2 = va_up (va_up f 7 (.inl (kc 2, 150, .inr (.inl (fun _ => 0))))) 6 (.inr (8, [.ref (b + 7), .int 0]))) := by
  refine m_start (by decide) (Nat.le_of_ble_eq_true rfl) ?_
  intro p e s m below meth c C hr hlk hnm hM ls hl
  obtain ⟨hx, hb, hml, hown, hts, hE, hbs⟩ := id C
  have hl : lv_has ls 2 [(0, .ref (b + 6)), (1, .int 150)] := hl
  refine lv_aload_n hx hb dX8_init_0 rfl (lv_at hl 0 rfl) ?_
  refine m_objInit wd_141 wd_102 wd_103 C hl.1 dX8_init_1 (Nat.le_of_ble_eq_true rfl) (Nat.le_of_ble_eq_true rfl) ?_
  refine lv_aload_n hx hb dX8_init_4 rfl (lv_at hl 0 rfl) ?_
  refine lv_iload_n hx hb dX8_init_5 rfl (lv_at hl 1 rfl) ?_
  refine lv_if_ge (tgt := 13) hx hb dX8_init_6 (by decide) (fun _ => ?_) (fun h => absurd (by decide) h)
  refine lv_iload_n hx hb dX8_init_13 rfl (lv_at hl 1 rfl) ?_
  refine m_newa (ty := .long) rfl wd_156 2 rfl id C hM (N' := 150) (a0 := (150, .inr (.inl (fun _ => 0)))) (fun _ => rfl) (by decide) (by decide) (by decide) (Nat.le_of_ble_eq_true rfl) (Nat.le_of_ble_eq_true rfl) dX8_init_14 (fun H f1 ef1 hM => ?_)
  have h6_1 : f1 6 = .inr (8, [.null, .int 0]) := m_ne ef1 h6 (by decide)
  refine m_putF fl_X8_7_X8 C hnm hM (i := 6) (by decide) h6_1 rfl rfl (Nat.le_of_ble_eq_true rfl) (fs1 := [.ref (b + 7), .int 0]) rfl (fun q hq => by cases hq; rfl) dX8_init_16 (fun H locs f2 ef2 hM => ?_)
  exact m_vret C hr hlk hM (⟨rfl, by rw [ef2, ef1]⟩) dX8_init_19
set_option maxHeartbeats 4000000 in
set_option maxRecDepth 100000 in
theorem a_X8_init_3 (l : Launch) (D : va_G) (kc : Nat → ClassId) (b : Nat) (f : Nat → va_E) (h8 : f 8 = .inr (8, [.null, .int 0])) : mMv l yX8_init cX8_init 2 1 1 300 D kc b 9 f [.ref (b + 8), .int 300] (fun u => u.1 = 10 ∧ u.2 = va_up (va_up f 9 (.inl (kc 2, 300, .inr (.inl (fun _ => 0))))) 8 (.inr (8, [.ref (b + 9), .int 0]))) := by
  refine m_start (by decide) (Nat.le_of_ble_eq_true rfl) ?_
  intro p e s m below meth c C hr hlk hnm hM ls hl
  obtain ⟨hx, hb, hml, hown, hts, hE, hbs⟩ := id C
  have hl : lv_has ls 2 [(0, .ref (b + 8)), (1, .int 300)] := hl
  refine lv_aload_n hx hb dX8_init_0 rfl (lv_at hl 0 rfl) ?_
  refine m_objInit wd_141 wd_102 wd_103 C hl.1 dX8_init_1 (Nat.le_of_ble_eq_true rfl) (Nat.le_of_ble_eq_true rfl) ?_
  refine lv_aload_n hx hb dX8_init_4 rfl (lv_at hl 0 rfl) ?_
  refine lv_iload_n hx hb dX8_init_5 rfl (lv_at hl 1 rfl) ?_
  refine lv_if_ge (tgt := 13) hx hb dX8_init_6 (by decide) (fun _ => ?_) (fun h => absurd (by decide) h)
  refine lv_iload_n hx hb dX8_init_13 rfl (lv_at hl 1 rfl) ?_
  refine m_newa (ty := .long) rfl wd_156 2 rfl id C hM (N' := 300) (a0 := (300, .inr (.inl (fun _ => 0)))) (fun _ => rfl) (by decide) (by decide) (by decide) (Nat.le_of_ble_eq_true rfl) (Nat.le_of_ble_eq_true rfl) dX8_init_14 (fun H f1 ef1 hM => ?_)
  have h8_1 : f1 8 = .inr (8, [.null, .int 0]) := m_ne ef1 h8 (by decide)
  refine m_putF fl_X8_7_X8 C hnm hM (i := 8) (by decide) h8_1 rfl rfl (Nat.le_of_ble_eq_true rfl) (fs1 := [.ref (b + 9), .int 0]) rfl (fun q hq => by cases hq; rfl) dX8_init_16 (fun H locs f2 ef2 hM => ?_)
  exact m_vret C hr hlk hM (⟨rfl, by rw [ef2, ef1]⟩) dX8_init_19
set_option maxHeartbeats 4000000 in
set_option maxRecDepth 100000 in
theorem a_X8_init_4 (l : Launch) (D : va_G) (kc : Nat → ClassId) (b : Nat) (f : Nat → va_E) (h175 : f 175 = .inr (8, [.null, .int 0])) : mMv l yX8_init cX8_init 2 1 1 150 D kc b 176 f [.ref (b + 175), .int 150] (fun u => u.1 = 177 ∧ u.2 = va_up (va_up f 176 (.inl (kc 2, 150, .inr (.inl (fun _ => 0))))) 175 (.inr (8, [.ref (b + 176), .int 0]))) := by
  refine m_start (by decide) (Nat.le_of_ble_eq_true rfl) ?_
  intro p e s m below meth c C hr hlk hnm hM ls hl
  obtain ⟨hx, hb, hml, hown, hts, hE, hbs⟩ := id C
  have hl : lv_has ls 2 [(0, .ref (b + 175)), (1, .int 150)] := hl
  refine lv_aload_n hx hb dX8_init_0 rfl (lv_at hl 0 rfl) ?_
  refine m_objInit wd_141 wd_102 wd_103 C hl.1 dX8_init_1 (Nat.le_of_ble_eq_true rfl) (Nat.le_of_ble_eq_true rfl) ?_
  refine lv_aload_n hx hb dX8_init_4 rfl (lv_at hl 0 rfl) ?_
  refine lv_iload_n hx hb dX8_init_5 rfl (lv_at hl 1 rfl) ?_
  refine lv_if_ge (tgt := 13) hx hb dX8_init_6 (by decide) (fun _ => ?_) (fun h => absurd (by decide) h)
  refine lv_iload_n hx hb dX8_init_13 rfl (lv_at hl 1 rfl) ?_
  refine m_newa (ty := .long) rfl wd_156 2 rfl id C hM (N' := 150) (a0 := (150, .inr (.inl (fun _ => 0)))) (fun _ => rfl) (by decide) (by decide) (by decide) (Nat.le_of_ble_eq_true rfl) (Nat.le_of_ble_eq_true rfl) dX8_init_14 (fun H f1 ef1 hM => ?_)
  have h175_1 : f1 175 = .inr (8, [.null, .int 0]) := m_ne ef1 h175 (by decide)
  refine m_putF fl_X8_7_X8 C hnm hM (i := 175) (by decide) h175_1 rfl rfl (Nat.le_of_ble_eq_true rfl) (fs1 := [.ref (b + 176), .int 0]) rfl (fun q hq => by cases hq; rfl) dX8_init_16 (fun H locs f2 ef2 hM => ?_)
  exact m_vret C hr hlk hM (⟨rfl, by rw [ef2, ef1]⟩) dX8_init_19
set_option maxHeartbeats 4000000 in
set_option maxRecDepth 100000 in
theorem a_X9_init_0 (l : Launch) (D : va_G) (kc : Nat → ClassId) (b : Nat) (f : Nat → va_E) (h174 : f 174 = .inr (9, [.null])) : mMv l yX9_init cX9_init 1 2 2 152 D kc b 175 f [.ref (b + 174)] (fun u => u.1 = 177 ∧ u.2 = va_up (va_up (va_up (va_up f 175 (.inr (8, [.null, .int 0]))) 176 (.inl (kc 2, 150, .inr (.inl (fun _ => 0))))) 175 (.inr (8, [.ref (b + 176), .int 0]))) 174 (.inr (9, [.ref (b + 175)]))) := by
  refine m_start (by decide) (Nat.le_of_ble_eq_true rfl) ?_
  intro p e s m below meth c C hr hlk hnm hM ls hl
  obtain ⟨hx, hb, hml, hown, hts, hE, hbs⟩ := id C
  have hl : lv_has ls 1 [(0, .ref (b + 174))] := hl
  refine lv_aload_n hx hb dX9_init_0 rfl (lv_at hl 0 rfl) ?_
  refine m_objInit wd_264 wd_102 wd_103 C hl.1 dX9_init_1 (Nat.le_of_ble_eq_true rfl) (Nat.le_of_ble_eq_true rfl) ?_
  refine lv_aload_n hx hb dX9_init_4 rfl (lv_at hl 0 rfl) ?_
  refine m_new mk_X9_9 C hM (Nat.le_of_ble_eq_true rfl) (Nat.le_of_ble_eq_true rfl) dX9_init_5 (fun H f1 ef1 hM => ?_)
  refine lv_dup hx hb dX9_init_8 rfl ?_
  refine lv_sipush (v := 150) hx hb dX9_init_9 (by decide) ?_
  have h175_1 : f1 175 = .inr (8, [.null, .int 0]) := m_eq ef1
  refine m_gov (m_runI calI_X8_init wd_266 (a_X8_init_4 l D kc b f1 h175_1) C hM hl.1 rfl rfl (Nat.le_of_ble_eq_true rfl) dX9_init_12 ⟨Nat.le_of_ble_eq_true rfl, Nat.le_of_ble_eq_true rfl⟩ ⟨Nat.le_of_ble_eq_true rfl, Nat.le_of_ble_eq_true rfl⟩) hM (fun n2 f2 H locs hp hM => ?_)
  have hp : n2 = 177 ∧ f2 = va_up (va_up f1 176 (.inl (kc 2, 150, .inr (.inl (fun _ => 0))))) 175 (.inr (8, [.ref (b + 176), .int 0])) := hp
  obtain ⟨rfl, ef2⟩ := hp
  have h174_1 : f1 174 = .inr (9, [.null]) := m_ne ef1 h174 (by decide)
  have h174_2 : f2 174 = .inr (9, [.null]) := m_ne ef2 (m_ne rfl h174_1 (by decide)) (by decide)
  refine m_putF fl_X9_14_X9 C hnm hM (i := 174) (by decide) h174_2 rfl rfl (Nat.le_of_ble_eq_true rfl) (fs1 := [.ref (b + 175)]) rfl (fun q hq => by cases hq; rfl) dX9_init_15 (fun H locs f3 ef3 hM => ?_)
  exact m_vret C hr hlk hM (⟨rfl, by rw [ef3, ef2, ef1]⟩) dX9_init_18
set_option maxHeartbeats 4000000 in
set_option maxRecDepth 100000 in
theorem a_X4_init_0 (l : Launch) (D : va_G) (kc : Nat → ClassId) (b : Nat) (f : Nat → va_E) : mMv l yX4_init cX4_init 1 1 0 0 D kc b 178 f [.ref (b + 177)] (fun u => u.1 = 178 ∧ u.2 = f) := by
  refine m_start (by decide) (Nat.le_of_ble_eq_true rfl) ?_
  intro p e s m below meth c C hr hlk hnm hM ls hl
  obtain ⟨hx, hb, hml, hown, hts, hE, hbs⟩ := id C
  have hl : lv_has ls 1 [(0, .ref (b + 177))] := hl
  refine lv_aload_n hx hb dX4_init_0 rfl (lv_at hl 0 rfl) ?_
  refine m_objInit wd_277 wd_102 wd_103 C hl.1 dX4_init_1 (Nat.le_of_ble_eq_true rfl) (Nat.le_of_ble_eq_true rfl) ?_
  exact m_vret C hr hlk hM (⟨rfl, rfl⟩) dX4_init_4
set_option maxHeartbeats 4000000 in
set_option maxRecDepth 100000 in
theorem a_X7_init_0 (l : Launch) (D : va_G) (kc : Nat → ClassId) (b : Nat) (f : Nat → va_E) (h178 : f 178 = .inr (7, [.null, .null, .int 0, .null, .null])) : mMv l yX7_init cX7_init 1 1 2 80 D kc b 179 f [.ref (b + 178)] (fun u => u.1 = 181 ∧ u.2 = va_up (va_up (va_up (va_up f 179 (.inl (kc 4, 40, .inr (.inr (.inr (.inr (fun _ => none))))))) 178 (.inr (7, [.ref (b + 179), .null, .int 0, .null, .null]))) 180 (.inl (kc 3, 40, .inl (fun _ => 0)))) 178 (.inr (7, [.ref (b + 179), .ref (b + 180), .int 0, .null, .null]))) := by
  refine m_start (by decide) (Nat.le_of_ble_eq_true rfl) ?_
  intro p e s m below meth c C hr hlk hnm hM ls hl
  obtain ⟨hx, hb, hml, hown, hts, hE, hbs⟩ := id C
  have hl : lv_has ls 1 [(0, .ref (b + 178))] := hl
  refine lv_aload_n hx hb dX7_init_0 rfl (lv_at hl 0 rfl) ?_
  refine m_objInit wd_305 wd_102 wd_103 C hl.1 dX7_init_1 (Nat.le_of_ble_eq_true rfl) (Nat.le_of_ble_eq_true rfl) ?_
  refine lv_aload_n hx hb dX7_init_4 rfl (lv_at hl 0 rfl) ?_
  refine lv_bipush (v := 40) hx hb dX7_init_5 (by decide) ?_
  refine m_newq wd_306 C hM (N' := 40) (by decide) (by decide) (by decide) (Nat.le_of_ble_eq_true rfl) (Nat.le_of_ble_eq_true rfl) dX7_init_7 (fun H f1 ef1 hM => ?_)
  have h178_1 : f1 178 = .inr (7, [.null, .null, .int 0, .null, .null]) := m_ne ef1 h178 (by decide)
  refine m_putF fl_X7_11_X7 C hnm hM (i := 178) (by decide) h178_1 rfl rfl (Nat.le_of_ble_eq_true rfl) (fs1 := [.ref (b + 179), .null, .int 0, .null, .null]) rfl (fun q hq => by cases hq; rfl) dX7_init_10 (fun H locs f2 ef2 hM => ?_)
  refine lv_aload_n hx hb dX7_init_13 rfl (lv_at hl 0 rfl) ?_
  refine lv_bipush (v := 40) hx hb dX7_init_14 (by decide) ?_
  refine m_newa (ty := .boolean) rfl wd_323 3 rfl id C hM (N' := 40) (a0 := (40, .inl (fun _ => 0))) (fun _ => rfl) (by decide) (by decide) (by decide) (Nat.le_of_ble_eq_true rfl) (Nat.le_of_ble_eq_true rfl) dX7_init_16 (fun H f3 ef3 hM => ?_)
  have h178_2 : f2 178 = .inr (7, [.ref (b + 179), .null, .int 0, .null, .null]) := m_eq ef2
  have h178_3 : f3 178 = .inr (7, [.ref (b + 179), .null, .int 0, .null, .null]) := m_ne ef3 h178_2 (by decide)
  refine m_putF fl_X7_17_X7 C hnm hM (i := 178) (by decide) h178_3 rfl rfl (Nat.le_of_ble_eq_true rfl) (fs1 := [.ref (b + 179), .ref (b + 180), .int 0, .null, .null]) rfl (fun q hq => by cases hq; rfl) dX7_init_18 (fun H locs f4 ef4 hM => ?_)
  exact m_vret C hr hlk hM (⟨rfl, by rw [ef4, ef3, ef2, ef1]⟩) dX7_init_21
set_option maxHeartbeats 4000000 in
set_option maxRecDepth 100000 in
theorem a_X6_init_0 (l : Launch) (D : va_G) (kc : Nat → ClassId) (b : Nat) (f : Nat → va_E) (h181 : f 181 = .inr (6, [.null])) : mMv l yX6_init cX6_init 1 1 1 301 D kc b 182 f [.ref (b + 181)] (fun u => u.1 = 183 ∧ u.2 = va_up (va_up f 182 (.inl (kc 1, 301, .inl (fun _ => 0)))) 181 (.inr (6, [.ref (b + 182)]))) := by
  refine m_start (by decide) (Nat.le_of_ble_eq_true rfl) ?_
  intro p e s m below meth c C hr hlk hnm hM ls hl
  obtain ⟨hx, hb, hml, hown, hts, hE, hbs⟩ := id C
  have hl : lv_has ls 1 [(0, .ref (b + 181))] := hl
  refine lv_aload_n hx hb dX6_init_0 rfl (lv_at hl 0 rfl) ?_
  refine m_objInit wd_329 wd_102 wd_103 C hl.1 dX6_init_1 (Nat.le_of_ble_eq_true rfl) (Nat.le_of_ble_eq_true rfl) ?_
  refine lv_aload_n hx hb dX6_init_4 rfl (lv_at hl 0 rfl) ?_
  refine lv_sipush (v := 301) hx hb dX6_init_5 (by decide) ?_
  refine m_newa (ty := .int) rfl wd_232 1 rfl id C hM (N' := 301) (a0 := (301, .inl (fun _ => 0))) (fun _ => rfl) (by decide) (by decide) (by decide) (Nat.le_of_ble_eq_true rfl) (Nat.le_of_ble_eq_true rfl) dX6_init_8 (fun H f1 ef1 hM => ?_)
  have h181_1 : f1 181 = .inr (6, [.null]) := m_ne ef1 h181 (by decide)
  refine m_putF fl_X6_9_X6 C hnm hM (i := 181) (by decide) h181_1 rfl rfl (Nat.le_of_ble_eq_true rfl) (fs1 := [.ref (b + 182)]) rfl (fun q hq => by cases hq; rfl) dX6_init_10 (fun H locs f2 ef2 hM => ?_)
  exact m_vret C hr hlk hM (⟨rfl, by rw [ef2, ef1]⟩) dX6_init_13
set_option maxHeartbeats 4000000 in
set_option maxRecDepth 100000 in
theorem a_X8_init_5 (l : Launch) (D : va_G) (kc : Nat → ClassId) (b : Nat) (f : Nat → va_E) (h184 : f 184 = .inr (8, [.null, .int 0])) : mMv l yX8_init cX8_init 2 1 1 108 D kc b 185 f [.ref (b + 184), .int 108] (fun u => u.1 = 186 ∧ u.2 = va_up (va_up f 185 (.inl (kc 2, 108, .inr (.inl (fun _ => 0))))) 184 (.inr (8, [.ref (b + 185), .int 0]))) := by
  refine m_start (by decide) (Nat.le_of_ble_eq_true rfl) ?_
  intro p e s m below meth c C hr hlk hnm hM ls hl
  obtain ⟨hx, hb, hml, hown, hts, hE, hbs⟩ := id C
  have hl : lv_has ls 2 [(0, .ref (b + 184)), (1, .int 108)] := hl
  refine lv_aload_n hx hb dX8_init_0 rfl (lv_at hl 0 rfl) ?_
  refine m_objInit wd_141 wd_102 wd_103 C hl.1 dX8_init_1 (Nat.le_of_ble_eq_true rfl) (Nat.le_of_ble_eq_true rfl) ?_
  refine lv_aload_n hx hb dX8_init_4 rfl (lv_at hl 0 rfl) ?_
  refine lv_iload_n hx hb dX8_init_5 rfl (lv_at hl 1 rfl) ?_
  refine lv_if_ge (tgt := 13) hx hb dX8_init_6 (by decide) (fun _ => ?_) (fun h => absurd (by decide) h)
  refine lv_iload_n hx hb dX8_init_13 rfl (lv_at hl 1 rfl) ?_
  refine m_newa (ty := .long) rfl wd_156 2 rfl id C hM (N' := 108) (a0 := (108, .inr (.inl (fun _ => 0)))) (fun _ => rfl) (by decide) (by decide) (by decide) (Nat.le_of_ble_eq_true rfl) (Nat.le_of_ble_eq_true rfl) dX8_init_14 (fun H f1 ef1 hM => ?_)
  have h184_1 : f1 184 = .inr (8, [.null, .int 0]) := m_ne ef1 h184 (by decide)
  refine m_putF fl_X8_7_X8 C hnm hM (i := 184) (by decide) h184_1 rfl rfl (Nat.le_of_ble_eq_true rfl) (fs1 := [.ref (b + 185), .int 0]) rfl (fun q hq => by cases hq; rfl) dX8_init_16 (fun H locs f2 ef2 hM => ?_)
  exact m_vret C hr hlk hM (⟨rfl, by rw [ef2, ef1]⟩) dX8_init_19
set_option maxHeartbeats 4000000 in
set_option maxRecDepth 100000 in
theorem a_X2_init_0 (l : Launch) (D : va_G) (kc : Nat → ClassId) (b : Nat) (f : Nat → va_E) (h183 : f 183 = .inr (2, [.null, .null, .null, .null, .null, .int 0, .int 0, .int 0, .int 0, .int 0, .int 0, .int 0])) : mMv l yX2_init cX2_init 1 2 6 568 D kc b 184 f [.ref (b + 183)] (fun u => u.1 = 190 ∧ u.2 = va_up (va_up (va_up (va_up (va_up (va_up (va_up (va_up (va_up (va_up (va_up (va_up (va_up (va_up f 184 (.inr (8, [.null, .int 0]))) 185 (.inl (kc 2, 108, .inr (.inl (fun _ => 0))))) 184 (.inr (8, [.ref (b + 185), .int 0]))) 183 (.inr (2, [.ref (b + 184), .null, .null, .null, .null, .int 0, .int 0, .int 0, .int 0, .int 0, .int 0, .int 0]))) 186 (.inl (kc 1, 8, .inl (fun _ => 0)))) 183 (.inr (2, [.ref (b + 184), .ref (b + 186), .null, .null, .null, .int 0, .int 0, .int 0, .int 0, .int 0, .int 0, .int 0]))) 187 (.inl (kc 1, 150, .inl (fun _ => 0)))) 183 (.inr (2, [.ref (b + 184), .ref (b + 186), .ref (b + 187), .null, .null, .int 0, .int 0, .int 0, .int 0, .int 0, .int 0, .int 0]))) 188 (.inl (kc 1, 150, .inl (fun _ => 0)))) 183 (.inr (2, [.ref (b + 184), .ref (b + 186), .ref (b + 187), .ref (b + 188), .null, .int 0, .int 0, .int 0, .int 0, .int 0, .int 0, .int 0]))) 189 (.inl (kc 1, 150, .inl (fun _ => 0)))) 183 (.inr (2, [.ref (b + 184), .ref (b + 186), .ref (b + 187), .ref (b + 188), .ref (b + 189), .int 0, .int 0, .int 0, .int 0, .int 0, .int 0, .int 0]))) 183 (.inr (2, [.ref (b + 184), .ref (b + 186), .ref (b + 187), .ref (b + 188), .ref (b + 189), .int 2, .int 0, .int 0, .int 0, .int 0, .int 0, .int 0]))) 183 (.inr (2, [.ref (b + 184), .ref (b + 186), .ref (b + 187), .ref (b + 188), .ref (b + 189), .int 2, .int 3, .int 0, .int 0, .int 0, .int 0, .int 0]))) := by
  refine m_start (by decide) (Nat.le_of_ble_eq_true rfl) ?_
  intro p e s m below meth c C hr hlk hnm hM ls hl
  obtain ⟨hx, hb, hml, hown, hts, hE, hbs⟩ := id C
  have hl : lv_has ls 1 [(0, .ref (b + 183))] := hl
  refine lv_aload_n hx hb dX2_init_0 rfl (lv_at hl 0 rfl) ?_
  refine m_objInit wd_339 wd_102 wd_103 C hl.1 dX2_init_1 (Nat.le_of_ble_eq_true rfl) (Nat.le_of_ble_eq_true rfl) ?_
  refine lv_aload_n hx hb dX2_init_4 rfl (lv_at hl 0 rfl) ?_
  refine m_new mk_X2_9 C hM (Nat.le_of_ble_eq_true rfl) (Nat.le_of_ble_eq_true rfl) dX2_init_5 (fun H f1 ef1 hM => ?_)
  refine lv_dup hx hb dX2_init_8 rfl ?_
  refine lv_bipush (v := 108) hx hb dX2_init_9 (by decide) ?_
  have h184_1 : f1 184 = .inr (8, [.null, .int 0]) := m_eq ef1
  refine m_gov (m_runI calI_X8_init wd_341 (a_X8_init_5 l D kc b f1 h184_1) C hM hl.1 rfl rfl (Nat.le_of_ble_eq_true rfl) dX2_init_11 ⟨Nat.le_of_ble_eq_true rfl, Nat.le_of_ble_eq_true rfl⟩ ⟨Nat.le_of_ble_eq_true rfl, Nat.le_of_ble_eq_true rfl⟩) hM (fun n2 f2 H locs hp hM => ?_)
  have hp : n2 = 186 ∧ f2 = va_up (va_up f1 185 (.inl (kc 2, 108, .inr (.inl (fun _ => 0))))) 184 (.inr (8, [.ref (b + 185), .int 0])) := hp
  obtain ⟨rfl, ef2⟩ := hp
  have h183_1 : f1 183 = .inr (2, [.null, .null, .null, .null, .null, .int 0, .int 0, .int 0, .int 0, .int 0, .int 0, .int 0]) := m_ne ef1 h183 (by decide)
  have h183_2 : f2 183 = .inr (2, [.null, .null, .null, .null, .null, .int 0, .int 0, .int 0, .int 0, .int 0, .int 0, .int 0]) := m_ne ef2 (m_ne rfl h183_1 (by decide)) (by decide)
  refine m_putF fl_X2_14_X2 C hnm hM (i := 183) (by decide) h183_2 rfl rfl (Nat.le_of_ble_eq_true rfl) (fs1 := [.ref (b + 184), .null, .null, .null, .null, .int 0, .int 0, .int 0, .int 0, .int 0, .int 0, .int 0]) rfl (fun q hq => by cases hq; rfl) dX2_init_14 (fun H locs f3 ef3 hM => ?_)
  refine lv_aload_n hx hb dX2_init_17 rfl (lv_at hl 0 rfl) ?_
  refine lv_bipush (v := 8) hx hb dX2_init_18 (by decide) ?_
  refine m_newa (ty := .int) rfl wd_232 1 rfl id C hM (N' := 8) (a0 := (8, .inl (fun _ => 0))) (fun _ => rfl) (by decide) (by decide) (by decide) (Nat.le_of_ble_eq_true rfl) (Nat.le_of_ble_eq_true rfl) dX2_init_20 (fun H f4 ef4 hM => ?_)
  have h183_3 : f3 183 = .inr (2, [.ref (b + 184), .null, .null, .null, .null, .int 0, .int 0, .int 0, .int 0, .int 0, .int 0, .int 0]) := m_eq ef3
  have h183_4 : f4 183 = .inr (2, [.ref (b + 184), .null, .null, .null, .null, .int 0, .int 0, .int 0, .int 0, .int 0, .int 0, .int 0]) := m_ne ef4 h183_3 (by decide)
  refine m_putF fl_X2_20_X2 C hnm hM (i := 183) (by decide) h183_4 rfl rfl (Nat.le_of_ble_eq_true rfl) (fs1 := [.ref (b + 184), .ref (b + 186), .null, .null, .null, .int 0, .int 0, .int 0, .int 0, .int 0, .int 0, .int 0]) rfl (fun q hq => by cases hq; rfl) dX2_init_22 (fun H locs f5 ef5 hM => ?_)
  refine lv_aload_n hx hb dX2_init_25 rfl (lv_at hl 0 rfl) ?_
  refine lv_sipush (v := 150) hx hb dX2_init_26 (by decide) ?_
  refine m_newa (ty := .int) rfl wd_232 1 rfl id C hM (N' := 150) (a0 := (150, .inl (fun _ => 0))) (fun _ => rfl) (by decide) (by decide) (by decide) (Nat.le_of_ble_eq_true rfl) (Nat.le_of_ble_eq_true rfl) dX2_init_29 (fun H f6 ef6 hM => ?_)
  have h183_5 : f5 183 = .inr (2, [.ref (b + 184), .ref (b + 186), .null, .null, .null, .int 0, .int 0, .int 0, .int 0, .int 0, .int 0, .int 0]) := m_eq ef5
  have h183_6 : f6 183 = .inr (2, [.ref (b + 184), .ref (b + 186), .null, .null, .null, .int 0, .int 0, .int 0, .int 0, .int 0, .int 0, .int 0]) := m_ne ef6 h183_5 (by decide)
  refine m_putF fl_X2_24_X2 C hnm hM (i := 183) (by decide) h183_6 rfl rfl (Nat.le_of_ble_eq_true rfl) (fs1 := [.ref (b + 184), .ref (b + 186), .ref (b + 187), .null, .null, .int 0, .int 0, .int 0, .int 0, .int 0, .int 0, .int 0]) rfl (fun q hq => by cases hq; rfl) dX2_init_31 (fun H locs f7 ef7 hM => ?_)
  refine lv_aload_n hx hb dX2_init_34 rfl (lv_at hl 0 rfl) ?_
  refine lv_sipush (v := 150) hx hb dX2_init_35 (by decide) ?_
  refine m_newa (ty := .int) rfl wd_232 1 rfl id C hM (N' := 150) (a0 := (150, .inl (fun _ => 0))) (fun _ => rfl) (by decide) (by decide) (by decide) (Nat.le_of_ble_eq_true rfl) (Nat.le_of_ble_eq_true rfl) dX2_init_38 (fun H f8 ef8 hM => ?_)
  have h183_7 : f7 183 = .inr (2, [.ref (b + 184), .ref (b + 186), .ref (b + 187), .null, .null, .int 0, .int 0, .int 0, .int 0, .int 0, .int 0, .int 0]) := m_eq ef7
  have h183_8 : f8 183 = .inr (2, [.ref (b + 184), .ref (b + 186), .ref (b + 187), .null, .null, .int 0, .int 0, .int 0, .int 0, .int 0, .int 0, .int 0]) := m_ne ef8 h183_7 (by decide)
  refine m_putF fl_X2_27_X2 C hnm hM (i := 183) (by decide) h183_8 rfl rfl (Nat.le_of_ble_eq_true rfl) (fs1 := [.ref (b + 184), .ref (b + 186), .ref (b + 187), .ref (b + 188), .null, .int 0, .int 0, .int 0, .int 0, .int 0, .int 0, .int 0]) rfl (fun q hq => by cases hq; rfl) dX2_init_40 (fun H locs f9 ef9 hM => ?_)
  refine lv_aload_n hx hb dX2_init_43 rfl (lv_at hl 0 rfl) ?_
  refine lv_sipush (v := 150) hx hb dX2_init_44 (by decide) ?_
  refine m_newa (ty := .int) rfl wd_232 1 rfl id C hM (N' := 150) (a0 := (150, .inl (fun _ => 0))) (fun _ => rfl) (by decide) (by decide) (by decide) (Nat.le_of_ble_eq_true rfl) (Nat.le_of_ble_eq_true rfl) dX2_init_47 (fun H f10 ef10 hM => ?_)
  have h183_9 : f9 183 = .inr (2, [.ref (b + 184), .ref (b + 186), .ref (b + 187), .ref (b + 188), .null, .int 0, .int 0, .int 0, .int 0, .int 0, .int 0, .int 0]) := m_eq ef9
  have h183_10 : f10 183 = .inr (2, [.ref (b + 184), .ref (b + 186), .ref (b + 187), .ref (b + 188), .null, .int 0, .int 0, .int 0, .int 0, .int 0, .int 0, .int 0]) := m_ne ef10 h183_9 (by decide)
  refine m_putF fl_X2_30_X2 C hnm hM (i := 183) (by decide) h183_10 rfl rfl (Nat.le_of_ble_eq_true rfl) (fs1 := [.ref (b + 184), .ref (b + 186), .ref (b + 187), .ref (b + 188), .ref (b + 189), .int 0, .int 0, .int 0, .int 0, .int 0, .int 0, .int 0]) rfl (fun q hq => by cases hq; rfl) dX2_init_49 (fun H locs f11 ef11 hM => ?_)
  refine lv_aload_n hx hb dX2_init_52 rfl (lv_at hl 0 rfl) ?_
  refine lv_iconst (v := 2) hx hb dX2_init_53 (by decide) ?_
  have h183_11 : f11 183 = .inr (2, [.ref (b + 184), .ref (b + 186), .ref (b + 187), .ref (b + 188), .ref (b + 189), .int 0, .int 0, .int 0, .int 0, .int 0, .int 0, .int 0]) := m_eq ef11
  refine m_put fl_X2_33_X2 C hM (i := 183) (by decide) h183_11 rfl rfl (Nat.le_of_ble_eq_true rfl) (fs1 := [.ref (b + 184), .ref (b + 186), .ref (b + 187), .ref (b + 188), .ref (b + 189), .int 2, .int 0, .int 0, .int 0, .int 0, .int 0, .int 0]) rfl dX2_init_54 (fun H locs f12 ef12 hM => ?_)
  refine lv_aload_n hx hb dX2_init_57 rfl (lv_at hl 0 rfl) ?_
  refine lv_iconst (v := 3) hx hb dX2_init_58 (by decide) ?_
  have h183_12 : f12 183 = .inr (2, [.ref (b + 184), .ref (b + 186), .ref (b + 187), .ref (b + 188), .ref (b + 189), .int 2, .int 0, .int 0, .int 0, .int 0, .int 0, .int 0]) := m_eq ef12
  refine m_put fl_X2_37_X2 C hM (i := 183) (by decide) h183_12 rfl rfl (Nat.le_of_ble_eq_true rfl) (fs1 := [.ref (b + 184), .ref (b + 186), .ref (b + 187), .ref (b + 188), .ref (b + 189), .int 2, .int 3, .int 0, .int 0, .int 0, .int 0, .int 0]) rfl dX2_init_59 (fun H locs f13 ef13 hM => ?_)
  exact m_vret C hr hlk hM (⟨rfl, by rw [ef13, ef12, ef11, ef10, ef9, ef8, ef7, ef6, ef5, ef4, ef3, ef2, ef1]⟩) dX2_init_62
set_option maxHeartbeats 4000000 in
set_option maxRecDepth 100000 in
theorem a_X0_init_0 (l : Launch) (D : va_G) (kc : Nat → ClassId) (b : Nat) (f : Nat → va_E) (h190 : f 190 = .inr (0, [.null])) : mMv l yX0_init cX0_init 1 1 1 5 D kc b 191 f [.ref (b + 190)] (fun u => u.1 = 192 ∧ u.2 = va_up (va_up f 191 (.inl (kc 1, 5, .inl (mPr)))) 190 (.inr (0, [.ref (b + 191)]))) := by
  refine m_start (by decide) (Nat.le_of_ble_eq_true rfl) ?_
  intro p e s m below meth c C hr hlk hnm hM ls hl
  obtain ⟨hx, hb, hml, hown, hts, hE, hbs⟩ := id C
  have hl : lv_has ls 1 [(0, .ref (b + 190))] := hl
  refine lv_aload_n hx hb dX0_init_0 rfl (lv_at hl 0 rfl) ?_
  refine m_objInit wd_386 wd_102 wd_103 C hl.1 dX0_init_1 (Nat.le_of_ble_eq_true rfl) (Nat.le_of_ble_eq_true rfl) ?_
  refine lv_aload_n hx hb dX0_init_4 rfl (lv_at hl 0 rfl) ?_
  obtain ⟨⟨tz1, hzz1, htz1⟩, -⟩ := hE.2.2.2.1
  refine va_getsN hx hb hzz1 hM.2 hown (va_Nw.use rfl (hE.2.1 _ wd_387)) (fun _ h => h) dX0_init_5 ?_
  refine m_cloneS wd_389 wd_390 wd_391 wd_392 wd_393 wd_394 C hM htz1 hl.1 (Nat.le_of_ble_eq_true rfl) (Nat.le_of_ble_eq_true rfl) (Nat.le_of_ble_eq_true rfl) (Nat.le_of_ble_eq_true rfl) dX0_init_8 (fun H f1 ef1 hM => ?_)
  have h191_1 : f1 191 = .inl (kc 1, 5, .inl (mPr)) := m_eq ef1
  refine m_cast wd_395 C hM (by decide) (t := 1) h191_1 (va_nm_int (hE.1.2 1 _ rfl).2) dX0_init_11 ?_
  have h190_1 : f1 190 = .inr (0, [.null]) := m_ne ef1 h190 (by decide)
  refine m_putF fl_X0_18_X0 C hnm hM (i := 190) (by decide) h190_1 rfl rfl (Nat.le_of_ble_eq_true rfl) (fs1 := [.ref (b + 191)]) rfl (fun q hq => by cases hq; rfl) dX0_init_14 (fun H locs f2 ef2 hM => ?_)
  exact m_vret C hr hlk hM (⟨rfl, by rw [ef2, ef1]⟩) dX0_init_17
set_option maxHeartbeats 4000000 in
set_option maxRecDepth 100000 in
theorem k_x_init (l : Launch) (D : va_G) (kc : Nat → ClassId) (b : Nat) (f : Nat → va_E) (h0 : f 0 = .inr (11, [.null, .null, .null, .null, .null, .null, .null, .null, .null, .null, .null, .null])) : mMv l yX11_init cX11_init 1 4 191 4702 D kc b 1 f [.ref (b + 0)] (fun u => u.1 = 192 ∧ u.2 0 = .inr (11, [.ref (b + 1), .ref (b + 3), .ref (b + 4), .ref (b + 6), .ref (b + 8), .ref (b + 10), .ref (b + 174), .ref (b + 177), .ref (b + 178), .ref (b + 181), .ref (b + 183), .ref (b + 190)]) ∧ u.2 1 = .inr (10, [.ref (b + 2), .int 0]) ∧ u.2 2 = .inl (kc 0, 2000, .inl (fun _ => 0)) ∧ u.2 3 = .inr (1, [.int 0, .int (-1)]) ∧ u.2 4 = .inr (8, [.ref (b + 5), .int 0]) ∧ u.2 5 = .inl (kc 2, 60, .inr (.inl (fun _ => 0))) ∧ u.2 6 = .inr (8, [.ref (b + 7), .int 0]) ∧ u.2 7 = .inl (kc 2, 150, .inr (.inl (fun _ => 0))) ∧ u.2 8 = .inr (8, [.ref (b + 9), .int 0]) ∧ u.2 9 = .inl (kc 2, 300, .inr (.inl (fun _ => 0))) ∧ u.2 10 = .inr (5, [.ref (b + 11), .ref (b + 12), .ref (b + 13), .int 0, .int 0, .int 0]) ∧ u.2 11 = .inl (kc 4, 40, .inr (.inr (.inr (.inr (gMk b 40))))) ∧ u.2 12 = .inl (kc 1, 3, .inl (mRk)) ∧ u.2 13 = .inl (kc 1, 40, .inl (fun _ => 0)) ∧ u.2 174 = .inr (9, [.ref (b + 175)]) ∧ u.2 175 = .inr (8, [.ref (b + 176), .int 0]) ∧ u.2 176 = .inl (kc 2, 150, .inr (.inl (fun _ => 0))) ∧ u.2 177 = .inr (4, [.null, .null, .null, .int 0, .int 0, .int 0, .int 0]) ∧ u.2 178 = .inr (7, [.ref (b + 179), .ref (b + 180), .int 0, .null, .null]) ∧ u.2 179 = .inl (kc 4, 40, .inr (.inr (.inr (.inr (fun _ => none))))) ∧ u.2 180 = .inl (kc 3, 40, .inl (fun _ => 0)) ∧ u.2 181 = .inr (6, [.ref (b + 182)]) ∧ u.2 182 = .inl (kc 1, 301, .inl (fun _ => 0)) ∧ u.2 183 = .inr (2, [.ref (b + 184), .ref (b + 186), .ref (b + 187), .ref (b + 188), .ref (b + 189), .int 2, .int 3, .int 0, .int 0, .int 0, .int 0, .int 0]) ∧ u.2 184 = .inr (8, [.ref (b + 185), .int 0]) ∧ u.2 185 = .inl (kc 2, 108, .inr (.inl (fun _ => 0))) ∧ u.2 186 = .inl (kc 1, 8, .inl (fun _ => 0)) ∧ u.2 187 = .inl (kc 1, 150, .inl (fun _ => 0)) ∧ u.2 188 = .inl (kc 1, 150, .inl (fun _ => 0)) ∧ u.2 189 = .inl (kc 1, 150, .inl (fun _ => 0)) ∧ u.2 190 = .inr (0, [.ref (b + 191)]) ∧ u.2 191 = .inl (kc 1, 5, .inl (mPr)) ∧ (∀ j, 14 ≤ j → j < 174 → u.2 j = cellOf b kc j (fun _ => 0) (fun _ => 0) (fun _ => none))) := by
  refine m_start (by decide) (Nat.le_of_ble_eq_true rfl) ?_
  intro p e s m below meth c C hr hlk hnm hM ls hl
  obtain ⟨hx, hb, hml, hown, hts, hE, hbs⟩ := id C
  have hl : lv_has ls 1 [(0, .ref (b + 0))] := hl
  refine lv_aload_n hx hb dX11_init_0 rfl (lv_at hl 0 rfl) ?_
  refine m_objInit wd_101 wd_102 wd_103 C hl.1 dX11_init_1 (Nat.le_of_ble_eq_true rfl) (Nat.le_of_ble_eq_true rfl) ?_
  refine lv_aload_n hx hb dX11_init_4 rfl (lv_at hl 0 rfl) ?_
  refine m_new mk_X11_9 C hM (Nat.le_of_ble_eq_true rfl) (Nat.le_of_ble_eq_true rfl) dX11_init_5 (fun H f1 ef1 hM => ?_)
  refine lv_dup hx hb dX11_init_8 rfl ?_
  have h1_1 : f1 1 = .inr (10, [.null, .int 0]) := m_eq ef1
  refine m_gov (m_runIN calI_X10_init wd_106 (a_X10_init_0 l D kc b f1 h1_1) C hM hl.1 rfl rfl (Nat.le_of_ble_eq_true rfl) dX11_init_9 ⟨Nat.le_of_ble_eq_true rfl, Nat.le_of_ble_eq_true rfl⟩ ⟨Nat.le_of_ble_eq_true rfl, Nat.le_of_ble_eq_true rfl⟩) hM (fun n2 f2 H locs hp hM => ?_)
  have hp : n2 = 3 ∧ f2 = va_up (va_up f1 2 (.inl (kc 0, 2000, .inl (fun _ => 0)))) 1 (.inr (10, [.ref (b + 2), .int 0])) := hp
  obtain ⟨rfl, ef2⟩ := hp
  have h0_1 : f1 0 = .inr (11, [.null, .null, .null, .null, .null, .null, .null, .null, .null, .null, .null, .null]) := m_ne ef1 h0 (by decide)
  have h0_2 : f2 0 = .inr (11, [.null, .null, .null, .null, .null, .null, .null, .null, .null, .null, .null, .null]) := m_ne ef2 (m_ne rfl h0_1 (by decide)) (by decide)
  refine m_putF fl_X11_12_X11 C hnm hM (i := 0) (by decide) h0_2 rfl rfl (Nat.le_of_ble_eq_true rfl) (fs1 := [.ref (b + 1), .null, .null, .null, .null, .null, .null, .null, .null, .null, .null, .null]) rfl (fun q hq => by cases hq; rfl) dX11_init_12 (fun H locs f3 ef3 hM => ?_)
  refine lv_aload_n hx hb dX11_init_15 rfl (lv_at hl 0 rfl) ?_
  refine m_new mk_X11_16 C hM (Nat.le_of_ble_eq_true rfl) (Nat.le_of_ble_eq_true rfl) dX11_init_16 (fun H f4 ef4 hM => ?_)
  refine lv_dup hx hb dX11_init_19 rfl ?_
  have h3_4 : f4 3 = .inr (1, [.int 0, .int 0]) := m_eq ef4
  refine m_gov (m_runIN calI_X1_init wd_123 (a_X1_init_0 l D kc b f4 h3_4) C hM hl.1 rfl rfl (Nat.le_of_ble_eq_true rfl) dX11_init_20 ⟨Nat.le_of_ble_eq_true rfl, Nat.le_of_ble_eq_true rfl⟩ ⟨Nat.le_of_ble_eq_true rfl, Nat.le_of_ble_eq_true rfl⟩) hM (fun n4 f5 H locs hp hM => ?_)
  have hp : n4 = 4 ∧ f5 = va_up f4 3 (.inr (1, [.int 0, .int (-1)])) := hp
  obtain ⟨rfl, ef5⟩ := hp
  have h0_3 : f3 0 = .inr (11, [.ref (b + 1), .null, .null, .null, .null, .null, .null, .null, .null, .null, .null, .null]) := m_eq ef3
  have h0_4 : f4 0 = .inr (11, [.ref (b + 1), .null, .null, .null, .null, .null, .null, .null, .null, .null, .null, .null]) := m_ne ef4 h0_3 (by decide)
  have h0_5 : f5 0 = .inr (11, [.ref (b + 1), .null, .null, .null, .null, .null, .null, .null, .null, .null, .null, .null]) := m_ne ef5 h0_4 (by decide)
  refine m_putF fl_X11_19_X11 C hnm hM (i := 0) (by decide) h0_5 rfl rfl (Nat.le_of_ble_eq_true rfl) (fs1 := [.ref (b + 1), .ref (b + 3), .null, .null, .null, .null, .null, .null, .null, .null, .null, .null]) rfl (fun q hq => by cases hq; rfl) dX11_init_23 (fun H locs f6 ef6 hM => ?_)
  refine lv_aload_n hx hb dX11_init_26 rfl (lv_at hl 0 rfl) ?_
  refine m_new mk_X11_23 C hM (Nat.le_of_ble_eq_true rfl) (Nat.le_of_ble_eq_true rfl) dX11_init_27 (fun H f7 ef7 hM => ?_)
  refine lv_dup hx hb dX11_init_30 rfl ?_
  refine lv_bipush (v := 60) hx hb dX11_init_31 (by decide) ?_
  have h4_7 : f7 4 = .inr (8, [.null, .int 0]) := m_eq ef7
  refine m_gov (m_runI calI_X8_init wd_138 (a_X8_init_1 l D kc b f7 h4_7) C hM hl.1 rfl rfl (Nat.le_of_ble_eq_true rfl) dX11_init_33 ⟨Nat.le_of_ble_eq_true rfl, Nat.le_of_ble_eq_true rfl⟩ ⟨Nat.le_of_ble_eq_true rfl, Nat.le_of_ble_eq_true rfl⟩) hM (fun n6 f8 H locs hp hM => ?_)
  have hp : n6 = 6 ∧ f8 = va_up (va_up f7 5 (.inl (kc 2, 60, .inr (.inl (fun _ => 0))))) 4 (.inr (8, [.ref (b + 5), .int 0])) := hp
  obtain ⟨rfl, ef8⟩ := hp
  have h0_6 : f6 0 = .inr (11, [.ref (b + 1), .ref (b + 3), .null, .null, .null, .null, .null, .null, .null, .null, .null, .null]) := m_eq ef6
  have h0_7 : f7 0 = .inr (11, [.ref (b + 1), .ref (b + 3), .null, .null, .null, .null, .null, .null, .null, .null, .null, .null]) := m_ne ef7 h0_6 (by decide)
  have h0_8 : f8 0 = .inr (11, [.ref (b + 1), .ref (b + 3), .null, .null, .null, .null, .null, .null, .null, .null, .null, .null]) := m_ne ef8 (m_ne rfl h0_7 (by decide)) (by decide)
  refine m_putF fl_X11_28_X11 C hnm hM (i := 0) (by decide) h0_8 rfl rfl (Nat.le_of_ble_eq_true rfl) (fs1 := [.ref (b + 1), .ref (b + 3), .ref (b + 4), .null, .null, .null, .null, .null, .null, .null, .null, .null]) rfl (fun q hq => by cases hq; rfl) dX11_init_36 (fun H locs f9 ef9 hM => ?_)
  refine lv_aload_n hx hb dX11_init_39 rfl (lv_at hl 0 rfl) ?_
  refine m_new mk_X11_23 C hM (Nat.le_of_ble_eq_true rfl) (Nat.le_of_ble_eq_true rfl) dX11_init_40 (fun H f10 ef10 hM => ?_)
  refine lv_dup hx hb dX11_init_43 rfl ?_
  refine lv_sipush (v := 150) hx hb dX11_init_44 (by decide) ?_
  have h6_10 : f10 6 = .inr (8, [.null, .int 0]) := m_eq ef10
  refine m_gov (m_runI calI_X8_init wd_138 (a_X8_init_2 l D kc b f10 h6_10) C hM hl.1 rfl rfl (Nat.le_of_ble_eq_true rfl) dX11_init_47 ⟨Nat.le_of_ble_eq_true rfl, Nat.le_of_ble_eq_true rfl⟩ ⟨Nat.le_of_ble_eq_true rfl, Nat.le_of_ble_eq_true rfl⟩) hM (fun n8 f11 H locs hp hM => ?_)
  have hp : n8 = 8 ∧ f11 = va_up (va_up f10 7 (.inl (kc 2, 150, .inr (.inl (fun _ => 0))))) 6 (.inr (8, [.ref (b + 7), .int 0])) := hp
  obtain ⟨rfl, ef11⟩ := hp
  have h0_9 : f9 0 = .inr (11, [.ref (b + 1), .ref (b + 3), .ref (b + 4), .null, .null, .null, .null, .null, .null, .null, .null, .null]) := m_eq ef9
  have h0_10 : f10 0 = .inr (11, [.ref (b + 1), .ref (b + 3), .ref (b + 4), .null, .null, .null, .null, .null, .null, .null, .null, .null]) := m_ne ef10 h0_9 (by decide)
  have h0_11 : f11 0 = .inr (11, [.ref (b + 1), .ref (b + 3), .ref (b + 4), .null, .null, .null, .null, .null, .null, .null, .null, .null]) := m_ne ef11 (m_ne rfl h0_10 (by decide)) (by decide)
  refine m_putF fl_X11_32_X11 C hnm hM (i := 0) (by decide) h0_11 rfl rfl (Nat.le_of_ble_eq_true rfl) (fs1 := [.ref (b + 1), .ref (b + 3), .ref (b + 4), .ref (b + 6), .null, .null, .null, .null, .null, .null, .null, .null]) rfl (fun q hq => by cases hq; rfl) dX11_init_50 (fun H locs f12 ef12 hM => ?_)
  refine lv_aload_n hx hb dX11_init_53 rfl (lv_at hl 0 rfl) ?_
  refine m_new mk_X11_23 C hM (Nat.le_of_ble_eq_true rfl) (Nat.le_of_ble_eq_true rfl) dX11_init_54 (fun H f13 ef13 hM => ?_)
  refine lv_dup hx hb dX11_init_57 rfl ?_
  refine lv_sipush (v := 300) hx hb dX11_init_58 (by decide) ?_
  have h8_13 : f13 8 = .inr (8, [.null, .int 0]) := m_eq ef13
  refine m_gov (m_runI calI_X8_init wd_138 (a_X8_init_3 l D kc b f13 h8_13) C hM hl.1 rfl rfl (Nat.le_of_ble_eq_true rfl) dX11_init_61 ⟨Nat.le_of_ble_eq_true rfl, Nat.le_of_ble_eq_true rfl⟩ ⟨Nat.le_of_ble_eq_true rfl, Nat.le_of_ble_eq_true rfl⟩) hM (fun n10 f14 H locs hp hM => ?_)
  have hp : n10 = 10 ∧ f14 = va_up (va_up f13 9 (.inl (kc 2, 300, .inr (.inl (fun _ => 0))))) 8 (.inr (8, [.ref (b + 9), .int 0])) := hp
  obtain ⟨rfl, ef14⟩ := hp
  have h0_12 : f12 0 = .inr (11, [.ref (b + 1), .ref (b + 3), .ref (b + 4), .ref (b + 6), .null, .null, .null, .null, .null, .null, .null, .null]) := m_eq ef12
  have h0_13 : f13 0 = .inr (11, [.ref (b + 1), .ref (b + 3), .ref (b + 4), .ref (b + 6), .null, .null, .null, .null, .null, .null, .null, .null]) := m_ne ef13 h0_12 (by decide)
  have h0_14 : f14 0 = .inr (11, [.ref (b + 1), .ref (b + 3), .ref (b + 4), .ref (b + 6), .null, .null, .null, .null, .null, .null, .null, .null]) := m_ne ef14 (m_ne rfl h0_13 (by decide)) (by decide)
  refine m_putF fl_X11_35_X11 C hnm hM (i := 0) (by decide) h0_14 rfl rfl (Nat.le_of_ble_eq_true rfl) (fs1 := [.ref (b + 1), .ref (b + 3), .ref (b + 4), .ref (b + 6), .ref (b + 8), .null, .null, .null, .null, .null, .null, .null]) rfl (fun q hq => by cases hq; rfl) dX11_init_64 (fun H locs f15 ef15 hM => ?_)
  refine lv_aload_n hx hb dX11_init_67 rfl (lv_at hl 0 rfl) ?_
  refine m_new mk_X11_38 C hM (Nat.le_of_ble_eq_true rfl) (Nat.le_of_ble_eq_true rfl) dX11_init_68 (fun H f16 ef16 hM => ?_)
  refine lv_dup hx hb dX11_init_71 rfl ?_
  have h10_16 : f16 10 = .inr (5, [.null, .null, .null, .int 0, .int 0, .int 0]) := m_eq ef16
  refine m_gov (m_runI calI_X5_init wd_159 (k_pile_init l D kc b f16 h10_16) C hM hl.1 rfl rfl (Nat.le_of_ble_eq_true rfl) dX11_init_72 ⟨Nat.le_of_ble_eq_true rfl, Nat.le_of_ble_eq_true rfl⟩ ⟨Nat.le_of_ble_eq_true rfl, Nat.le_of_ble_eq_true rfl⟩) hM (fun n12 f17 H locs hp hM => ?_)
  have hp : n12 = 174 ∧ (∀ j, j < 10 → f17 j = f16 j) ∧ f17 10 = .inr (5, [.ref (b + 11), .ref (b + 12), .ref (b + 13), .int 0, .int 0, .int 0]) ∧ (∀ j, 14 ≤ j → j < 174 → f17 j = cellOf b kc j (fun _ => 0) (fun _ => 0) (fun _ => none)) ∧ f17 11 = .inl (kc 4, 40, .inr (.inr (.inr (.inr (gMk b 40))))) ∧ f17 12 = .inl (kc 1, 3, .inl (mRk)) ∧ f17 13 = .inl (kc 1, 40, .inl (fun _ => 0)) := hp
  obtain ⟨rfl, fr17, h10_17, hmk17, h11_17, h12_17, h13_17⟩ := hp
  have h0_15 : f15 0 = .inr (11, [.ref (b + 1), .ref (b + 3), .ref (b + 4), .ref (b + 6), .ref (b + 8), .null, .null, .null, .null, .null, .null, .null]) := m_eq ef15
  have h0_16 : f16 0 = .inr (11, [.ref (b + 1), .ref (b + 3), .ref (b + 4), .ref (b + 6), .ref (b + 8), .null, .null, .null, .null, .null, .null, .null]) := m_ne ef16 h0_15 (by decide)
  have h0_17 : f17 0 = .inr (11, [.ref (b + 1), .ref (b + 3), .ref (b + 4), .ref (b + 6), .ref (b + 8), .null, .null, .null, .null, .null, .null, .null]) := (fr17 0 (by decide)).trans h0_16
  refine m_putF fl_X11_41_X11 C hnm hM (i := 0) (by decide) h0_17 rfl rfl (Nat.le_of_ble_eq_true rfl) (fs1 := [.ref (b + 1), .ref (b + 3), .ref (b + 4), .ref (b + 6), .ref (b + 8), .ref (b + 10), .null, .null, .null, .null, .null, .null]) rfl (fun q hq => by cases hq; rfl) dX11_init_75 (fun H locs f18 ef18 hM => ?_)
  refine lv_aload_n hx hb dX11_init_78 rfl (lv_at hl 0 rfl) ?_
  refine m_new mk_X11_45 C hM (Nat.le_of_ble_eq_true rfl) (Nat.le_of_ble_eq_true rfl) dX11_init_79 (fun H f19 ef19 hM => ?_)
  refine lv_dup hx hb dX11_init_82 rfl ?_
  have h174_19 : f19 174 = .inr (9, [.null]) := m_eq ef19
  refine m_gov (m_runIN calI_X9_init wd_261 (a_X9_init_0 l D kc b f19 h174_19) C hM hl.1 rfl rfl (Nat.le_of_ble_eq_true rfl) dX11_init_83 ⟨Nat.le_of_ble_eq_true rfl, Nat.le_of_ble_eq_true rfl⟩ ⟨Nat.le_of_ble_eq_true rfl, Nat.le_of_ble_eq_true rfl⟩) hM (fun n14 f20 H locs hp hM => ?_)
  have hp : n14 = 177 ∧ f20 = va_up (va_up (va_up (va_up f19 175 (.inr (8, [.null, .int 0]))) 176 (.inl (kc 2, 150, .inr (.inl (fun _ => 0))))) 175 (.inr (8, [.ref (b + 176), .int 0]))) 174 (.inr (9, [.ref (b + 175)])) := hp
  obtain ⟨rfl, ef20⟩ := hp
  have h0_18 : f18 0 = .inr (11, [.ref (b + 1), .ref (b + 3), .ref (b + 4), .ref (b + 6), .ref (b + 8), .ref (b + 10), .null, .null, .null, .null, .null, .null]) := m_eq ef18
  have h0_19 : f19 0 = .inr (11, [.ref (b + 1), .ref (b + 3), .ref (b + 4), .ref (b + 6), .ref (b + 8), .ref (b + 10), .null, .null, .null, .null, .null, .null]) := m_ne ef19 h0_18 (by decide)
  have h0_20 : f20 0 = .inr (11, [.ref (b + 1), .ref (b + 3), .ref (b + 4), .ref (b + 6), .ref (b + 8), .ref (b + 10), .null, .null, .null, .null, .null, .null]) := m_ne ef20 (m_ne rfl (m_ne rfl (m_ne rfl h0_19 (by decide)) (by decide)) (by decide)) (by decide)
  refine m_putF fl_X11_48_X11 C hnm hM (i := 0) (by decide) h0_20 rfl rfl (Nat.le_of_ble_eq_true rfl) (fs1 := [.ref (b + 1), .ref (b + 3), .ref (b + 4), .ref (b + 6), .ref (b + 8), .ref (b + 10), .ref (b + 174), .null, .null, .null, .null, .null]) rfl (fun q hq => by cases hq; rfl) dX11_init_86 (fun H locs f21 ef21 hM => ?_)
  refine lv_aload_n hx hb dX11_init_89 rfl (lv_at hl 0 rfl) ?_
  refine m_new mk_X11_52 C hM (Nat.le_of_ble_eq_true rfl) (Nat.le_of_ble_eq_true rfl) dX11_init_90 (fun H f22 ef22 hM => ?_)
  refine lv_dup hx hb dX11_init_93 rfl ?_
  refine m_gov (m_runIN calI_X4_init wd_274 (a_X4_init_0 l D kc b f22) C hM hl.1 rfl rfl (Nat.le_of_ble_eq_true rfl) dX11_init_94 ⟨Nat.le_of_ble_eq_true rfl, Nat.le_of_ble_eq_true rfl⟩ ⟨Nat.le_of_ble_eq_true rfl, Nat.le_of_ble_eq_true rfl⟩) hM (fun n16 f23 H locs hp hM => ?_)
  have hp : n16 = 178 ∧ f23 = f22 := hp
  obtain ⟨rfl, ef23⟩ := hp
  have h0_21 : f21 0 = .inr (11, [.ref (b + 1), .ref (b + 3), .ref (b + 4), .ref (b + 6), .ref (b + 8), .ref (b + 10), .ref (b + 174), .null, .null, .null, .null, .null]) := m_eq ef21
  have h0_22 : f22 0 = .inr (11, [.ref (b + 1), .ref (b + 3), .ref (b + 4), .ref (b + 6), .ref (b + 8), .ref (b + 10), .ref (b + 174), .null, .null, .null, .null, .null]) := m_ne ef22 h0_21 (by decide)
  have h0_23 : f23 0 = .inr (11, [.ref (b + 1), .ref (b + 3), .ref (b + 4), .ref (b + 6), .ref (b + 8), .ref (b + 10), .ref (b + 174), .null, .null, .null, .null, .null]) := m_sm ef23 h0_22
  refine m_putF fl_X11_55_X11 C hnm hM (i := 0) (by decide) h0_23 rfl rfl (Nat.le_of_ble_eq_true rfl) (fs1 := [.ref (b + 1), .ref (b + 3), .ref (b + 4), .ref (b + 6), .ref (b + 8), .ref (b + 10), .ref (b + 174), .ref (b + 177), .null, .null, .null, .null]) rfl (fun q hq => by cases hq; rfl) dX11_init_97 (fun H locs f24 ef24 hM => ?_)
  refine lv_aload_n hx hb dX11_init_100 rfl (lv_at hl 0 rfl) ?_
  refine m_new mk_X11_59 C hM (Nat.le_of_ble_eq_true rfl) (Nat.le_of_ble_eq_true rfl) dX11_init_101 (fun H f25 ef25 hM => ?_)
  refine lv_dup hx hb dX11_init_104 rfl ?_
  have h178_25 : f25 178 = .inr (7, [.null, .null, .int 0, .null, .null]) := m_eq ef25
  refine m_gov (m_runIN calI_X7_init wd_302 (a_X7_init_0 l D kc b f25 h178_25) C hM hl.1 rfl rfl (Nat.le_of_ble_eq_true rfl) dX11_init_105 ⟨Nat.le_of_ble_eq_true rfl, Nat.le_of_ble_eq_true rfl⟩ ⟨Nat.le_of_ble_eq_true rfl, Nat.le_of_ble_eq_true rfl⟩) hM (fun n18 f26 H locs hp hM => ?_)
  have hp : n18 = 181 ∧ f26 = va_up (va_up (va_up (va_up f25 179 (.inl (kc 4, 40, .inr (.inr (.inr (.inr (fun _ => none))))))) 178 (.inr (7, [.ref (b + 179), .null, .int 0, .null, .null]))) 180 (.inl (kc 3, 40, .inl (fun _ => 0)))) 178 (.inr (7, [.ref (b + 179), .ref (b + 180), .int 0, .null, .null])) := hp
  obtain ⟨rfl, ef26⟩ := hp
  have h0_24 : f24 0 = .inr (11, [.ref (b + 1), .ref (b + 3), .ref (b + 4), .ref (b + 6), .ref (b + 8), .ref (b + 10), .ref (b + 174), .ref (b + 177), .null, .null, .null, .null]) := m_eq ef24
  have h0_25 : f25 0 = .inr (11, [.ref (b + 1), .ref (b + 3), .ref (b + 4), .ref (b + 6), .ref (b + 8), .ref (b + 10), .ref (b + 174), .ref (b + 177), .null, .null, .null, .null]) := m_ne ef25 h0_24 (by decide)
  have h0_26 : f26 0 = .inr (11, [.ref (b + 1), .ref (b + 3), .ref (b + 4), .ref (b + 6), .ref (b + 8), .ref (b + 10), .ref (b + 174), .ref (b + 177), .null, .null, .null, .null]) := m_ne ef26 (m_ne rfl (m_ne rfl (m_ne rfl h0_25 (by decide)) (by decide)) (by decide)) (by decide)
  refine m_putF fl_X11_62_X11 C hnm hM (i := 0) (by decide) h0_26 rfl rfl (Nat.le_of_ble_eq_true rfl) (fs1 := [.ref (b + 1), .ref (b + 3), .ref (b + 4), .ref (b + 6), .ref (b + 8), .ref (b + 10), .ref (b + 174), .ref (b + 177), .ref (b + 178), .null, .null, .null]) rfl (fun q hq => by cases hq; rfl) dX11_init_108 (fun H locs f27 ef27 hM => ?_)
  refine lv_aload_n hx hb dX11_init_111 rfl (lv_at hl 0 rfl) ?_
  refine m_new mk_X11_66 C hM (Nat.le_of_ble_eq_true rfl) (Nat.le_of_ble_eq_true rfl) dX11_init_112 (fun H f28 ef28 hM => ?_)
  refine lv_dup hx hb dX11_init_115 rfl ?_
  have h181_28 : f28 181 = .inr (6, [.null]) := m_eq ef28
  refine m_gov (m_runIN calI_X6_init wd_326 (a_X6_init_0 l D kc b f28 h181_28) C hM hl.1 rfl rfl (Nat.le_of_ble_eq_true rfl) dX11_init_116 ⟨Nat.le_of_ble_eq_true rfl, Nat.le_of_ble_eq_true rfl⟩ ⟨Nat.le_of_ble_eq_true rfl, Nat.le_of_ble_eq_true rfl⟩) hM (fun n20 f29 H locs hp hM => ?_)
  have hp : n20 = 183 ∧ f29 = va_up (va_up f28 182 (.inl (kc 1, 301, .inl (fun _ => 0)))) 181 (.inr (6, [.ref (b + 182)])) := hp
  obtain ⟨rfl, ef29⟩ := hp
  have h0_27 : f27 0 = .inr (11, [.ref (b + 1), .ref (b + 3), .ref (b + 4), .ref (b + 6), .ref (b + 8), .ref (b + 10), .ref (b + 174), .ref (b + 177), .ref (b + 178), .null, .null, .null]) := m_eq ef27
  have h0_28 : f28 0 = .inr (11, [.ref (b + 1), .ref (b + 3), .ref (b + 4), .ref (b + 6), .ref (b + 8), .ref (b + 10), .ref (b + 174), .ref (b + 177), .ref (b + 178), .null, .null, .null]) := m_ne ef28 h0_27 (by decide)
  have h0_29 : f29 0 = .inr (11, [.ref (b + 1), .ref (b + 3), .ref (b + 4), .ref (b + 6), .ref (b + 8), .ref (b + 10), .ref (b + 174), .ref (b + 177), .ref (b + 178), .null, .null, .null]) := m_ne ef29 (m_ne rfl h0_28 (by decide)) (by decide)
  refine m_putF fl_X11_69_X11 C hnm hM (i := 0) (by decide) h0_29 rfl rfl (Nat.le_of_ble_eq_true rfl) (fs1 := [.ref (b + 1), .ref (b + 3), .ref (b + 4), .ref (b + 6), .ref (b + 8), .ref (b + 10), .ref (b + 174), .ref (b + 177), .ref (b + 178), .ref (b + 181), .null, .null]) rfl (fun q hq => by cases hq; rfl) dX11_init_119 (fun H locs f30 ef30 hM => ?_)
  refine lv_aload_n hx hb dX11_init_122 rfl (lv_at hl 0 rfl) ?_
  refine m_new mk_X11_73 C hM (Nat.le_of_ble_eq_true rfl) (Nat.le_of_ble_eq_true rfl) dX11_init_123 (fun H f31 ef31 hM => ?_)
  refine lv_dup hx hb dX11_init_126 rfl ?_
  have h183_31 : f31 183 = .inr (2, [.null, .null, .null, .null, .null, .int 0, .int 0, .int 0, .int 0, .int 0, .int 0, .int 0]) := m_eq ef31
  refine m_gov (m_runIN calI_X2_init wd_336 (a_X2_init_0 l D kc b f31 h183_31) C hM hl.1 rfl rfl (Nat.le_of_ble_eq_true rfl) dX11_init_127 ⟨Nat.le_of_ble_eq_true rfl, Nat.le_of_ble_eq_true rfl⟩ ⟨Nat.le_of_ble_eq_true rfl, Nat.le_of_ble_eq_true rfl⟩) hM (fun n22 f32 H locs hp hM => ?_)
  have hp : n22 = 190 ∧ f32 = va_up (va_up (va_up (va_up (va_up (va_up (va_up (va_up (va_up (va_up (va_up (va_up (va_up (va_up f31 184 (.inr (8, [.null, .int 0]))) 185 (.inl (kc 2, 108, .inr (.inl (fun _ => 0))))) 184 (.inr (8, [.ref (b + 185), .int 0]))) 183 (.inr (2, [.ref (b + 184), .null, .null, .null, .null, .int 0, .int 0, .int 0, .int 0, .int 0, .int 0, .int 0]))) 186 (.inl (kc 1, 8, .inl (fun _ => 0)))) 183 (.inr (2, [.ref (b + 184), .ref (b + 186), .null, .null, .null, .int 0, .int 0, .int 0, .int 0, .int 0, .int 0, .int 0]))) 187 (.inl (kc 1, 150, .inl (fun _ => 0)))) 183 (.inr (2, [.ref (b + 184), .ref (b + 186), .ref (b + 187), .null, .null, .int 0, .int 0, .int 0, .int 0, .int 0, .int 0, .int 0]))) 188 (.inl (kc 1, 150, .inl (fun _ => 0)))) 183 (.inr (2, [.ref (b + 184), .ref (b + 186), .ref (b + 187), .ref (b + 188), .null, .int 0, .int 0, .int 0, .int 0, .int 0, .int 0, .int 0]))) 189 (.inl (kc 1, 150, .inl (fun _ => 0)))) 183 (.inr (2, [.ref (b + 184), .ref (b + 186), .ref (b + 187), .ref (b + 188), .ref (b + 189), .int 0, .int 0, .int 0, .int 0, .int 0, .int 0, .int 0]))) 183 (.inr (2, [.ref (b + 184), .ref (b + 186), .ref (b + 187), .ref (b + 188), .ref (b + 189), .int 2, .int 0, .int 0, .int 0, .int 0, .int 0, .int 0]))) 183 (.inr (2, [.ref (b + 184), .ref (b + 186), .ref (b + 187), .ref (b + 188), .ref (b + 189), .int 2, .int 3, .int 0, .int 0, .int 0, .int 0, .int 0])) := hp
  obtain ⟨rfl, ef32⟩ := hp
  have h0_30 : f30 0 = .inr (11, [.ref (b + 1), .ref (b + 3), .ref (b + 4), .ref (b + 6), .ref (b + 8), .ref (b + 10), .ref (b + 174), .ref (b + 177), .ref (b + 178), .ref (b + 181), .null, .null]) := m_eq ef30
  have h0_31 : f31 0 = .inr (11, [.ref (b + 1), .ref (b + 3), .ref (b + 4), .ref (b + 6), .ref (b + 8), .ref (b + 10), .ref (b + 174), .ref (b + 177), .ref (b + 178), .ref (b + 181), .null, .null]) := m_ne ef31 h0_30 (by decide)
  have h0_32 : f32 0 = .inr (11, [.ref (b + 1), .ref (b + 3), .ref (b + 4), .ref (b + 6), .ref (b + 8), .ref (b + 10), .ref (b + 174), .ref (b + 177), .ref (b + 178), .ref (b + 181), .null, .null]) := m_ne ef32 (m_ne rfl (m_ne rfl (m_ne rfl (m_ne rfl (m_ne rfl (m_ne rfl (m_ne rfl (m_ne rfl (m_ne rfl (m_ne rfl (m_ne rfl (m_ne rfl (m_ne rfl h0_31 (by decide)) (by decide)) (by decide)) (by decide)) (by decide)) (by decide)) (by decide)) (by decide)) (by decide)) (by decide)) (by decide)) (by decide)) (by decide)) (by decide)
  refine m_putF fl_X11_76_X11 C hnm hM (i := 0) (by decide) h0_32 rfl rfl (Nat.le_of_ble_eq_true rfl) (fs1 := [.ref (b + 1), .ref (b + 3), .ref (b + 4), .ref (b + 6), .ref (b + 8), .ref (b + 10), .ref (b + 174), .ref (b + 177), .ref (b + 178), .ref (b + 181), .ref (b + 183), .null]) rfl (fun q hq => by cases hq; rfl) dX11_init_130 (fun H locs f33 ef33 hM => ?_)
  refine lv_aload_n hx hb dX11_init_133 rfl (lv_at hl 0 rfl) ?_
  refine m_new mk_X11_80 C hM (Nat.le_of_ble_eq_true rfl) (Nat.le_of_ble_eq_true rfl) dX11_init_134 (fun H f34 ef34 hM => ?_)
  refine lv_dup hx hb dX11_init_137 rfl ?_
  have h190_34 : f34 190 = .inr (0, [.null]) := m_eq ef34
  refine m_gov (m_runIN calI_X0_init wd_383 (a_X0_init_0 l D kc b f34 h190_34) C hM hl.1 rfl rfl (Nat.le_of_ble_eq_true rfl) dX11_init_138 ⟨Nat.le_of_ble_eq_true rfl, Nat.le_of_ble_eq_true rfl⟩ ⟨Nat.le_of_ble_eq_true rfl, Nat.le_of_ble_eq_true rfl⟩) hM (fun n24 f35 H locs hp hM => ?_)
  have hp : n24 = 192 ∧ f35 = va_up (va_up f34 191 (.inl (kc 1, 5, .inl (mPr)))) 190 (.inr (0, [.ref (b + 191)])) := hp
  obtain ⟨rfl, ef35⟩ := hp
  have h0_33 : f33 0 = .inr (11, [.ref (b + 1), .ref (b + 3), .ref (b + 4), .ref (b + 6), .ref (b + 8), .ref (b + 10), .ref (b + 174), .ref (b + 177), .ref (b + 178), .ref (b + 181), .ref (b + 183), .null]) := m_eq ef33
  have h0_34 : f34 0 = .inr (11, [.ref (b + 1), .ref (b + 3), .ref (b + 4), .ref (b + 6), .ref (b + 8), .ref (b + 10), .ref (b + 174), .ref (b + 177), .ref (b + 178), .ref (b + 181), .ref (b + 183), .null]) := m_ne ef34 h0_33 (by decide)
  have h0_35 : f35 0 = .inr (11, [.ref (b + 1), .ref (b + 3), .ref (b + 4), .ref (b + 6), .ref (b + 8), .ref (b + 10), .ref (b + 174), .ref (b + 177), .ref (b + 178), .ref (b + 181), .ref (b + 183), .null]) := m_ne ef35 (m_ne rfl h0_34 (by decide)) (by decide)
  refine m_putF fl_X11_83_X11 C hnm hM (i := 0) (by decide) h0_35 rfl rfl (Nat.le_of_ble_eq_true rfl) (fs1 := [.ref (b + 1), .ref (b + 3), .ref (b + 4), .ref (b + 6), .ref (b + 8), .ref (b + 10), .ref (b + 174), .ref (b + 177), .ref (b + 178), .ref (b + 181), .ref (b + 183), .ref (b + 190)]) rfl (fun q hq => by cases hq; rfl) dX11_init_141 (fun H locs f36 ef36 hM => ?_)
  have h0_36 : f36 0 = .inr (11, [.ref (b + 1), .ref (b + 3), .ref (b + 4), .ref (b + 6), .ref (b + 8), .ref (b + 10), .ref (b + 174), .ref (b + 177), .ref (b + 178), .ref (b + 181), .ref (b + 183), .ref (b + 190)]) := m_eq ef36
  have h1_2 : f2 1 = .inr (10, [.ref (b + 2), .int 0]) := m_eq ef2
  have h1_3 : f3 1 = .inr (10, [.ref (b + 2), .int 0]) := m_ne ef3 h1_2 (by decide)
  have h1_4 : f4 1 = .inr (10, [.ref (b + 2), .int 0]) := m_ne ef4 h1_3 (by decide)
  have h1_5 : f5 1 = .inr (10, [.ref (b + 2), .int 0]) := m_ne ef5 h1_4 (by decide)
  have h1_6 : f6 1 = .inr (10, [.ref (b + 2), .int 0]) := m_ne ef6 h1_5 (by decide)
  have h1_7 : f7 1 = .inr (10, [.ref (b + 2), .int 0]) := m_ne ef7 h1_6 (by decide)
  have h1_8 : f8 1 = .inr (10, [.ref (b + 2), .int 0]) := m_ne ef8 (m_ne rfl h1_7 (by decide)) (by decide)
  have h1_9 : f9 1 = .inr (10, [.ref (b + 2), .int 0]) := m_ne ef9 h1_8 (by decide)
  have h1_10 : f10 1 = .inr (10, [.ref (b + 2), .int 0]) := m_ne ef10 h1_9 (by decide)
  have h1_11 : f11 1 = .inr (10, [.ref (b + 2), .int 0]) := m_ne ef11 (m_ne rfl h1_10 (by decide)) (by decide)
  have h1_12 : f12 1 = .inr (10, [.ref (b + 2), .int 0]) := m_ne ef12 h1_11 (by decide)
  have h1_13 : f13 1 = .inr (10, [.ref (b + 2), .int 0]) := m_ne ef13 h1_12 (by decide)
  have h1_14 : f14 1 = .inr (10, [.ref (b + 2), .int 0]) := m_ne ef14 (m_ne rfl h1_13 (by decide)) (by decide)
  have h1_15 : f15 1 = .inr (10, [.ref (b + 2), .int 0]) := m_ne ef15 h1_14 (by decide)
  have h1_16 : f16 1 = .inr (10, [.ref (b + 2), .int 0]) := m_ne ef16 h1_15 (by decide)
  have h1_17 : f17 1 = .inr (10, [.ref (b + 2), .int 0]) := (fr17 1 (by decide)).trans h1_16
  have h1_18 : f18 1 = .inr (10, [.ref (b + 2), .int 0]) := m_ne ef18 h1_17 (by decide)
  have h1_19 : f19 1 = .inr (10, [.ref (b + 2), .int 0]) := m_ne ef19 h1_18 (by decide)
  have h1_20 : f20 1 = .inr (10, [.ref (b + 2), .int 0]) := m_ne ef20 (m_ne rfl (m_ne rfl (m_ne rfl h1_19 (by decide)) (by decide)) (by decide)) (by decide)
  have h1_21 : f21 1 = .inr (10, [.ref (b + 2), .int 0]) := m_ne ef21 h1_20 (by decide)
  have h1_22 : f22 1 = .inr (10, [.ref (b + 2), .int 0]) := m_ne ef22 h1_21 (by decide)
  have h1_23 : f23 1 = .inr (10, [.ref (b + 2), .int 0]) := m_sm ef23 h1_22
  have h1_24 : f24 1 = .inr (10, [.ref (b + 2), .int 0]) := m_ne ef24 h1_23 (by decide)
  have h1_25 : f25 1 = .inr (10, [.ref (b + 2), .int 0]) := m_ne ef25 h1_24 (by decide)
  have h1_26 : f26 1 = .inr (10, [.ref (b + 2), .int 0]) := m_ne ef26 (m_ne rfl (m_ne rfl (m_ne rfl h1_25 (by decide)) (by decide)) (by decide)) (by decide)
  have h1_27 : f27 1 = .inr (10, [.ref (b + 2), .int 0]) := m_ne ef27 h1_26 (by decide)
  have h1_28 : f28 1 = .inr (10, [.ref (b + 2), .int 0]) := m_ne ef28 h1_27 (by decide)
  have h1_29 : f29 1 = .inr (10, [.ref (b + 2), .int 0]) := m_ne ef29 (m_ne rfl h1_28 (by decide)) (by decide)
  have h1_30 : f30 1 = .inr (10, [.ref (b + 2), .int 0]) := m_ne ef30 h1_29 (by decide)
  have h1_31 : f31 1 = .inr (10, [.ref (b + 2), .int 0]) := m_ne ef31 h1_30 (by decide)
  have h1_32 : f32 1 = .inr (10, [.ref (b + 2), .int 0]) := m_ne ef32 (m_ne rfl (m_ne rfl (m_ne rfl (m_ne rfl (m_ne rfl (m_ne rfl (m_ne rfl (m_ne rfl (m_ne rfl (m_ne rfl (m_ne rfl (m_ne rfl (m_ne rfl h1_31 (by decide)) (by decide)) (by decide)) (by decide)) (by decide)) (by decide)) (by decide)) (by decide)) (by decide)) (by decide)) (by decide)) (by decide)) (by decide)) (by decide)
  have h1_33 : f33 1 = .inr (10, [.ref (b + 2), .int 0]) := m_ne ef33 h1_32 (by decide)
  have h1_34 : f34 1 = .inr (10, [.ref (b + 2), .int 0]) := m_ne ef34 h1_33 (by decide)
  have h1_35 : f35 1 = .inr (10, [.ref (b + 2), .int 0]) := m_ne ef35 (m_ne rfl h1_34 (by decide)) (by decide)
  have h1_36 : f36 1 = .inr (10, [.ref (b + 2), .int 0]) := m_ne ef36 h1_35 (by decide)
  have h2_2 : f2 2 = .inl (kc 0, 2000, .inl (fun _ => 0)) := m_ne ef2 (m_eq rfl) (by decide)
  have h2_3 : f3 2 = .inl (kc 0, 2000, .inl (fun _ => 0)) := m_ne ef3 h2_2 (by decide)
  have h2_4 : f4 2 = .inl (kc 0, 2000, .inl (fun _ => 0)) := m_ne ef4 h2_3 (by decide)
  have h2_5 : f5 2 = .inl (kc 0, 2000, .inl (fun _ => 0)) := m_ne ef5 h2_4 (by decide)
  have h2_6 : f6 2 = .inl (kc 0, 2000, .inl (fun _ => 0)) := m_ne ef6 h2_5 (by decide)
  have h2_7 : f7 2 = .inl (kc 0, 2000, .inl (fun _ => 0)) := m_ne ef7 h2_6 (by decide)
  have h2_8 : f8 2 = .inl (kc 0, 2000, .inl (fun _ => 0)) := m_ne ef8 (m_ne rfl h2_7 (by decide)) (by decide)
  have h2_9 : f9 2 = .inl (kc 0, 2000, .inl (fun _ => 0)) := m_ne ef9 h2_8 (by decide)
  have h2_10 : f10 2 = .inl (kc 0, 2000, .inl (fun _ => 0)) := m_ne ef10 h2_9 (by decide)
  have h2_11 : f11 2 = .inl (kc 0, 2000, .inl (fun _ => 0)) := m_ne ef11 (m_ne rfl h2_10 (by decide)) (by decide)
  have h2_12 : f12 2 = .inl (kc 0, 2000, .inl (fun _ => 0)) := m_ne ef12 h2_11 (by decide)
  have h2_13 : f13 2 = .inl (kc 0, 2000, .inl (fun _ => 0)) := m_ne ef13 h2_12 (by decide)
  have h2_14 : f14 2 = .inl (kc 0, 2000, .inl (fun _ => 0)) := m_ne ef14 (m_ne rfl h2_13 (by decide)) (by decide)
  have h2_15 : f15 2 = .inl (kc 0, 2000, .inl (fun _ => 0)) := m_ne ef15 h2_14 (by decide)
  have h2_16 : f16 2 = .inl (kc 0, 2000, .inl (fun _ => 0)) := m_ne ef16 h2_15 (by decide)
  have h2_17 : f17 2 = .inl (kc 0, 2000, .inl (fun _ => 0)) := (fr17 2 (by decide)).trans h2_16
  have h2_18 : f18 2 = .inl (kc 0, 2000, .inl (fun _ => 0)) := m_ne ef18 h2_17 (by decide)
  have h2_19 : f19 2 = .inl (kc 0, 2000, .inl (fun _ => 0)) := m_ne ef19 h2_18 (by decide)
  have h2_20 : f20 2 = .inl (kc 0, 2000, .inl (fun _ => 0)) := m_ne ef20 (m_ne rfl (m_ne rfl (m_ne rfl h2_19 (by decide)) (by decide)) (by decide)) (by decide)
  have h2_21 : f21 2 = .inl (kc 0, 2000, .inl (fun _ => 0)) := m_ne ef21 h2_20 (by decide)
  have h2_22 : f22 2 = .inl (kc 0, 2000, .inl (fun _ => 0)) := m_ne ef22 h2_21 (by decide)
  have h2_23 : f23 2 = .inl (kc 0, 2000, .inl (fun _ => 0)) := m_sm ef23 h2_22
  have h2_24 : f24 2 = .inl (kc 0, 2000, .inl (fun _ => 0)) := m_ne ef24 h2_23 (by decide)
  have h2_25 : f25 2 = .inl (kc 0, 2000, .inl (fun _ => 0)) := m_ne ef25 h2_24 (by decide)
  have h2_26 : f26 2 = .inl (kc 0, 2000, .inl (fun _ => 0)) := m_ne ef26 (m_ne rfl (m_ne rfl (m_ne rfl h2_25 (by decide)) (by decide)) (by decide)) (by decide)
  have h2_27 : f27 2 = .inl (kc 0, 2000, .inl (fun _ => 0)) := m_ne ef27 h2_26 (by decide)
  have h2_28 : f28 2 = .inl (kc 0, 2000, .inl (fun _ => 0)) := m_ne ef28 h2_27 (by decide)
  have h2_29 : f29 2 = .inl (kc 0, 2000, .inl (fun _ => 0)) := m_ne ef29 (m_ne rfl h2_28 (by decide)) (by decide)
  have h2_30 : f30 2 = .inl (kc 0, 2000, .inl (fun _ => 0)) := m_ne ef30 h2_29 (by decide)
  have h2_31 : f31 2 = .inl (kc 0, 2000, .inl (fun _ => 0)) := m_ne ef31 h2_30 (by decide)
  have h2_32 : f32 2 = .inl (kc 0, 2000, .inl (fun _ => 0)) := m_ne ef32 (m_ne rfl (m_ne rfl (m_ne rfl (m_ne rfl (m_ne rfl (m_ne rfl (m_ne rfl (m_ne rfl (m_ne rfl (m_ne rfl (m_ne rfl (m_ne rfl (m_ne rfl h2_31 (by decide)) (by decide)) (by decide)) (by decide)) (by decide)) (by decide)) (by decide)) (by decide)) (by decide)) (by decide)) (by decide)) (by decide)) (by decide)) (by decide)
  have h2_33 : f33 2 = .inl (kc 0, 2000, .inl (fun _ => 0)) := m_ne ef33 h2_32 (by decide)
  have h2_34 : f34 2 = .inl (kc 0, 2000, .inl (fun _ => 0)) := m_ne ef34 h2_33 (by decide)
  have h2_35 : f35 2 = .inl (kc 0, 2000, .inl (fun _ => 0)) := m_ne ef35 (m_ne rfl h2_34 (by decide)) (by decide)
  have h2_36 : f36 2 = .inl (kc 0, 2000, .inl (fun _ => 0)) := m_ne ef36 h2_35 (by decide)
  have h3_5 : f5 3 = .inr (1, [.int 0, .int (-1)]) := m_eq ef5
  have h3_6 : f6 3 = .inr (1, [.int 0, .int (-1)]) := m_ne ef6 h3_5 (by decide)
  have h3_7 : f7 3 = .inr (1, [.int 0, .int (-1)]) := m_ne ef7 h3_6 (by decide)
  have h3_8 : f8 3 = .inr (1, [.int 0, .int (-1)]) := m_ne ef8 (m_ne rfl h3_7 (by decide)) (by decide)
  have h3_9 : f9 3 = .inr (1, [.int 0, .int (-1)]) := m_ne ef9 h3_8 (by decide)
  have h3_10 : f10 3 = .inr (1, [.int 0, .int (-1)]) := m_ne ef10 h3_9 (by decide)
  have h3_11 : f11 3 = .inr (1, [.int 0, .int (-1)]) := m_ne ef11 (m_ne rfl h3_10 (by decide)) (by decide)
  have h3_12 : f12 3 = .inr (1, [.int 0, .int (-1)]) := m_ne ef12 h3_11 (by decide)
  have h3_13 : f13 3 = .inr (1, [.int 0, .int (-1)]) := m_ne ef13 h3_12 (by decide)
  have h3_14 : f14 3 = .inr (1, [.int 0, .int (-1)]) := m_ne ef14 (m_ne rfl h3_13 (by decide)) (by decide)
  have h3_15 : f15 3 = .inr (1, [.int 0, .int (-1)]) := m_ne ef15 h3_14 (by decide)
  have h3_16 : f16 3 = .inr (1, [.int 0, .int (-1)]) := m_ne ef16 h3_15 (by decide)
  have h3_17 : f17 3 = .inr (1, [.int 0, .int (-1)]) := (fr17 3 (by decide)).trans h3_16
  have h3_18 : f18 3 = .inr (1, [.int 0, .int (-1)]) := m_ne ef18 h3_17 (by decide)
  have h3_19 : f19 3 = .inr (1, [.int 0, .int (-1)]) := m_ne ef19 h3_18 (by decide)
  have h3_20 : f20 3 = .inr (1, [.int 0, .int (-1)]) := m_ne ef20 (m_ne rfl (m_ne rfl (m_ne rfl h3_19 (by decide)) (by decide)) (by decide)) (by decide)
  have h3_21 : f21 3 = .inr (1, [.int 0, .int (-1)]) := m_ne ef21 h3_20 (by decide)
  have h3_22 : f22 3 = .inr (1, [.int 0, .int (-1)]) := m_ne ef22 h3_21 (by decide)
  have h3_23 : f23 3 = .inr (1, [.int 0, .int (-1)]) := m_sm ef23 h3_22
  have h3_24 : f24 3 = .inr (1, [.int 0, .int (-1)]) := m_ne ef24 h3_23 (by decide)
  have h3_25 : f25 3 = .inr (1, [.int 0, .int (-1)]) := m_ne ef25 h3_24 (by decide)
  have h3_26 : f26 3 = .inr (1, [.int 0, .int (-1)]) := m_ne ef26 (m_ne rfl (m_ne rfl (m_ne rfl h3_25 (by decide)) (by decide)) (by decide)) (by decide)
  have h3_27 : f27 3 = .inr (1, [.int 0, .int (-1)]) := m_ne ef27 h3_26 (by decide)
  have h3_28 : f28 3 = .inr (1, [.int 0, .int (-1)]) := m_ne ef28 h3_27 (by decide)
  have h3_29 : f29 3 = .inr (1, [.int 0, .int (-1)]) := m_ne ef29 (m_ne rfl h3_28 (by decide)) (by decide)
  have h3_30 : f30 3 = .inr (1, [.int 0, .int (-1)]) := m_ne ef30 h3_29 (by decide)
  have h3_31 : f31 3 = .inr (1, [.int 0, .int (-1)]) := m_ne ef31 h3_30 (by decide)
  have h3_32 : f32 3 = .inr (1, [.int 0, .int (-1)]) := m_ne ef32 (m_ne rfl (m_ne rfl (m_ne rfl (m_ne rfl (m_ne rfl (m_ne rfl (m_ne rfl (m_ne rfl (m_ne rfl (m_ne rfl (m_ne rfl (m_ne rfl (m_ne rfl h3_31 (by decide)) (by decide)) (by decide)) (by decide)) (by decide)) (by decide)) (by decide)) (by decide)) (by decide)) (by decide)) (by decide)) (by decide)) (by decide)) (by decide)
  have h3_33 : f33 3 = .inr (1, [.int 0, .int (-1)]) := m_ne ef33 h3_32 (by decide)
  have h3_34 : f34 3 = .inr (1, [.int 0, .int (-1)]) := m_ne ef34 h3_33 (by decide)
  have h3_35 : f35 3 = .inr (1, [.int 0, .int (-1)]) := m_ne ef35 (m_ne rfl h3_34 (by decide)) (by decide)
  have h3_36 : f36 3 = .inr (1, [.int 0, .int (-1)]) := m_ne ef36 h3_35 (by decide)
  have h4_8 : f8 4 = .inr (8, [.ref (b + 5), .int 0]) := m_eq ef8
  have h4_9 : f9 4 = .inr (8, [.ref (b + 5), .int 0]) := m_ne ef9 h4_8 (by decide)
  have h4_10 : f10 4 = .inr (8, [.ref (b + 5), .int 0]) := m_ne ef10 h4_9 (by decide)
  have h4_11 : f11 4 = .inr (8, [.ref (b + 5), .int 0]) := m_ne ef11 (m_ne rfl h4_10 (by decide)) (by decide)
  have h4_12 : f12 4 = .inr (8, [.ref (b + 5), .int 0]) := m_ne ef12 h4_11 (by decide)
  have h4_13 : f13 4 = .inr (8, [.ref (b + 5), .int 0]) := m_ne ef13 h4_12 (by decide)
  have h4_14 : f14 4 = .inr (8, [.ref (b + 5), .int 0]) := m_ne ef14 (m_ne rfl h4_13 (by decide)) (by decide)
  have h4_15 : f15 4 = .inr (8, [.ref (b + 5), .int 0]) := m_ne ef15 h4_14 (by decide)
  have h4_16 : f16 4 = .inr (8, [.ref (b + 5), .int 0]) := m_ne ef16 h4_15 (by decide)
  have h4_17 : f17 4 = .inr (8, [.ref (b + 5), .int 0]) := (fr17 4 (by decide)).trans h4_16
  have h4_18 : f18 4 = .inr (8, [.ref (b + 5), .int 0]) := m_ne ef18 h4_17 (by decide)
  have h4_19 : f19 4 = .inr (8, [.ref (b + 5), .int 0]) := m_ne ef19 h4_18 (by decide)
  have h4_20 : f20 4 = .inr (8, [.ref (b + 5), .int 0]) := m_ne ef20 (m_ne rfl (m_ne rfl (m_ne rfl h4_19 (by decide)) (by decide)) (by decide)) (by decide)
  have h4_21 : f21 4 = .inr (8, [.ref (b + 5), .int 0]) := m_ne ef21 h4_20 (by decide)
  have h4_22 : f22 4 = .inr (8, [.ref (b + 5), .int 0]) := m_ne ef22 h4_21 (by decide)
  have h4_23 : f23 4 = .inr (8, [.ref (b + 5), .int 0]) := m_sm ef23 h4_22
  have h4_24 : f24 4 = .inr (8, [.ref (b + 5), .int 0]) := m_ne ef24 h4_23 (by decide)
  have h4_25 : f25 4 = .inr (8, [.ref (b + 5), .int 0]) := m_ne ef25 h4_24 (by decide)
  have h4_26 : f26 4 = .inr (8, [.ref (b + 5), .int 0]) := m_ne ef26 (m_ne rfl (m_ne rfl (m_ne rfl h4_25 (by decide)) (by decide)) (by decide)) (by decide)
  have h4_27 : f27 4 = .inr (8, [.ref (b + 5), .int 0]) := m_ne ef27 h4_26 (by decide)
  have h4_28 : f28 4 = .inr (8, [.ref (b + 5), .int 0]) := m_ne ef28 h4_27 (by decide)
  have h4_29 : f29 4 = .inr (8, [.ref (b + 5), .int 0]) := m_ne ef29 (m_ne rfl h4_28 (by decide)) (by decide)
  have h4_30 : f30 4 = .inr (8, [.ref (b + 5), .int 0]) := m_ne ef30 h4_29 (by decide)
  have h4_31 : f31 4 = .inr (8, [.ref (b + 5), .int 0]) := m_ne ef31 h4_30 (by decide)
  have h4_32 : f32 4 = .inr (8, [.ref (b + 5), .int 0]) := m_ne ef32 (m_ne rfl (m_ne rfl (m_ne rfl (m_ne rfl (m_ne rfl (m_ne rfl (m_ne rfl (m_ne rfl (m_ne rfl (m_ne rfl (m_ne rfl (m_ne rfl (m_ne rfl h4_31 (by decide)) (by decide)) (by decide)) (by decide)) (by decide)) (by decide)) (by decide)) (by decide)) (by decide)) (by decide)) (by decide)) (by decide)) (by decide)) (by decide)
  have h4_33 : f33 4 = .inr (8, [.ref (b + 5), .int 0]) := m_ne ef33 h4_32 (by decide)
  have h4_34 : f34 4 = .inr (8, [.ref (b + 5), .int 0]) := m_ne ef34 h4_33 (by decide)
  have h4_35 : f35 4 = .inr (8, [.ref (b + 5), .int 0]) := m_ne ef35 (m_ne rfl h4_34 (by decide)) (by decide)
  have h4_36 : f36 4 = .inr (8, [.ref (b + 5), .int 0]) := m_ne ef36 h4_35 (by decide)
  have h5_8 : f8 5 = .inl (kc 2, 60, .inr (.inl (fun _ => 0))) := m_ne ef8 (m_eq rfl) (by decide)
  have h5_9 : f9 5 = .inl (kc 2, 60, .inr (.inl (fun _ => 0))) := m_ne ef9 h5_8 (by decide)
  have h5_10 : f10 5 = .inl (kc 2, 60, .inr (.inl (fun _ => 0))) := m_ne ef10 h5_9 (by decide)
  have h5_11 : f11 5 = .inl (kc 2, 60, .inr (.inl (fun _ => 0))) := m_ne ef11 (m_ne rfl h5_10 (by decide)) (by decide)
  have h5_12 : f12 5 = .inl (kc 2, 60, .inr (.inl (fun _ => 0))) := m_ne ef12 h5_11 (by decide)
  have h5_13 : f13 5 = .inl (kc 2, 60, .inr (.inl (fun _ => 0))) := m_ne ef13 h5_12 (by decide)
  have h5_14 : f14 5 = .inl (kc 2, 60, .inr (.inl (fun _ => 0))) := m_ne ef14 (m_ne rfl h5_13 (by decide)) (by decide)
  have h5_15 : f15 5 = .inl (kc 2, 60, .inr (.inl (fun _ => 0))) := m_ne ef15 h5_14 (by decide)
  have h5_16 : f16 5 = .inl (kc 2, 60, .inr (.inl (fun _ => 0))) := m_ne ef16 h5_15 (by decide)
  have h5_17 : f17 5 = .inl (kc 2, 60, .inr (.inl (fun _ => 0))) := (fr17 5 (by decide)).trans h5_16
  have h5_18 : f18 5 = .inl (kc 2, 60, .inr (.inl (fun _ => 0))) := m_ne ef18 h5_17 (by decide)
  have h5_19 : f19 5 = .inl (kc 2, 60, .inr (.inl (fun _ => 0))) := m_ne ef19 h5_18 (by decide)
  have h5_20 : f20 5 = .inl (kc 2, 60, .inr (.inl (fun _ => 0))) := m_ne ef20 (m_ne rfl (m_ne rfl (m_ne rfl h5_19 (by decide)) (by decide)) (by decide)) (by decide)
  have h5_21 : f21 5 = .inl (kc 2, 60, .inr (.inl (fun _ => 0))) := m_ne ef21 h5_20 (by decide)
  have h5_22 : f22 5 = .inl (kc 2, 60, .inr (.inl (fun _ => 0))) := m_ne ef22 h5_21 (by decide)
  have h5_23 : f23 5 = .inl (kc 2, 60, .inr (.inl (fun _ => 0))) := m_sm ef23 h5_22
  have h5_24 : f24 5 = .inl (kc 2, 60, .inr (.inl (fun _ => 0))) := m_ne ef24 h5_23 (by decide)
  have h5_25 : f25 5 = .inl (kc 2, 60, .inr (.inl (fun _ => 0))) := m_ne ef25 h5_24 (by decide)
  have h5_26 : f26 5 = .inl (kc 2, 60, .inr (.inl (fun _ => 0))) := m_ne ef26 (m_ne rfl (m_ne rfl (m_ne rfl h5_25 (by decide)) (by decide)) (by decide)) (by decide)
  have h5_27 : f27 5 = .inl (kc 2, 60, .inr (.inl (fun _ => 0))) := m_ne ef27 h5_26 (by decide)
  have h5_28 : f28 5 = .inl (kc 2, 60, .inr (.inl (fun _ => 0))) := m_ne ef28 h5_27 (by decide)
  have h5_29 : f29 5 = .inl (kc 2, 60, .inr (.inl (fun _ => 0))) := m_ne ef29 (m_ne rfl h5_28 (by decide)) (by decide)
  have h5_30 : f30 5 = .inl (kc 2, 60, .inr (.inl (fun _ => 0))) := m_ne ef30 h5_29 (by decide)
  have h5_31 : f31 5 = .inl (kc 2, 60, .inr (.inl (fun _ => 0))) := m_ne ef31 h5_30 (by decide)
  have h5_32 : f32 5 = .inl (kc 2, 60, .inr (.inl (fun _ => 0))) := m_ne ef32 (m_ne rfl (m_ne rfl (m_ne rfl (m_ne rfl (m_ne rfl (m_ne rfl (m_ne rfl (m_ne rfl (m_ne rfl (m_ne rfl (m_ne rfl (m_ne rfl (m_ne rfl h5_31 (by decide)) (by decide)) (by decide)) (by decide)) (by decide)) (by decide)) (by decide)) (by decide)) (by decide)) (by decide)) (by decide)) (by decide)) (by decide)) (by decide)
  have h5_33 : f33 5 = .inl (kc 2, 60, .inr (.inl (fun _ => 0))) := m_ne ef33 h5_32 (by decide)
  have h5_34 : f34 5 = .inl (kc 2, 60, .inr (.inl (fun _ => 0))) := m_ne ef34 h5_33 (by decide)
  have h5_35 : f35 5 = .inl (kc 2, 60, .inr (.inl (fun _ => 0))) := m_ne ef35 (m_ne rfl h5_34 (by decide)) (by decide)
  have h5_36 : f36 5 = .inl (kc 2, 60, .inr (.inl (fun _ => 0))) := m_ne ef36 h5_35 (by decide)
  have h6_11 : f11 6 = .inr (8, [.ref (b + 7), .int 0]) := m_eq ef11
  have h6_12 : f12 6 = .inr (8, [.ref (b + 7), .int 0]) := m_ne ef12 h6_11 (by decide)
  have h6_13 : f13 6 = .inr (8, [.ref (b + 7), .int 0]) := m_ne ef13 h6_12 (by decide)
  have h6_14 : f14 6 = .inr (8, [.ref (b + 7), .int 0]) := m_ne ef14 (m_ne rfl h6_13 (by decide)) (by decide)
  have h6_15 : f15 6 = .inr (8, [.ref (b + 7), .int 0]) := m_ne ef15 h6_14 (by decide)
  have h6_16 : f16 6 = .inr (8, [.ref (b + 7), .int 0]) := m_ne ef16 h6_15 (by decide)
  have h6_17 : f17 6 = .inr (8, [.ref (b + 7), .int 0]) := (fr17 6 (by decide)).trans h6_16
  have h6_18 : f18 6 = .inr (8, [.ref (b + 7), .int 0]) := m_ne ef18 h6_17 (by decide)
  have h6_19 : f19 6 = .inr (8, [.ref (b + 7), .int 0]) := m_ne ef19 h6_18 (by decide)
  have h6_20 : f20 6 = .inr (8, [.ref (b + 7), .int 0]) := m_ne ef20 (m_ne rfl (m_ne rfl (m_ne rfl h6_19 (by decide)) (by decide)) (by decide)) (by decide)
  have h6_21 : f21 6 = .inr (8, [.ref (b + 7), .int 0]) := m_ne ef21 h6_20 (by decide)
  have h6_22 : f22 6 = .inr (8, [.ref (b + 7), .int 0]) := m_ne ef22 h6_21 (by decide)
  have h6_23 : f23 6 = .inr (8, [.ref (b + 7), .int 0]) := m_sm ef23 h6_22
  have h6_24 : f24 6 = .inr (8, [.ref (b + 7), .int 0]) := m_ne ef24 h6_23 (by decide)
  have h6_25 : f25 6 = .inr (8, [.ref (b + 7), .int 0]) := m_ne ef25 h6_24 (by decide)
  have h6_26 : f26 6 = .inr (8, [.ref (b + 7), .int 0]) := m_ne ef26 (m_ne rfl (m_ne rfl (m_ne rfl h6_25 (by decide)) (by decide)) (by decide)) (by decide)
  have h6_27 : f27 6 = .inr (8, [.ref (b + 7), .int 0]) := m_ne ef27 h6_26 (by decide)
  have h6_28 : f28 6 = .inr (8, [.ref (b + 7), .int 0]) := m_ne ef28 h6_27 (by decide)
  have h6_29 : f29 6 = .inr (8, [.ref (b + 7), .int 0]) := m_ne ef29 (m_ne rfl h6_28 (by decide)) (by decide)
  have h6_30 : f30 6 = .inr (8, [.ref (b + 7), .int 0]) := m_ne ef30 h6_29 (by decide)
  have h6_31 : f31 6 = .inr (8, [.ref (b + 7), .int 0]) := m_ne ef31 h6_30 (by decide)
  have h6_32 : f32 6 = .inr (8, [.ref (b + 7), .int 0]) := m_ne ef32 (m_ne rfl (m_ne rfl (m_ne rfl (m_ne rfl (m_ne rfl (m_ne rfl (m_ne rfl (m_ne rfl (m_ne rfl (m_ne rfl (m_ne rfl (m_ne rfl (m_ne rfl h6_31 (by decide)) (by decide)) (by decide)) (by decide)) (by decide)) (by decide)) (by decide)) (by decide)) (by decide)) (by decide)) (by decide)) (by decide)) (by decide)) (by decide)
  have h6_33 : f33 6 = .inr (8, [.ref (b + 7), .int 0]) := m_ne ef33 h6_32 (by decide)
  have h6_34 : f34 6 = .inr (8, [.ref (b + 7), .int 0]) := m_ne ef34 h6_33 (by decide)
  have h6_35 : f35 6 = .inr (8, [.ref (b + 7), .int 0]) := m_ne ef35 (m_ne rfl h6_34 (by decide)) (by decide)
  have h6_36 : f36 6 = .inr (8, [.ref (b + 7), .int 0]) := m_ne ef36 h6_35 (by decide)
  have h7_11 : f11 7 = .inl (kc 2, 150, .inr (.inl (fun _ => 0))) := m_ne ef11 (m_eq rfl) (by decide)
  have h7_12 : f12 7 = .inl (kc 2, 150, .inr (.inl (fun _ => 0))) := m_ne ef12 h7_11 (by decide)
  have h7_13 : f13 7 = .inl (kc 2, 150, .inr (.inl (fun _ => 0))) := m_ne ef13 h7_12 (by decide)
  have h7_14 : f14 7 = .inl (kc 2, 150, .inr (.inl (fun _ => 0))) := m_ne ef14 (m_ne rfl h7_13 (by decide)) (by decide)
  have h7_15 : f15 7 = .inl (kc 2, 150, .inr (.inl (fun _ => 0))) := m_ne ef15 h7_14 (by decide)
  have h7_16 : f16 7 = .inl (kc 2, 150, .inr (.inl (fun _ => 0))) := m_ne ef16 h7_15 (by decide)
  have h7_17 : f17 7 = .inl (kc 2, 150, .inr (.inl (fun _ => 0))) := (fr17 7 (by decide)).trans h7_16
  have h7_18 : f18 7 = .inl (kc 2, 150, .inr (.inl (fun _ => 0))) := m_ne ef18 h7_17 (by decide)
  have h7_19 : f19 7 = .inl (kc 2, 150, .inr (.inl (fun _ => 0))) := m_ne ef19 h7_18 (by decide)
  have h7_20 : f20 7 = .inl (kc 2, 150, .inr (.inl (fun _ => 0))) := m_ne ef20 (m_ne rfl (m_ne rfl (m_ne rfl h7_19 (by decide)) (by decide)) (by decide)) (by decide)
  have h7_21 : f21 7 = .inl (kc 2, 150, .inr (.inl (fun _ => 0))) := m_ne ef21 h7_20 (by decide)
  have h7_22 : f22 7 = .inl (kc 2, 150, .inr (.inl (fun _ => 0))) := m_ne ef22 h7_21 (by decide)
  have h7_23 : f23 7 = .inl (kc 2, 150, .inr (.inl (fun _ => 0))) := m_sm ef23 h7_22
  have h7_24 : f24 7 = .inl (kc 2, 150, .inr (.inl (fun _ => 0))) := m_ne ef24 h7_23 (by decide)
  have h7_25 : f25 7 = .inl (kc 2, 150, .inr (.inl (fun _ => 0))) := m_ne ef25 h7_24 (by decide)
  have h7_26 : f26 7 = .inl (kc 2, 150, .inr (.inl (fun _ => 0))) := m_ne ef26 (m_ne rfl (m_ne rfl (m_ne rfl h7_25 (by decide)) (by decide)) (by decide)) (by decide)
  have h7_27 : f27 7 = .inl (kc 2, 150, .inr (.inl (fun _ => 0))) := m_ne ef27 h7_26 (by decide)
  have h7_28 : f28 7 = .inl (kc 2, 150, .inr (.inl (fun _ => 0))) := m_ne ef28 h7_27 (by decide)
  have h7_29 : f29 7 = .inl (kc 2, 150, .inr (.inl (fun _ => 0))) := m_ne ef29 (m_ne rfl h7_28 (by decide)) (by decide)
  have h7_30 : f30 7 = .inl (kc 2, 150, .inr (.inl (fun _ => 0))) := m_ne ef30 h7_29 (by decide)
  have h7_31 : f31 7 = .inl (kc 2, 150, .inr (.inl (fun _ => 0))) := m_ne ef31 h7_30 (by decide)
  have h7_32 : f32 7 = .inl (kc 2, 150, .inr (.inl (fun _ => 0))) := m_ne ef32 (m_ne rfl (m_ne rfl (m_ne rfl (m_ne rfl (m_ne rfl (m_ne rfl (m_ne rfl (m_ne rfl (m_ne rfl (m_ne rfl (m_ne rfl (m_ne rfl (m_ne rfl h7_31 (by decide)) (by decide)) (by decide)) (by decide)) (by decide)) (by decide)) (by decide)) (by decide)) (by decide)) (by decide)) (by decide)) (by decide)) (by decide)) (by decide)
  have h7_33 : f33 7 = .inl (kc 2, 150, .inr (.inl (fun _ => 0))) := m_ne ef33 h7_32 (by decide)
  have h7_34 : f34 7 = .inl (kc 2, 150, .inr (.inl (fun _ => 0))) := m_ne ef34 h7_33 (by decide)
  have h7_35 : f35 7 = .inl (kc 2, 150, .inr (.inl (fun _ => 0))) := m_ne ef35 (m_ne rfl h7_34 (by decide)) (by decide)
  have h7_36 : f36 7 = .inl (kc 2, 150, .inr (.inl (fun _ => 0))) := m_ne ef36 h7_35 (by decide)
  have h8_14 : f14 8 = .inr (8, [.ref (b + 9), .int 0]) := m_eq ef14
  have h8_15 : f15 8 = .inr (8, [.ref (b + 9), .int 0]) := m_ne ef15 h8_14 (by decide)
  have h8_16 : f16 8 = .inr (8, [.ref (b + 9), .int 0]) := m_ne ef16 h8_15 (by decide)
  have h8_17 : f17 8 = .inr (8, [.ref (b + 9), .int 0]) := (fr17 8 (by decide)).trans h8_16
  have h8_18 : f18 8 = .inr (8, [.ref (b + 9), .int 0]) := m_ne ef18 h8_17 (by decide)
  have h8_19 : f19 8 = .inr (8, [.ref (b + 9), .int 0]) := m_ne ef19 h8_18 (by decide)
  have h8_20 : f20 8 = .inr (8, [.ref (b + 9), .int 0]) := m_ne ef20 (m_ne rfl (m_ne rfl (m_ne rfl h8_19 (by decide)) (by decide)) (by decide)) (by decide)
  have h8_21 : f21 8 = .inr (8, [.ref (b + 9), .int 0]) := m_ne ef21 h8_20 (by decide)
  have h8_22 : f22 8 = .inr (8, [.ref (b + 9), .int 0]) := m_ne ef22 h8_21 (by decide)
  have h8_23 : f23 8 = .inr (8, [.ref (b + 9), .int 0]) := m_sm ef23 h8_22
  have h8_24 : f24 8 = .inr (8, [.ref (b + 9), .int 0]) := m_ne ef24 h8_23 (by decide)
  have h8_25 : f25 8 = .inr (8, [.ref (b + 9), .int 0]) := m_ne ef25 h8_24 (by decide)
  have h8_26 : f26 8 = .inr (8, [.ref (b + 9), .int 0]) := m_ne ef26 (m_ne rfl (m_ne rfl (m_ne rfl h8_25 (by decide)) (by decide)) (by decide)) (by decide)
  have h8_27 : f27 8 = .inr (8, [.ref (b + 9), .int 0]) := m_ne ef27 h8_26 (by decide)
  have h8_28 : f28 8 = .inr (8, [.ref (b + 9), .int 0]) := m_ne ef28 h8_27 (by decide)
  have h8_29 : f29 8 = .inr (8, [.ref (b + 9), .int 0]) := m_ne ef29 (m_ne rfl h8_28 (by decide)) (by decide)
  have h8_30 : f30 8 = .inr (8, [.ref (b + 9), .int 0]) := m_ne ef30 h8_29 (by decide)
  have h8_31 : f31 8 = .inr (8, [.ref (b + 9), .int 0]) := m_ne ef31 h8_30 (by decide)
  have h8_32 : f32 8 = .inr (8, [.ref (b + 9), .int 0]) := m_ne ef32 (m_ne rfl (m_ne rfl (m_ne rfl (m_ne rfl (m_ne rfl (m_ne rfl (m_ne rfl (m_ne rfl (m_ne rfl (m_ne rfl (m_ne rfl (m_ne rfl (m_ne rfl h8_31 (by decide)) (by decide)) (by decide)) (by decide)) (by decide)) (by decide)) (by decide)) (by decide)) (by decide)) (by decide)) (by decide)) (by decide)) (by decide)) (by decide)
  have h8_33 : f33 8 = .inr (8, [.ref (b + 9), .int 0]) := m_ne ef33 h8_32 (by decide)
  have h8_34 : f34 8 = .inr (8, [.ref (b + 9), .int 0]) := m_ne ef34 h8_33 (by decide)
  have h8_35 : f35 8 = .inr (8, [.ref (b + 9), .int 0]) := m_ne ef35 (m_ne rfl h8_34 (by decide)) (by decide)
  have h8_36 : f36 8 = .inr (8, [.ref (b + 9), .int 0]) := m_ne ef36 h8_35 (by decide)
  have h9_14 : f14 9 = .inl (kc 2, 300, .inr (.inl (fun _ => 0))) := m_ne ef14 (m_eq rfl) (by decide)
  have h9_15 : f15 9 = .inl (kc 2, 300, .inr (.inl (fun _ => 0))) := m_ne ef15 h9_14 (by decide)
  have h9_16 : f16 9 = .inl (kc 2, 300, .inr (.inl (fun _ => 0))) := m_ne ef16 h9_15 (by decide)
  have h9_17 : f17 9 = .inl (kc 2, 300, .inr (.inl (fun _ => 0))) := (fr17 9 (by decide)).trans h9_16
  have h9_18 : f18 9 = .inl (kc 2, 300, .inr (.inl (fun _ => 0))) := m_ne ef18 h9_17 (by decide)
  have h9_19 : f19 9 = .inl (kc 2, 300, .inr (.inl (fun _ => 0))) := m_ne ef19 h9_18 (by decide)
  have h9_20 : f20 9 = .inl (kc 2, 300, .inr (.inl (fun _ => 0))) := m_ne ef20 (m_ne rfl (m_ne rfl (m_ne rfl h9_19 (by decide)) (by decide)) (by decide)) (by decide)
  have h9_21 : f21 9 = .inl (kc 2, 300, .inr (.inl (fun _ => 0))) := m_ne ef21 h9_20 (by decide)
  have h9_22 : f22 9 = .inl (kc 2, 300, .inr (.inl (fun _ => 0))) := m_ne ef22 h9_21 (by decide)
  have h9_23 : f23 9 = .inl (kc 2, 300, .inr (.inl (fun _ => 0))) := m_sm ef23 h9_22
  have h9_24 : f24 9 = .inl (kc 2, 300, .inr (.inl (fun _ => 0))) := m_ne ef24 h9_23 (by decide)
  have h9_25 : f25 9 = .inl (kc 2, 300, .inr (.inl (fun _ => 0))) := m_ne ef25 h9_24 (by decide)
  have h9_26 : f26 9 = .inl (kc 2, 300, .inr (.inl (fun _ => 0))) := m_ne ef26 (m_ne rfl (m_ne rfl (m_ne rfl h9_25 (by decide)) (by decide)) (by decide)) (by decide)
  have h9_27 : f27 9 = .inl (kc 2, 300, .inr (.inl (fun _ => 0))) := m_ne ef27 h9_26 (by decide)
  have h9_28 : f28 9 = .inl (kc 2, 300, .inr (.inl (fun _ => 0))) := m_ne ef28 h9_27 (by decide)
  have h9_29 : f29 9 = .inl (kc 2, 300, .inr (.inl (fun _ => 0))) := m_ne ef29 (m_ne rfl h9_28 (by decide)) (by decide)
  have h9_30 : f30 9 = .inl (kc 2, 300, .inr (.inl (fun _ => 0))) := m_ne ef30 h9_29 (by decide)
  have h9_31 : f31 9 = .inl (kc 2, 300, .inr (.inl (fun _ => 0))) := m_ne ef31 h9_30 (by decide)
  have h9_32 : f32 9 = .inl (kc 2, 300, .inr (.inl (fun _ => 0))) := m_ne ef32 (m_ne rfl (m_ne rfl (m_ne rfl (m_ne rfl (m_ne rfl (m_ne rfl (m_ne rfl (m_ne rfl (m_ne rfl (m_ne rfl (m_ne rfl (m_ne rfl (m_ne rfl h9_31 (by decide)) (by decide)) (by decide)) (by decide)) (by decide)) (by decide)) (by decide)) (by decide)) (by decide)) (by decide)) (by decide)) (by decide)) (by decide)) (by decide)
  have h9_33 : f33 9 = .inl (kc 2, 300, .inr (.inl (fun _ => 0))) := m_ne ef33 h9_32 (by decide)
  have h9_34 : f34 9 = .inl (kc 2, 300, .inr (.inl (fun _ => 0))) := m_ne ef34 h9_33 (by decide)
  have h9_35 : f35 9 = .inl (kc 2, 300, .inr (.inl (fun _ => 0))) := m_ne ef35 (m_ne rfl h9_34 (by decide)) (by decide)
  have h9_36 : f36 9 = .inl (kc 2, 300, .inr (.inl (fun _ => 0))) := m_ne ef36 h9_35 (by decide)
  have h10_18 : f18 10 = .inr (5, [.ref (b + 11), .ref (b + 12), .ref (b + 13), .int 0, .int 0, .int 0]) := m_ne ef18 h10_17 (by decide)
  have h10_19 : f19 10 = .inr (5, [.ref (b + 11), .ref (b + 12), .ref (b + 13), .int 0, .int 0, .int 0]) := m_ne ef19 h10_18 (by decide)
  have h10_20 : f20 10 = .inr (5, [.ref (b + 11), .ref (b + 12), .ref (b + 13), .int 0, .int 0, .int 0]) := m_ne ef20 (m_ne rfl (m_ne rfl (m_ne rfl h10_19 (by decide)) (by decide)) (by decide)) (by decide)
  have h10_21 : f21 10 = .inr (5, [.ref (b + 11), .ref (b + 12), .ref (b + 13), .int 0, .int 0, .int 0]) := m_ne ef21 h10_20 (by decide)
  have h10_22 : f22 10 = .inr (5, [.ref (b + 11), .ref (b + 12), .ref (b + 13), .int 0, .int 0, .int 0]) := m_ne ef22 h10_21 (by decide)
  have h10_23 : f23 10 = .inr (5, [.ref (b + 11), .ref (b + 12), .ref (b + 13), .int 0, .int 0, .int 0]) := m_sm ef23 h10_22
  have h10_24 : f24 10 = .inr (5, [.ref (b + 11), .ref (b + 12), .ref (b + 13), .int 0, .int 0, .int 0]) := m_ne ef24 h10_23 (by decide)
  have h10_25 : f25 10 = .inr (5, [.ref (b + 11), .ref (b + 12), .ref (b + 13), .int 0, .int 0, .int 0]) := m_ne ef25 h10_24 (by decide)
  have h10_26 : f26 10 = .inr (5, [.ref (b + 11), .ref (b + 12), .ref (b + 13), .int 0, .int 0, .int 0]) := m_ne ef26 (m_ne rfl (m_ne rfl (m_ne rfl h10_25 (by decide)) (by decide)) (by decide)) (by decide)
  have h10_27 : f27 10 = .inr (5, [.ref (b + 11), .ref (b + 12), .ref (b + 13), .int 0, .int 0, .int 0]) := m_ne ef27 h10_26 (by decide)
  have h10_28 : f28 10 = .inr (5, [.ref (b + 11), .ref (b + 12), .ref (b + 13), .int 0, .int 0, .int 0]) := m_ne ef28 h10_27 (by decide)
  have h10_29 : f29 10 = .inr (5, [.ref (b + 11), .ref (b + 12), .ref (b + 13), .int 0, .int 0, .int 0]) := m_ne ef29 (m_ne rfl h10_28 (by decide)) (by decide)
  have h10_30 : f30 10 = .inr (5, [.ref (b + 11), .ref (b + 12), .ref (b + 13), .int 0, .int 0, .int 0]) := m_ne ef30 h10_29 (by decide)
  have h10_31 : f31 10 = .inr (5, [.ref (b + 11), .ref (b + 12), .ref (b + 13), .int 0, .int 0, .int 0]) := m_ne ef31 h10_30 (by decide)
  have h10_32 : f32 10 = .inr (5, [.ref (b + 11), .ref (b + 12), .ref (b + 13), .int 0, .int 0, .int 0]) := m_ne ef32 (m_ne rfl (m_ne rfl (m_ne rfl (m_ne rfl (m_ne rfl (m_ne rfl (m_ne rfl (m_ne rfl (m_ne rfl (m_ne rfl (m_ne rfl (m_ne rfl (m_ne rfl h10_31 (by decide)) (by decide)) (by decide)) (by decide)) (by decide)) (by decide)) (by decide)) (by decide)) (by decide)) (by decide)) (by decide)) (by decide)) (by decide)) (by decide)
  have h10_33 : f33 10 = .inr (5, [.ref (b + 11), .ref (b + 12), .ref (b + 13), .int 0, .int 0, .int 0]) := m_ne ef33 h10_32 (by decide)
  have h10_34 : f34 10 = .inr (5, [.ref (b + 11), .ref (b + 12), .ref (b + 13), .int 0, .int 0, .int 0]) := m_ne ef34 h10_33 (by decide)
  have h10_35 : f35 10 = .inr (5, [.ref (b + 11), .ref (b + 12), .ref (b + 13), .int 0, .int 0, .int 0]) := m_ne ef35 (m_ne rfl h10_34 (by decide)) (by decide)
  have h10_36 : f36 10 = .inr (5, [.ref (b + 11), .ref (b + 12), .ref (b + 13), .int 0, .int 0, .int 0]) := m_ne ef36 h10_35 (by decide)
  have h11_18 : f18 11 = .inl (kc 4, 40, .inr (.inr (.inr (.inr (gMk b 40))))) := m_ne ef18 h11_17 (by decide)
  have h11_19 : f19 11 = .inl (kc 4, 40, .inr (.inr (.inr (.inr (gMk b 40))))) := m_ne ef19 h11_18 (by decide)
  have h11_20 : f20 11 = .inl (kc 4, 40, .inr (.inr (.inr (.inr (gMk b 40))))) := m_ne ef20 (m_ne rfl (m_ne rfl (m_ne rfl h11_19 (by decide)) (by decide)) (by decide)) (by decide)
  have h11_21 : f21 11 = .inl (kc 4, 40, .inr (.inr (.inr (.inr (gMk b 40))))) := m_ne ef21 h11_20 (by decide)
  have h11_22 : f22 11 = .inl (kc 4, 40, .inr (.inr (.inr (.inr (gMk b 40))))) := m_ne ef22 h11_21 (by decide)
  have h11_23 : f23 11 = .inl (kc 4, 40, .inr (.inr (.inr (.inr (gMk b 40))))) := m_sm ef23 h11_22
  have h11_24 : f24 11 = .inl (kc 4, 40, .inr (.inr (.inr (.inr (gMk b 40))))) := m_ne ef24 h11_23 (by decide)
  have h11_25 : f25 11 = .inl (kc 4, 40, .inr (.inr (.inr (.inr (gMk b 40))))) := m_ne ef25 h11_24 (by decide)
  have h11_26 : f26 11 = .inl (kc 4, 40, .inr (.inr (.inr (.inr (gMk b 40))))) := m_ne ef26 (m_ne rfl (m_ne rfl (m_ne rfl h11_25 (by decide)) (by decide)) (by decide)) (by decide)
  have h11_27 : f27 11 = .inl (kc 4, 40, .inr (.inr (.inr (.inr (gMk b 40))))) := m_ne ef27 h11_26 (by decide)
  have h11_28 : f28 11 = .inl (kc 4, 40, .inr (.inr (.inr (.inr (gMk b 40))))) := m_ne ef28 h11_27 (by decide)
  have h11_29 : f29 11 = .inl (kc 4, 40, .inr (.inr (.inr (.inr (gMk b 40))))) := m_ne ef29 (m_ne rfl h11_28 (by decide)) (by decide)
  have h11_30 : f30 11 = .inl (kc 4, 40, .inr (.inr (.inr (.inr (gMk b 40))))) := m_ne ef30 h11_29 (by decide)
  have h11_31 : f31 11 = .inl (kc 4, 40, .inr (.inr (.inr (.inr (gMk b 40))))) := m_ne ef31 h11_30 (by decide)
  have h11_32 : f32 11 = .inl (kc 4, 40, .inr (.inr (.inr (.inr (gMk b 40))))) := m_ne ef32 (m_ne rfl (m_ne rfl (m_ne rfl (m_ne rfl (m_ne rfl (m_ne rfl (m_ne rfl (m_ne rfl (m_ne rfl (m_ne rfl (m_ne rfl (m_ne rfl (m_ne rfl h11_31 (by decide)) (by decide)) (by decide)) (by decide)) (by decide)) (by decide)) (by decide)) (by decide)) (by decide)) (by decide)) (by decide)) (by decide)) (by decide)) (by decide)
  have h11_33 : f33 11 = .inl (kc 4, 40, .inr (.inr (.inr (.inr (gMk b 40))))) := m_ne ef33 h11_32 (by decide)
  have h11_34 : f34 11 = .inl (kc 4, 40, .inr (.inr (.inr (.inr (gMk b 40))))) := m_ne ef34 h11_33 (by decide)
  have h11_35 : f35 11 = .inl (kc 4, 40, .inr (.inr (.inr (.inr (gMk b 40))))) := m_ne ef35 (m_ne rfl h11_34 (by decide)) (by decide)
  have h11_36 : f36 11 = .inl (kc 4, 40, .inr (.inr (.inr (.inr (gMk b 40))))) := m_ne ef36 h11_35 (by decide)
  have h12_18 : f18 12 = .inl (kc 1, 3, .inl (mRk)) := m_ne ef18 h12_17 (by decide)
  have h12_19 : f19 12 = .inl (kc 1, 3, .inl (mRk)) := m_ne ef19 h12_18 (by decide)
  have h12_20 : f20 12 = .inl (kc 1, 3, .inl (mRk)) := m_ne ef20 (m_ne rfl (m_ne rfl (m_ne rfl h12_19 (by decide)) (by decide)) (by decide)) (by decide)
  have h12_21 : f21 12 = .inl (kc 1, 3, .inl (mRk)) := m_ne ef21 h12_20 (by decide)
  have h12_22 : f22 12 = .inl (kc 1, 3, .inl (mRk)) := m_ne ef22 h12_21 (by decide)
  have h12_23 : f23 12 = .inl (kc 1, 3, .inl (mRk)) := m_sm ef23 h12_22
  have h12_24 : f24 12 = .inl (kc 1, 3, .inl (mRk)) := m_ne ef24 h12_23 (by decide)
  have h12_25 : f25 12 = .inl (kc 1, 3, .inl (mRk)) := m_ne ef25 h12_24 (by decide)
  have h12_26 : f26 12 = .inl (kc 1, 3, .inl (mRk)) := m_ne ef26 (m_ne rfl (m_ne rfl (m_ne rfl h12_25 (by decide)) (by decide)) (by decide)) (by decide)
  have h12_27 : f27 12 = .inl (kc 1, 3, .inl (mRk)) := m_ne ef27 h12_26 (by decide)
  have h12_28 : f28 12 = .inl (kc 1, 3, .inl (mRk)) := m_ne ef28 h12_27 (by decide)
  have h12_29 : f29 12 = .inl (kc 1, 3, .inl (mRk)) := m_ne ef29 (m_ne rfl h12_28 (by decide)) (by decide)
  have h12_30 : f30 12 = .inl (kc 1, 3, .inl (mRk)) := m_ne ef30 h12_29 (by decide)
  have h12_31 : f31 12 = .inl (kc 1, 3, .inl (mRk)) := m_ne ef31 h12_30 (by decide)
  have h12_32 : f32 12 = .inl (kc 1, 3, .inl (mRk)) := m_ne ef32 (m_ne rfl (m_ne rfl (m_ne rfl (m_ne rfl (m_ne rfl (m_ne rfl (m_ne rfl (m_ne rfl (m_ne rfl (m_ne rfl (m_ne rfl (m_ne rfl (m_ne rfl h12_31 (by decide)) (by decide)) (by decide)) (by decide)) (by decide)) (by decide)) (by decide)) (by decide)) (by decide)) (by decide)) (by decide)) (by decide)) (by decide)) (by decide)
  have h12_33 : f33 12 = .inl (kc 1, 3, .inl (mRk)) := m_ne ef33 h12_32 (by decide)
  have h12_34 : f34 12 = .inl (kc 1, 3, .inl (mRk)) := m_ne ef34 h12_33 (by decide)
  have h12_35 : f35 12 = .inl (kc 1, 3, .inl (mRk)) := m_ne ef35 (m_ne rfl h12_34 (by decide)) (by decide)
  have h12_36 : f36 12 = .inl (kc 1, 3, .inl (mRk)) := m_ne ef36 h12_35 (by decide)
  have h13_18 : f18 13 = .inl (kc 1, 40, .inl (fun _ => 0)) := m_ne ef18 h13_17 (by decide)
  have h13_19 : f19 13 = .inl (kc 1, 40, .inl (fun _ => 0)) := m_ne ef19 h13_18 (by decide)
  have h13_20 : f20 13 = .inl (kc 1, 40, .inl (fun _ => 0)) := m_ne ef20 (m_ne rfl (m_ne rfl (m_ne rfl h13_19 (by decide)) (by decide)) (by decide)) (by decide)
  have h13_21 : f21 13 = .inl (kc 1, 40, .inl (fun _ => 0)) := m_ne ef21 h13_20 (by decide)
  have h13_22 : f22 13 = .inl (kc 1, 40, .inl (fun _ => 0)) := m_ne ef22 h13_21 (by decide)
  have h13_23 : f23 13 = .inl (kc 1, 40, .inl (fun _ => 0)) := m_sm ef23 h13_22
  have h13_24 : f24 13 = .inl (kc 1, 40, .inl (fun _ => 0)) := m_ne ef24 h13_23 (by decide)
  have h13_25 : f25 13 = .inl (kc 1, 40, .inl (fun _ => 0)) := m_ne ef25 h13_24 (by decide)
  have h13_26 : f26 13 = .inl (kc 1, 40, .inl (fun _ => 0)) := m_ne ef26 (m_ne rfl (m_ne rfl (m_ne rfl h13_25 (by decide)) (by decide)) (by decide)) (by decide)
  have h13_27 : f27 13 = .inl (kc 1, 40, .inl (fun _ => 0)) := m_ne ef27 h13_26 (by decide)
  have h13_28 : f28 13 = .inl (kc 1, 40, .inl (fun _ => 0)) := m_ne ef28 h13_27 (by decide)
  have h13_29 : f29 13 = .inl (kc 1, 40, .inl (fun _ => 0)) := m_ne ef29 (m_ne rfl h13_28 (by decide)) (by decide)
  have h13_30 : f30 13 = .inl (kc 1, 40, .inl (fun _ => 0)) := m_ne ef30 h13_29 (by decide)
  have h13_31 : f31 13 = .inl (kc 1, 40, .inl (fun _ => 0)) := m_ne ef31 h13_30 (by decide)
  have h13_32 : f32 13 = .inl (kc 1, 40, .inl (fun _ => 0)) := m_ne ef32 (m_ne rfl (m_ne rfl (m_ne rfl (m_ne rfl (m_ne rfl (m_ne rfl (m_ne rfl (m_ne rfl (m_ne rfl (m_ne rfl (m_ne rfl (m_ne rfl (m_ne rfl h13_31 (by decide)) (by decide)) (by decide)) (by decide)) (by decide)) (by decide)) (by decide)) (by decide)) (by decide)) (by decide)) (by decide)) (by decide)) (by decide)) (by decide)
  have h13_33 : f33 13 = .inl (kc 1, 40, .inl (fun _ => 0)) := m_ne ef33 h13_32 (by decide)
  have h13_34 : f34 13 = .inl (kc 1, 40, .inl (fun _ => 0)) := m_ne ef34 h13_33 (by decide)
  have h13_35 : f35 13 = .inl (kc 1, 40, .inl (fun _ => 0)) := m_ne ef35 (m_ne rfl h13_34 (by decide)) (by decide)
  have h13_36 : f36 13 = .inl (kc 1, 40, .inl (fun _ => 0)) := m_ne ef36 h13_35 (by decide)
  have h174_20 : f20 174 = .inr (9, [.ref (b + 175)]) := m_eq ef20
  have h174_21 : f21 174 = .inr (9, [.ref (b + 175)]) := m_ne ef21 h174_20 (by decide)
  have h174_22 : f22 174 = .inr (9, [.ref (b + 175)]) := m_ne ef22 h174_21 (by decide)
  have h174_23 : f23 174 = .inr (9, [.ref (b + 175)]) := m_sm ef23 h174_22
  have h174_24 : f24 174 = .inr (9, [.ref (b + 175)]) := m_ne ef24 h174_23 (by decide)
  have h174_25 : f25 174 = .inr (9, [.ref (b + 175)]) := m_ne ef25 h174_24 (by decide)
  have h174_26 : f26 174 = .inr (9, [.ref (b + 175)]) := m_ne ef26 (m_ne rfl (m_ne rfl (m_ne rfl h174_25 (by decide)) (by decide)) (by decide)) (by decide)
  have h174_27 : f27 174 = .inr (9, [.ref (b + 175)]) := m_ne ef27 h174_26 (by decide)
  have h174_28 : f28 174 = .inr (9, [.ref (b + 175)]) := m_ne ef28 h174_27 (by decide)
  have h174_29 : f29 174 = .inr (9, [.ref (b + 175)]) := m_ne ef29 (m_ne rfl h174_28 (by decide)) (by decide)
  have h174_30 : f30 174 = .inr (9, [.ref (b + 175)]) := m_ne ef30 h174_29 (by decide)
  have h174_31 : f31 174 = .inr (9, [.ref (b + 175)]) := m_ne ef31 h174_30 (by decide)
  have h174_32 : f32 174 = .inr (9, [.ref (b + 175)]) := m_ne ef32 (m_ne rfl (m_ne rfl (m_ne rfl (m_ne rfl (m_ne rfl (m_ne rfl (m_ne rfl (m_ne rfl (m_ne rfl (m_ne rfl (m_ne rfl (m_ne rfl (m_ne rfl h174_31 (by decide)) (by decide)) (by decide)) (by decide)) (by decide)) (by decide)) (by decide)) (by decide)) (by decide)) (by decide)) (by decide)) (by decide)) (by decide)) (by decide)
  have h174_33 : f33 174 = .inr (9, [.ref (b + 175)]) := m_ne ef33 h174_32 (by decide)
  have h174_34 : f34 174 = .inr (9, [.ref (b + 175)]) := m_ne ef34 h174_33 (by decide)
  have h174_35 : f35 174 = .inr (9, [.ref (b + 175)]) := m_ne ef35 (m_ne rfl h174_34 (by decide)) (by decide)
  have h174_36 : f36 174 = .inr (9, [.ref (b + 175)]) := m_ne ef36 h174_35 (by decide)
  have h175_20 : f20 175 = .inr (8, [.ref (b + 176), .int 0]) := m_ne ef20 (m_eq rfl) (by decide)
  have h175_21 : f21 175 = .inr (8, [.ref (b + 176), .int 0]) := m_ne ef21 h175_20 (by decide)
  have h175_22 : f22 175 = .inr (8, [.ref (b + 176), .int 0]) := m_ne ef22 h175_21 (by decide)
  have h175_23 : f23 175 = .inr (8, [.ref (b + 176), .int 0]) := m_sm ef23 h175_22
  have h175_24 : f24 175 = .inr (8, [.ref (b + 176), .int 0]) := m_ne ef24 h175_23 (by decide)
  have h175_25 : f25 175 = .inr (8, [.ref (b + 176), .int 0]) := m_ne ef25 h175_24 (by decide)
  have h175_26 : f26 175 = .inr (8, [.ref (b + 176), .int 0]) := m_ne ef26 (m_ne rfl (m_ne rfl (m_ne rfl h175_25 (by decide)) (by decide)) (by decide)) (by decide)
  have h175_27 : f27 175 = .inr (8, [.ref (b + 176), .int 0]) := m_ne ef27 h175_26 (by decide)
  have h175_28 : f28 175 = .inr (8, [.ref (b + 176), .int 0]) := m_ne ef28 h175_27 (by decide)
  have h175_29 : f29 175 = .inr (8, [.ref (b + 176), .int 0]) := m_ne ef29 (m_ne rfl h175_28 (by decide)) (by decide)
  have h175_30 : f30 175 = .inr (8, [.ref (b + 176), .int 0]) := m_ne ef30 h175_29 (by decide)
  have h175_31 : f31 175 = .inr (8, [.ref (b + 176), .int 0]) := m_ne ef31 h175_30 (by decide)
  have h175_32 : f32 175 = .inr (8, [.ref (b + 176), .int 0]) := m_ne ef32 (m_ne rfl (m_ne rfl (m_ne rfl (m_ne rfl (m_ne rfl (m_ne rfl (m_ne rfl (m_ne rfl (m_ne rfl (m_ne rfl (m_ne rfl (m_ne rfl (m_ne rfl h175_31 (by decide)) (by decide)) (by decide)) (by decide)) (by decide)) (by decide)) (by decide)) (by decide)) (by decide)) (by decide)) (by decide)) (by decide)) (by decide)) (by decide)
  have h175_33 : f33 175 = .inr (8, [.ref (b + 176), .int 0]) := m_ne ef33 h175_32 (by decide)
  have h175_34 : f34 175 = .inr (8, [.ref (b + 176), .int 0]) := m_ne ef34 h175_33 (by decide)
  have h175_35 : f35 175 = .inr (8, [.ref (b + 176), .int 0]) := m_ne ef35 (m_ne rfl h175_34 (by decide)) (by decide)
  have h175_36 : f36 175 = .inr (8, [.ref (b + 176), .int 0]) := m_ne ef36 h175_35 (by decide)
  have h176_20 : f20 176 = .inl (kc 2, 150, .inr (.inl (fun _ => 0))) := m_ne ef20 (m_ne rfl (m_eq rfl) (by decide)) (by decide)
  have h176_21 : f21 176 = .inl (kc 2, 150, .inr (.inl (fun _ => 0))) := m_ne ef21 h176_20 (by decide)
  have h176_22 : f22 176 = .inl (kc 2, 150, .inr (.inl (fun _ => 0))) := m_ne ef22 h176_21 (by decide)
  have h176_23 : f23 176 = .inl (kc 2, 150, .inr (.inl (fun _ => 0))) := m_sm ef23 h176_22
  have h176_24 : f24 176 = .inl (kc 2, 150, .inr (.inl (fun _ => 0))) := m_ne ef24 h176_23 (by decide)
  have h176_25 : f25 176 = .inl (kc 2, 150, .inr (.inl (fun _ => 0))) := m_ne ef25 h176_24 (by decide)
  have h176_26 : f26 176 = .inl (kc 2, 150, .inr (.inl (fun _ => 0))) := m_ne ef26 (m_ne rfl (m_ne rfl (m_ne rfl h176_25 (by decide)) (by decide)) (by decide)) (by decide)
  have h176_27 : f27 176 = .inl (kc 2, 150, .inr (.inl (fun _ => 0))) := m_ne ef27 h176_26 (by decide)
  have h176_28 : f28 176 = .inl (kc 2, 150, .inr (.inl (fun _ => 0))) := m_ne ef28 h176_27 (by decide)
  have h176_29 : f29 176 = .inl (kc 2, 150, .inr (.inl (fun _ => 0))) := m_ne ef29 (m_ne rfl h176_28 (by decide)) (by decide)
  have h176_30 : f30 176 = .inl (kc 2, 150, .inr (.inl (fun _ => 0))) := m_ne ef30 h176_29 (by decide)
  have h176_31 : f31 176 = .inl (kc 2, 150, .inr (.inl (fun _ => 0))) := m_ne ef31 h176_30 (by decide)
  have h176_32 : f32 176 = .inl (kc 2, 150, .inr (.inl (fun _ => 0))) := m_ne ef32 (m_ne rfl (m_ne rfl (m_ne rfl (m_ne rfl (m_ne rfl (m_ne rfl (m_ne rfl (m_ne rfl (m_ne rfl (m_ne rfl (m_ne rfl (m_ne rfl (m_ne rfl h176_31 (by decide)) (by decide)) (by decide)) (by decide)) (by decide)) (by decide)) (by decide)) (by decide)) (by decide)) (by decide)) (by decide)) (by decide)) (by decide)) (by decide)
  have h176_33 : f33 176 = .inl (kc 2, 150, .inr (.inl (fun _ => 0))) := m_ne ef33 h176_32 (by decide)
  have h176_34 : f34 176 = .inl (kc 2, 150, .inr (.inl (fun _ => 0))) := m_ne ef34 h176_33 (by decide)
  have h176_35 : f35 176 = .inl (kc 2, 150, .inr (.inl (fun _ => 0))) := m_ne ef35 (m_ne rfl h176_34 (by decide)) (by decide)
  have h176_36 : f36 176 = .inl (kc 2, 150, .inr (.inl (fun _ => 0))) := m_ne ef36 h176_35 (by decide)
  have h177_22 : f22 177 = .inr (4, [.null, .null, .null, .int 0, .int 0, .int 0, .int 0]) := m_eq ef22
  have h177_23 : f23 177 = .inr (4, [.null, .null, .null, .int 0, .int 0, .int 0, .int 0]) := m_sm ef23 h177_22
  have h177_24 : f24 177 = .inr (4, [.null, .null, .null, .int 0, .int 0, .int 0, .int 0]) := m_ne ef24 h177_23 (by decide)
  have h177_25 : f25 177 = .inr (4, [.null, .null, .null, .int 0, .int 0, .int 0, .int 0]) := m_ne ef25 h177_24 (by decide)
  have h177_26 : f26 177 = .inr (4, [.null, .null, .null, .int 0, .int 0, .int 0, .int 0]) := m_ne ef26 (m_ne rfl (m_ne rfl (m_ne rfl h177_25 (by decide)) (by decide)) (by decide)) (by decide)
  have h177_27 : f27 177 = .inr (4, [.null, .null, .null, .int 0, .int 0, .int 0, .int 0]) := m_ne ef27 h177_26 (by decide)
  have h177_28 : f28 177 = .inr (4, [.null, .null, .null, .int 0, .int 0, .int 0, .int 0]) := m_ne ef28 h177_27 (by decide)
  have h177_29 : f29 177 = .inr (4, [.null, .null, .null, .int 0, .int 0, .int 0, .int 0]) := m_ne ef29 (m_ne rfl h177_28 (by decide)) (by decide)
  have h177_30 : f30 177 = .inr (4, [.null, .null, .null, .int 0, .int 0, .int 0, .int 0]) := m_ne ef30 h177_29 (by decide)
  have h177_31 : f31 177 = .inr (4, [.null, .null, .null, .int 0, .int 0, .int 0, .int 0]) := m_ne ef31 h177_30 (by decide)
  have h177_32 : f32 177 = .inr (4, [.null, .null, .null, .int 0, .int 0, .int 0, .int 0]) := m_ne ef32 (m_ne rfl (m_ne rfl (m_ne rfl (m_ne rfl (m_ne rfl (m_ne rfl (m_ne rfl (m_ne rfl (m_ne rfl (m_ne rfl (m_ne rfl (m_ne rfl (m_ne rfl h177_31 (by decide)) (by decide)) (by decide)) (by decide)) (by decide)) (by decide)) (by decide)) (by decide)) (by decide)) (by decide)) (by decide)) (by decide)) (by decide)) (by decide)
  have h177_33 : f33 177 = .inr (4, [.null, .null, .null, .int 0, .int 0, .int 0, .int 0]) := m_ne ef33 h177_32 (by decide)
  have h177_34 : f34 177 = .inr (4, [.null, .null, .null, .int 0, .int 0, .int 0, .int 0]) := m_ne ef34 h177_33 (by decide)
  have h177_35 : f35 177 = .inr (4, [.null, .null, .null, .int 0, .int 0, .int 0, .int 0]) := m_ne ef35 (m_ne rfl h177_34 (by decide)) (by decide)
  have h177_36 : f36 177 = .inr (4, [.null, .null, .null, .int 0, .int 0, .int 0, .int 0]) := m_ne ef36 h177_35 (by decide)
  have h178_26 : f26 178 = .inr (7, [.ref (b + 179), .ref (b + 180), .int 0, .null, .null]) := m_eq ef26
  have h178_27 : f27 178 = .inr (7, [.ref (b + 179), .ref (b + 180), .int 0, .null, .null]) := m_ne ef27 h178_26 (by decide)
  have h178_28 : f28 178 = .inr (7, [.ref (b + 179), .ref (b + 180), .int 0, .null, .null]) := m_ne ef28 h178_27 (by decide)
  have h178_29 : f29 178 = .inr (7, [.ref (b + 179), .ref (b + 180), .int 0, .null, .null]) := m_ne ef29 (m_ne rfl h178_28 (by decide)) (by decide)
  have h178_30 : f30 178 = .inr (7, [.ref (b + 179), .ref (b + 180), .int 0, .null, .null]) := m_ne ef30 h178_29 (by decide)
  have h178_31 : f31 178 = .inr (7, [.ref (b + 179), .ref (b + 180), .int 0, .null, .null]) := m_ne ef31 h178_30 (by decide)
  have h178_32 : f32 178 = .inr (7, [.ref (b + 179), .ref (b + 180), .int 0, .null, .null]) := m_ne ef32 (m_ne rfl (m_ne rfl (m_ne rfl (m_ne rfl (m_ne rfl (m_ne rfl (m_ne rfl (m_ne rfl (m_ne rfl (m_ne rfl (m_ne rfl (m_ne rfl (m_ne rfl h178_31 (by decide)) (by decide)) (by decide)) (by decide)) (by decide)) (by decide)) (by decide)) (by decide)) (by decide)) (by decide)) (by decide)) (by decide)) (by decide)) (by decide)
  have h178_33 : f33 178 = .inr (7, [.ref (b + 179), .ref (b + 180), .int 0, .null, .null]) := m_ne ef33 h178_32 (by decide)
  have h178_34 : f34 178 = .inr (7, [.ref (b + 179), .ref (b + 180), .int 0, .null, .null]) := m_ne ef34 h178_33 (by decide)
  have h178_35 : f35 178 = .inr (7, [.ref (b + 179), .ref (b + 180), .int 0, .null, .null]) := m_ne ef35 (m_ne rfl h178_34 (by decide)) (by decide)
  have h178_36 : f36 178 = .inr (7, [.ref (b + 179), .ref (b + 180), .int 0, .null, .null]) := m_ne ef36 h178_35 (by decide)
  have h179_26 : f26 179 = .inl (kc 4, 40, .inr (.inr (.inr (.inr (fun _ => none))))) := m_ne ef26 (m_ne rfl (m_ne rfl (m_eq rfl) (by decide)) (by decide)) (by decide)
  have h179_27 : f27 179 = .inl (kc 4, 40, .inr (.inr (.inr (.inr (fun _ => none))))) := m_ne ef27 h179_26 (by decide)
  have h179_28 : f28 179 = .inl (kc 4, 40, .inr (.inr (.inr (.inr (fun _ => none))))) := m_ne ef28 h179_27 (by decide)
  have h179_29 : f29 179 = .inl (kc 4, 40, .inr (.inr (.inr (.inr (fun _ => none))))) := m_ne ef29 (m_ne rfl h179_28 (by decide)) (by decide)
  have h179_30 : f30 179 = .inl (kc 4, 40, .inr (.inr (.inr (.inr (fun _ => none))))) := m_ne ef30 h179_29 (by decide)
  have h179_31 : f31 179 = .inl (kc 4, 40, .inr (.inr (.inr (.inr (fun _ => none))))) := m_ne ef31 h179_30 (by decide)
  have h179_32 : f32 179 = .inl (kc 4, 40, .inr (.inr (.inr (.inr (fun _ => none))))) := m_ne ef32 (m_ne rfl (m_ne rfl (m_ne rfl (m_ne rfl (m_ne rfl (m_ne rfl (m_ne rfl (m_ne rfl (m_ne rfl (m_ne rfl (m_ne rfl (m_ne rfl (m_ne rfl h179_31 (by decide)) (by decide)) (by decide)) (by decide)) (by decide)) (by decide)) (by decide)) (by decide)) (by decide)) (by decide)) (by decide)) (by decide)) (by decide)) (by decide)
  have h179_33 : f33 179 = .inl (kc 4, 40, .inr (.inr (.inr (.inr (fun _ => none))))) := m_ne ef33 h179_32 (by decide)
  have h179_34 : f34 179 = .inl (kc 4, 40, .inr (.inr (.inr (.inr (fun _ => none))))) := m_ne ef34 h179_33 (by decide)
  have h179_35 : f35 179 = .inl (kc 4, 40, .inr (.inr (.inr (.inr (fun _ => none))))) := m_ne ef35 (m_ne rfl h179_34 (by decide)) (by decide)
  have h179_36 : f36 179 = .inl (kc 4, 40, .inr (.inr (.inr (.inr (fun _ => none))))) := m_ne ef36 h179_35 (by decide)
  have h180_26 : f26 180 = .inl (kc 3, 40, .inl (fun _ => 0)) := m_ne ef26 (m_eq rfl) (by decide)
  have h180_27 : f27 180 = .inl (kc 3, 40, .inl (fun _ => 0)) := m_ne ef27 h180_26 (by decide)
  have h180_28 : f28 180 = .inl (kc 3, 40, .inl (fun _ => 0)) := m_ne ef28 h180_27 (by decide)
  have h180_29 : f29 180 = .inl (kc 3, 40, .inl (fun _ => 0)) := m_ne ef29 (m_ne rfl h180_28 (by decide)) (by decide)
  have h180_30 : f30 180 = .inl (kc 3, 40, .inl (fun _ => 0)) := m_ne ef30 h180_29 (by decide)
  have h180_31 : f31 180 = .inl (kc 3, 40, .inl (fun _ => 0)) := m_ne ef31 h180_30 (by decide)
  have h180_32 : f32 180 = .inl (kc 3, 40, .inl (fun _ => 0)) := m_ne ef32 (m_ne rfl (m_ne rfl (m_ne rfl (m_ne rfl (m_ne rfl (m_ne rfl (m_ne rfl (m_ne rfl (m_ne rfl (m_ne rfl (m_ne rfl (m_ne rfl (m_ne rfl h180_31 (by decide)) (by decide)) (by decide)) (by decide)) (by decide)) (by decide)) (by decide)) (by decide)) (by decide)) (by decide)) (by decide)) (by decide)) (by decide)) (by decide)
  have h180_33 : f33 180 = .inl (kc 3, 40, .inl (fun _ => 0)) := m_ne ef33 h180_32 (by decide)
  have h180_34 : f34 180 = .inl (kc 3, 40, .inl (fun _ => 0)) := m_ne ef34 h180_33 (by decide)
  have h180_35 : f35 180 = .inl (kc 3, 40, .inl (fun _ => 0)) := m_ne ef35 (m_ne rfl h180_34 (by decide)) (by decide)
  have h180_36 : f36 180 = .inl (kc 3, 40, .inl (fun _ => 0)) := m_ne ef36 h180_35 (by decide)
  have h181_29 : f29 181 = .inr (6, [.ref (b + 182)]) := m_eq ef29
  have h181_30 : f30 181 = .inr (6, [.ref (b + 182)]) := m_ne ef30 h181_29 (by decide)
  have h181_31 : f31 181 = .inr (6, [.ref (b + 182)]) := m_ne ef31 h181_30 (by decide)
  have h181_32 : f32 181 = .inr (6, [.ref (b + 182)]) := m_ne ef32 (m_ne rfl (m_ne rfl (m_ne rfl (m_ne rfl (m_ne rfl (m_ne rfl (m_ne rfl (m_ne rfl (m_ne rfl (m_ne rfl (m_ne rfl (m_ne rfl (m_ne rfl h181_31 (by decide)) (by decide)) (by decide)) (by decide)) (by decide)) (by decide)) (by decide)) (by decide)) (by decide)) (by decide)) (by decide)) (by decide)) (by decide)) (by decide)
  have h181_33 : f33 181 = .inr (6, [.ref (b + 182)]) := m_ne ef33 h181_32 (by decide)
  have h181_34 : f34 181 = .inr (6, [.ref (b + 182)]) := m_ne ef34 h181_33 (by decide)
  have h181_35 : f35 181 = .inr (6, [.ref (b + 182)]) := m_ne ef35 (m_ne rfl h181_34 (by decide)) (by decide)
  have h181_36 : f36 181 = .inr (6, [.ref (b + 182)]) := m_ne ef36 h181_35 (by decide)
  have h182_29 : f29 182 = .inl (kc 1, 301, .inl (fun _ => 0)) := m_ne ef29 (m_eq rfl) (by decide)
  have h182_30 : f30 182 = .inl (kc 1, 301, .inl (fun _ => 0)) := m_ne ef30 h182_29 (by decide)
  have h182_31 : f31 182 = .inl (kc 1, 301, .inl (fun _ => 0)) := m_ne ef31 h182_30 (by decide)
  have h182_32 : f32 182 = .inl (kc 1, 301, .inl (fun _ => 0)) := m_ne ef32 (m_ne rfl (m_ne rfl (m_ne rfl (m_ne rfl (m_ne rfl (m_ne rfl (m_ne rfl (m_ne rfl (m_ne rfl (m_ne rfl (m_ne rfl (m_ne rfl (m_ne rfl h182_31 (by decide)) (by decide)) (by decide)) (by decide)) (by decide)) (by decide)) (by decide)) (by decide)) (by decide)) (by decide)) (by decide)) (by decide)) (by decide)) (by decide)
  have h182_33 : f33 182 = .inl (kc 1, 301, .inl (fun _ => 0)) := m_ne ef33 h182_32 (by decide)
  have h182_34 : f34 182 = .inl (kc 1, 301, .inl (fun _ => 0)) := m_ne ef34 h182_33 (by decide)
  have h182_35 : f35 182 = .inl (kc 1, 301, .inl (fun _ => 0)) := m_ne ef35 (m_ne rfl h182_34 (by decide)) (by decide)
  have h182_36 : f36 182 = .inl (kc 1, 301, .inl (fun _ => 0)) := m_ne ef36 h182_35 (by decide)
  have h183_32 : f32 183 = .inr (2, [.ref (b + 184), .ref (b + 186), .ref (b + 187), .ref (b + 188), .ref (b + 189), .int 2, .int 3, .int 0, .int 0, .int 0, .int 0, .int 0]) := m_eq ef32
  have h183_33 : f33 183 = .inr (2, [.ref (b + 184), .ref (b + 186), .ref (b + 187), .ref (b + 188), .ref (b + 189), .int 2, .int 3, .int 0, .int 0, .int 0, .int 0, .int 0]) := m_ne ef33 h183_32 (by decide)
  have h183_34 : f34 183 = .inr (2, [.ref (b + 184), .ref (b + 186), .ref (b + 187), .ref (b + 188), .ref (b + 189), .int 2, .int 3, .int 0, .int 0, .int 0, .int 0, .int 0]) := m_ne ef34 h183_33 (by decide)
  have h183_35 : f35 183 = .inr (2, [.ref (b + 184), .ref (b + 186), .ref (b + 187), .ref (b + 188), .ref (b + 189), .int 2, .int 3, .int 0, .int 0, .int 0, .int 0, .int 0]) := m_ne ef35 (m_ne rfl h183_34 (by decide)) (by decide)
  have h183_36 : f36 183 = .inr (2, [.ref (b + 184), .ref (b + 186), .ref (b + 187), .ref (b + 188), .ref (b + 189), .int 2, .int 3, .int 0, .int 0, .int 0, .int 0, .int 0]) := m_ne ef36 h183_35 (by decide)
  have h184_32 : f32 184 = .inr (8, [.ref (b + 185), .int 0]) := m_ne ef32 (m_ne rfl (m_ne rfl (m_ne rfl (m_ne rfl (m_ne rfl (m_ne rfl (m_ne rfl (m_ne rfl (m_ne rfl (m_ne rfl (m_eq rfl) (by decide)) (by decide)) (by decide)) (by decide)) (by decide)) (by decide)) (by decide)) (by decide)) (by decide)) (by decide)) (by decide)
  have h184_33 : f33 184 = .inr (8, [.ref (b + 185), .int 0]) := m_ne ef33 h184_32 (by decide)
  have h184_34 : f34 184 = .inr (8, [.ref (b + 185), .int 0]) := m_ne ef34 h184_33 (by decide)
  have h184_35 : f35 184 = .inr (8, [.ref (b + 185), .int 0]) := m_ne ef35 (m_ne rfl h184_34 (by decide)) (by decide)
  have h184_36 : f36 184 = .inr (8, [.ref (b + 185), .int 0]) := m_ne ef36 h184_35 (by decide)
  have h185_32 : f32 185 = .inl (kc 2, 108, .inr (.inl (fun _ => 0))) := m_ne ef32 (m_ne rfl (m_ne rfl (m_ne rfl (m_ne rfl (m_ne rfl (m_ne rfl (m_ne rfl (m_ne rfl (m_ne rfl (m_ne rfl (m_ne rfl (m_eq rfl) (by decide)) (by decide)) (by decide)) (by decide)) (by decide)) (by decide)) (by decide)) (by decide)) (by decide)) (by decide)) (by decide)) (by decide)
  have h185_33 : f33 185 = .inl (kc 2, 108, .inr (.inl (fun _ => 0))) := m_ne ef33 h185_32 (by decide)
  have h185_34 : f34 185 = .inl (kc 2, 108, .inr (.inl (fun _ => 0))) := m_ne ef34 h185_33 (by decide)
  have h185_35 : f35 185 = .inl (kc 2, 108, .inr (.inl (fun _ => 0))) := m_ne ef35 (m_ne rfl h185_34 (by decide)) (by decide)
  have h185_36 : f36 185 = .inl (kc 2, 108, .inr (.inl (fun _ => 0))) := m_ne ef36 h185_35 (by decide)
  have h186_32 : f32 186 = .inl (kc 1, 8, .inl (fun _ => 0)) := m_ne ef32 (m_ne rfl (m_ne rfl (m_ne rfl (m_ne rfl (m_ne rfl (m_ne rfl (m_ne rfl (m_ne rfl (m_eq rfl) (by decide)) (by decide)) (by decide)) (by decide)) (by decide)) (by decide)) (by decide)) (by decide)) (by decide)
  have h186_33 : f33 186 = .inl (kc 1, 8, .inl (fun _ => 0)) := m_ne ef33 h186_32 (by decide)
  have h186_34 : f34 186 = .inl (kc 1, 8, .inl (fun _ => 0)) := m_ne ef34 h186_33 (by decide)
  have h186_35 : f35 186 = .inl (kc 1, 8, .inl (fun _ => 0)) := m_ne ef35 (m_ne rfl h186_34 (by decide)) (by decide)
  have h186_36 : f36 186 = .inl (kc 1, 8, .inl (fun _ => 0)) := m_ne ef36 h186_35 (by decide)
  have h187_32 : f32 187 = .inl (kc 1, 150, .inl (fun _ => 0)) := m_ne ef32 (m_ne rfl (m_ne rfl (m_ne rfl (m_ne rfl (m_ne rfl (m_ne rfl (m_eq rfl) (by decide)) (by decide)) (by decide)) (by decide)) (by decide)) (by decide)) (by decide)
  have h187_33 : f33 187 = .inl (kc 1, 150, .inl (fun _ => 0)) := m_ne ef33 h187_32 (by decide)
  have h187_34 : f34 187 = .inl (kc 1, 150, .inl (fun _ => 0)) := m_ne ef34 h187_33 (by decide)
  have h187_35 : f35 187 = .inl (kc 1, 150, .inl (fun _ => 0)) := m_ne ef35 (m_ne rfl h187_34 (by decide)) (by decide)
  have h187_36 : f36 187 = .inl (kc 1, 150, .inl (fun _ => 0)) := m_ne ef36 h187_35 (by decide)
  have h188_32 : f32 188 = .inl (kc 1, 150, .inl (fun _ => 0)) := m_ne ef32 (m_ne rfl (m_ne rfl (m_ne rfl (m_ne rfl (m_eq rfl) (by decide)) (by decide)) (by decide)) (by decide)) (by decide)
  have h188_33 : f33 188 = .inl (kc 1, 150, .inl (fun _ => 0)) := m_ne ef33 h188_32 (by decide)
  have h188_34 : f34 188 = .inl (kc 1, 150, .inl (fun _ => 0)) := m_ne ef34 h188_33 (by decide)
  have h188_35 : f35 188 = .inl (kc 1, 150, .inl (fun _ => 0)) := m_ne ef35 (m_ne rfl h188_34 (by decide)) (by decide)
  have h188_36 : f36 188 = .inl (kc 1, 150, .inl (fun _ => 0)) := m_ne ef36 h188_35 (by decide)
  have h189_32 : f32 189 = .inl (kc 1, 150, .inl (fun _ => 0)) := m_ne ef32 (m_ne rfl (m_ne rfl (m_eq rfl) (by decide)) (by decide)) (by decide)
  have h189_33 : f33 189 = .inl (kc 1, 150, .inl (fun _ => 0)) := m_ne ef33 h189_32 (by decide)
  have h189_34 : f34 189 = .inl (kc 1, 150, .inl (fun _ => 0)) := m_ne ef34 h189_33 (by decide)
  have h189_35 : f35 189 = .inl (kc 1, 150, .inl (fun _ => 0)) := m_ne ef35 (m_ne rfl h189_34 (by decide)) (by decide)
  have h189_36 : f36 189 = .inl (kc 1, 150, .inl (fun _ => 0)) := m_ne ef36 h189_35 (by decide)
  have h190_35 : f35 190 = .inr (0, [.ref (b + 191)]) := m_eq ef35
  have h190_36 : f36 190 = .inr (0, [.ref (b + 191)]) := m_ne ef36 h190_35 (by decide)
  have h191_35 : f35 191 = .inl (kc 1, 5, .inl (mPr)) := m_ne ef35 (m_eq rfl) (by decide)
  have h191_36 : f36 191 = .inl (kc 1, 5, .inl (mPr)) := m_ne ef36 h191_35 (by decide)
  have hmkE : (∀ j, 14 ≤ j → j < 174 → f36 j = cellOf b kc j (fun _ => 0) (fun _ => 0) (fun _ => none)) := fun j h1 h2 => m_ne ef36 (m_ne ef35 (m_ne rfl (m_ne ef34 (m_ne ef33 (m_ne ef32 (m_ne rfl (m_ne rfl (m_ne rfl (m_ne rfl (m_ne rfl (m_ne rfl (m_ne rfl (m_ne rfl (m_ne rfl (m_ne rfl (m_ne rfl (m_ne rfl (m_ne rfl (m_ne ef31 (m_ne ef30 (m_ne ef29 (m_ne rfl (m_ne ef28 (m_ne ef27 (m_ne ef26 (m_ne rfl (m_ne rfl (m_ne rfl (m_ne ef25 (m_ne ef24 (m_sm ef23 (m_ne ef22 (m_ne ef21 (m_ne ef20 (m_ne rfl (m_ne rfl (m_ne rfl (m_ne ef19 (m_ne ef18 (hmk17 j h1 h2) (by omega)) (by omega)) (by omega)) (by omega)) (by omega)) (by omega)) (by omega)) (by omega))) (by omega)) (by omega)) (by omega)) (by omega)) (by omega)) (by omega)) (by omega)) (by omega)) (by omega)) (by omega)) (by omega)) (by omega)) (by omega)) (by omega)) (by omega)) (by omega)) (by omega)) (by omega)) (by omega)) (by omega)) (by omega)) (by omega)) (by omega)) (by omega)) (by omega)) (by omega)) (by omega)) (by omega)) (by omega)) (by omega)) (by omega)
  exact m_vret C hr hlk hM (⟨rfl, h0_36, h1_36, h2_36, h3_36, h4_36, h5_36, h6_36, h7_36, h8_36, h9_36, h10_36, h11_36, h12_36, h13_36, h174_36, h175_36, h176_36, h177_36, h178_36, h179_36, h180_36, h181_36, h182_36, h183_36, h184_36, h185_36, h186_36, h187_36, h188_36, h189_36, h190_36, h191_36, hmkE⟩) dX11_init_144
