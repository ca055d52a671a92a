set_option maxHeartbeats 4000000 in
set_option maxRecDepth 100000 in
theorem a_X8_clear_0 (l : Launch) (D : va_G) (kc : Nat → ClassId) (b : Nat) (f : Nat → va_E) (h175 : f 175 = .inr (8, [.ref (b + 176), .int 0])) : mMv l yX8_clear cX8_clear 1 1 0 0 D kc b 220 f [.ref (b + 175)] (fun u => u.1 = 220 ∧ u.2 = va_up f 175 (.inr (8, [.ref (b + 176), .int 0]))) := by
  refine m_start (by decide) (Nat.le_of_ble_eq_true rfl) ?_
  intro p e s m below meth c C hr hlk hnm hM ls hl
  obtain ⟨hx, hb, hml, hown, hts, hE, hbs⟩ := id C
  have hl : lv_has ls 1 [(0, .ref (b + 175))] := hl
  refine lv_aload_n hx hb dX8_clear_0 rfl (lv_at hl 0 rfl) ?_
  refine lv_iconst (v := 0) hx hb dX8_clear_1 (by decide) ?_
  refine m_put fl_X8_13_X8 C hM (i := 175) (by decide) h175 rfl rfl (Nat.le_of_ble_eq_true rfl) (fs1 := [.ref (b + 176), .int 0]) rfl dX8_clear_2 (fun H locs f1 ef1 hM => ?_)
  exact m_vret C hr hlk hM (⟨rfl, by rw [ef1]⟩) dX8_clear_5
set_option maxHeartbeats 4000000 in
set_option maxRecDepth 100000 in
theorem a_X1_clear_0 (l : Launch) (D : va_G) (kc : Nat → ClassId) (b : Nat) (f : Nat → va_E) (h3 : f 3 = .inr (1, [.int 0, .int (-1)])) : mMv l yX1_clear cX1_clear 1 1 0 0 D kc b 220 f [.ref (b + 3)] (fun u => u.1 = 220 ∧ u.2 = va_up f 3 (.inr (1, [.int 0, .int (-1)]))) := by
  refine m_start (by decide) (Nat.le_of_ble_eq_true rfl) ?_
  intro p e s m below meth c C hr hlk hnm hM ls hl
  obtain ⟨hx, hb, hml, hown, hts, hE, hbs⟩ := id C
  have hl : lv_has ls 1 [(0, .ref (b + 3))] := hl
  refine lv_aload_n hx hb dX1_clear_0 rfl (lv_at hl 0 rfl) ?_
  refine lv_iconst (v := 0) hx hb dX1_clear_1 (by decide) ?_
  refine m_put fl_X1_9_X1 C hM (i := 3) (by decide) h3 rfl rfl (Nat.le_of_ble_eq_true rfl) (fs1 := [.int 0, .int (-1)]) rfl dX1_clear_2 (fun H locs f1 ef1 hM => ?_)
  refine lv_aload_n hx hb dX1_clear_5 rfl (lv_at hl 0 rfl) ?_
  refine lv_iconst (v := (-1)) hx hb dX1_clear_6 (by decide) ?_
  have h3_1 : f1 3 = .inr (1, [.int 0, .int (-1)]) := m_eq ef1
  refine m_put fl_X1_15_X1 C hM (i := 3) (by decide) h3_1 rfl rfl (Nat.le_of_ble_eq_true rfl) (fs1 := [.int 0, .int (-1)]) rfl dX1_clear_7 (fun H locs f2 ef2 hM => ?_)
  exact m_vret C hr hlk hM (⟨rfl, by rw [ef2, ef1]; simp only [bx_uu]⟩) dX1_clear_10
set_option maxHeartbeats 4000000 in
set_option maxRecDepth 100000 in
theorem a_X9_addWord_0 (l : Launch) (D : va_G) (kc : Nat → ClassId) (b : Nat) (f : Nat → va_E) : mMv l yX9_addWord cX9_addWord 4 1 0 0 D kc b 220 f [.ref (b + 174), .long 0, .int 0] (fun u => u.1 = 220 ∧ u.2 = f) := by
  refine m_start (by decide) (Nat.le_of_ble_eq_true rfl) ?_
  intro p e s m below meth c C hr hlk hnm hM ls hl
  obtain ⟨hx, hb, hml, hown, hts, hE, hbs⟩ := id C
  have hl : lv_has ls 4 [(0, .ref (b + 174)), (1, .long 0), (3, .int 0)] := hl
  refine lv_iload_n hx hb dX9_addWord_0 rfl (lv_at hl 2 rfl) ?_
  refine lv_if_le (tgt := 12) hx hb dX9_addWord_1 (by decide) (fun _ => ?_) (fun h => absurd (by decide) h)
  exact m_vret C hr hlk hM (⟨rfl, rfl⟩) dX9_addWord_12
set_option maxHeartbeats 4000000 in
set_option maxRecDepth 100000 in
theorem a_X9_readProof_0 (l : Launch) (D : va_G) (kc : Nat → ClassId) (b : Nat) (f : Nat → va_E) (h174 : f 174 = .inr (9, [.ref (b + 175)])) (h175 : f 175 = .inr (8, [.ref (b + 176), .int 0])) (h3 : f 3 = .inr (1, [.int 0, .int (-1)])) (h1 : f 1 = .inr (10, [.ref (b + 2), .int 0])) : mMi l yX9_readProof cX9_readProof 9 .boolean 2 0 0 D kc b 220 f [.ref (b + 174), .ref (b + 1), .int 60, .ref (b + 3)] (fun r u => r = 1 ∧ u.1 = 220 ∧ u.2 = va_up (va_up f 175 (.inr (8, [.ref (b + 176), .int 0]))) 3 (.inr (1, [.int 0, .int (-1)]))) := by
  refine m_start (by decide) (Nat.le_of_ble_eq_true rfl) ?_
  intro p e s m below meth c C hr hlk hnm hM ls hl
  obtain ⟨hx, hb, hml, hown, hts, hE, hbs⟩ := id C
  have hl : lv_has ls 9 [(0, .ref (b + 174)), (1, .ref (b + 1)), (2, .int 60), (3, .ref (b + 3))] := hl
  refine lv_aload_n hx hb dX9_readProof_0 rfl (lv_at hl 0 rfl) ?_
  refine m_get fl_X9_14_X9 C hM (i := 174) (by decide) h174 (v := .ref (b + 175)) rfl dX9_readProof_1 ?_
  refine m_gov (m_runV calV_X8_clear wd_457 (a_X8_clear_0 l D kc b f h175) C hM (by decide) h175 rfl hl.1 rfl rfl (Nat.le_of_ble_eq_true rfl) dX9_readProof_4 ⟨Nat.le_of_ble_eq_true rfl, Nat.le_of_ble_eq_true rfl⟩ ⟨Nat.le_of_ble_eq_true rfl, Nat.le_of_ble_eq_true rfl⟩) hM (fun n2 f1 H locs hp hM => ?_)
  have hp : n2 = 220 ∧ f1 = va_up f 175 (.inr (8, [.ref (b + 176), .int 0])) := hp
  obtain ⟨rfl, ef1⟩ := hp
  refine lv_aload_n hx hb dX9_readProof_7 rfl (lv_at hl 3 rfl) ?_
  have h3_1 : f1 3 = .inr (1, [.int 0, .int (-1)]) := m_ne ef1 h3 (by decide)
  refine m_gov (m_runV calV_X1_clear wd_461 (a_X1_clear_0 l D kc b f1 h3_1) C hM (by decide) h3_1 rfl hl.1 rfl rfl (Nat.le_of_ble_eq_true rfl) dX9_readProof_8 ⟨Nat.le_of_ble_eq_true rfl, Nat.le_of_ble_eq_true rfl⟩ ⟨Nat.le_of_ble_eq_true rfl, Nat.le_of_ble_eq_true rfl⟩) hM (fun n4 f2 H locs hp hM => ?_)
  have hp : n4 = 220 ∧ f2 = va_up f1 3 (.inr (1, [.int 0, .int (-1)])) := hp
  obtain ⟨rfl, ef2⟩ := hp
  refine lv_lconst (v := 0) hx hb dX9_readProof_11 (by decide) ?_
  refine lv_lstore (lv' := [(4, .long 0), (0, .ref (b + 174)), (1, .ref (b + 1)), (2, .int 60), (3, .ref (b + 3))]) hx hb dX9_readProof_12 hl (by decide) rfl (fun ls hl => ?_)
  refine lv_iconst (v := 0) hx hb dX9_readProof_14 (by decide) ?_
  refine lv_istore (lv' := [(6, .int 0), (4, .long 0), (0, .ref (b + 174)), (1, .ref (b + 1)), (2, .int 60), (3, .ref (b + 3))]) hx hb dX9_readProof_15 hl (by decide) rfl (fun ls hl => ?_)
  refine lv_iconst (v := 0) hx hb dX9_readProof_17 (by decide) ?_
  refine lv_istore (lv' := [(7, .int 0), (6, .int 0), (4, .long 0), (0, .ref (b + 174)), (1, .ref (b + 1)), (2, .int 60), (3, .ref (b + 3))]) hx hb dX9_readProof_18 hl (by decide) rfl (fun ls hl => ?_)
  refine lv_iload hx hb dX9_readProof_20 (lv_at hl 0 rfl) ?_
  refine lv_aload_n hx hb dX9_readProof_22 rfl (lv_at hl 4 rfl) ?_
  have h1_1 : f1 1 = .inr (10, [.ref (b + 2), .int 0]) := m_ne ef1 h1 (by decide)
  have h1_2 : f2 1 = .inr (10, [.ref (b + 2), .int 0]) := m_ne ef2 h1_1 (by decide)
  refine m_getN fl_X9_26_X10 C hM (i := 1) (by decide) h1_2 (v := .int 0) rfl dX9_readProof_23 ?_
  refine lv_icmp_ge (tgt := 129) hx hb dX9_readProof_26 (by decide) (fun _ => ?_) (fun h => absurd (by decide) h)
  refine lv_aload_n hx hb dX9_readProof_129 rfl (lv_at hl 3 rfl) ?_
  refine lv_lload hx hb dX9_readProof_130 (lv_at hl 2 rfl) ?_
  refine lv_iload hx hb dX9_readProof_132 (lv_at hl 1 rfl) ?_
  have h174_1 : f1 174 = .inr (9, [.ref (b + 175)]) := m_ne ef1 h174 (by decide)
  have h174_2 : f2 174 = .inr (9, [.ref (b + 175)]) := m_ne ef2 h174_1 (by decide)
  refine m_gov (m_runV calV_X9_addWord wd_472 (a_X9_addWord_0 l D kc b f2) C hM (by decide) h174_2 rfl hl.1 rfl rfl (Nat.le_of_ble_eq_true rfl) dX9_readProof_134 ⟨Nat.le_of_ble_eq_true rfl, Nat.le_of_ble_eq_true rfl⟩ ⟨Nat.le_of_ble_eq_true rfl, Nat.le_of_ble_eq_true rfl⟩) hM (fun n6 f3 H locs hp hM => ?_)
  have hp : n6 = 220 ∧ f3 = f2 := hp
  obtain ⟨rfl, ef3⟩ := hp
  refine lv_iconst (v := 1) hx hb dX9_readProof_137 (by decide) ?_
  exact m_zret C hr hlk hM rfl (⟨rfl, rfl, by rw [ef3, ef2, ef1]⟩) dX9_readProof_138
set_option maxHeartbeats 4000000 in
set_option maxRecDepth 100000 in
theorem a_X8_clear_1 (l : Launch) (D : va_G) (kc : Nat → ClassId) (b : Nat) (f : Nat → va_E) (h4 : f 4 = .inr (8, [.ref (b + 5), .int 0])) : mMv l yX8_clear cX8_clear 1 1 0 0 D kc b 220 f [.ref (b + 4)] (fun u => u.1 = 220 ∧ u.2 = va_up f 4 (.inr (8, [.ref (b + 5), .int 0]))) := by
  refine m_start (by decide) (Nat.le_of_ble_eq_true rfl) ?_
  intro p e s m below meth c C hr hlk hnm hM ls hl
  obtain ⟨hx, hb, hml, hown, hts, hE, hbs⟩ := id C
  have hl : lv_has ls 1 [(0, .ref (b + 4))] := hl
  refine lv_aload_n hx hb dX8_clear_0 rfl (lv_at hl 0 rfl) ?_
  refine lv_iconst (v := 0) hx hb dX8_clear_1 (by decide) ?_
  refine m_put fl_X8_13_X8 C hM (i := 4) (by decide) h4 rfl rfl (Nat.le_of_ble_eq_true rfl) (fs1 := [.ref (b + 5), .int 0]) rfl dX8_clear_2 (fun H locs f1 ef1 hM => ?_)
  exact m_vret C hr hlk hM (⟨rfl, by rw [ef1]⟩) dX8_clear_5
set_option maxHeartbeats 4000000 in
set_option maxRecDepth 100000 in
theorem a_X8_addAll_0 (l : Launch) (D : va_G) (kc : Nat → ClassId) (b : Nat) (f : Nat → va_E) (h175 : f 175 = .inr (8, [.ref (b + 176), .int 0])) : mMv l yX8_addAll cX8_addAll 3 1 0 0 D kc b 220 f [.ref (b + 4), .ref (b + 175)] (fun u => u.1 = 220 ∧ u.2 = f) := by
  refine m_start (by decide) (Nat.le_of_ble_eq_true rfl) ?_
  intro p e s m below meth c C hr hlk hnm hM ls hl
  obtain ⟨hx, hb, hml, hown, hts, hE, hbs⟩ := id C
  have hl : lv_has ls 3 [(0, .ref (b + 4)), (1, .ref (b + 175))] := hl
  refine lv_iconst (v := 0) hx hb dX8_addAll_0 (by decide) ?_
  refine lv_istore_n (lv' := [(2, .int 0), (0, .ref (b + 4)), (1, .ref (b + 175))]) hx hb dX8_addAll_1 rfl hl (by decide) rfl (fun ls hl => ?_)
  refine lv_iload_n hx hb dX8_addAll_2 rfl (lv_at hl 0 rfl) ?_
  refine lv_aload_n hx hb dX8_addAll_3 rfl (lv_at hl 2 rfl) ?_
  refine m_get fl_X8_13_X8 C hM (i := 175) (by decide) h175 (v := .int 0) rfl dX8_addAll_4 ?_
  refine lv_icmp_ge (tgt := 25) hx hb dX8_addAll_7 (by decide) (fun _ => ?_) (fun h => absurd (by decide) h)
  exact m_vret C hr hlk hM (⟨rfl, rfl⟩) dX8_addAll_25
set_option maxHeartbeats 4000000 in
set_option maxRecDepth 100000 in
theorem a_X8_copyFrom_0 (l : Launch) (D : va_G) (kc : Nat → ClassId) (b : Nat) (f : Nat → va_E) (h4 : f 4 = .inr (8, [.ref (b + 5), .int 0])) (h175 : f 175 = .inr (8, [.ref (b + 176), .int 0])) : mMv l yX8_copyFrom cX8_copyFrom 2 2 0 0 D kc b 220 f [.ref (b + 4), .ref (b + 175)] (fun u => u.1 = 220 ∧ u.2 = va_up f 4 (.inr (8, [.ref (b + 5), .int 0]))) := by
  refine m_start (by decide) (Nat.le_of_ble_eq_true rfl) ?_
  intro p e s m below meth c C hr hlk hnm hM ls hl
  obtain ⟨hx, hb, hml, hown, hts, hE, hbs⟩ := id C
  have hl : lv_has ls 2 [(0, .ref (b + 4)), (1, .ref (b + 175))] := hl
  refine lv_aload_n hx hb dX8_copyFrom_0 rfl (lv_at hl 0 rfl) ?_
  refine m_gov (m_runV calV_X8_clear wd_584 (a_X8_clear_1 l D kc b f h4) C hM (by decide) h4 rfl hl.1 rfl rfl (Nat.le_of_ble_eq_true rfl) dX8_copyFrom_1 ⟨Nat.le_of_ble_eq_true rfl, Nat.le_of_ble_eq_true rfl⟩ ⟨Nat.le_of_ble_eq_true rfl, Nat.le_of_ble_eq_true rfl⟩) hM (fun n2 f1 H locs hp hM => ?_)
  have hp : n2 = 220 ∧ f1 = va_up f 4 (.inr (8, [.ref (b + 5), .int 0])) := hp
  obtain ⟨rfl, ef1⟩ := hp
  refine lv_aload_n hx hb dX8_copyFrom_4 rfl (lv_at hl 0 rfl) ?_
  refine lv_aload_n hx hb dX8_copyFrom_5 rfl (lv_at hl 1 rfl) ?_
  have h175_1 : f1 175 = .inr (8, [.ref (b + 176), .int 0]) := m_ne ef1 h175 (by decide)
  have h4_1 : f1 4 = .inr (8, [.ref (b + 5), .int 0]) := m_eq ef1
  refine m_gov (m_runV calV_X8_addAll wd_585 (a_X8_addAll_0 l D kc b f1 h175_1) C hM (by decide) h4_1 rfl hl.1 rfl rfl (Nat.le_of_ble_eq_true rfl) dX8_copyFrom_6 ⟨Nat.le_of_ble_eq_true rfl, Nat.le_of_ble_eq_true rfl⟩ ⟨Nat.le_of_ble_eq_true rfl, Nat.le_of_ble_eq_true rfl⟩) hM (fun n4 f2 H locs hp hM => ?_)
  have hp : n4 = 220 ∧ f2 = f1 := hp
  obtain ⟨rfl, ef2⟩ := hp
  exact m_vret C hr hlk hM (⟨rfl, by rw [ef2, ef1]⟩) dX8_copyFrom_9
set_option maxHeartbeats 4000000 in
set_option maxRecDepth 100000 in
theorem a_X5_clear_0 (l : Launch) (D : va_G) (kc : Nat → ClassId) (b : Nat) (f : Nat → va_E) (h10 : f 10 = .inr (5, [.ref (b + 11), .ref (b + 12), .ref (b + 13), .int 0, .int 0, .int 0])) : mMv l yX5_clear cX5_clear 1 1 0 0 D kc b 220 f [.ref (b + 10)] (fun u => u.1 = 220 ∧ u.2 = va_up f 10 (.inr (5, [.ref (b + 11), .ref (b + 12), .ref (b + 13), .int 0, .int 0, .int 0]))) := by
  refine m_start (by decide) (Nat.le_of_ble_eq_true rfl) ?_
  intro p e s m below meth c C hr hlk hnm hM ls hl
  obtain ⟨hx, hb, hml, hown, hts, hE, hbs⟩ := id C
  have hl : lv_has ls 1 [(0, .ref (b + 10))] := hl
  refine lv_aload_n hx hb dX5_clear_0 rfl (lv_at hl 0 rfl) ?_
  refine lv_iconst (v := 0) hx hb dX5_clear_1 (by decide) ?_
  refine m_put fl_X5_25_X5 C hM (i := 10) (by decide) h10 rfl rfl (Nat.le_of_ble_eq_true rfl) (fs1 := [.ref (b + 11), .ref (b + 12), .ref (b + 13), .int 0, .int 0, .int 0]) rfl dX5_clear_2 (fun H locs f1 ef1 hM => ?_)
  refine lv_aload_n hx hb dX5_clear_5 rfl (lv_at hl 0 rfl) ?_
  refine lv_iconst (v := 0) hx hb dX5_clear_6 (by decide) ?_
  have h10_1 : f1 10 = .inr (5, [.ref (b + 11), .ref (b + 12), .ref (b + 13), .int 0, .int 0, .int 0]) := m_eq ef1
  refine m_put fl_X5_29_X5 C hM (i := 10) (by decide) h10_1 rfl rfl (Nat.le_of_ble_eq_true rfl) (fs1 := [.ref (b + 11), .ref (b + 12), .ref (b + 13), .int 0, .int 0, .int 0]) rfl dX5_clear_7 (fun H locs f2 ef2 hM => ?_)
  refine lv_aload_n hx hb dX5_clear_10 rfl (lv_at hl 0 rfl) ?_
  refine lv_iconst (v := 0) hx hb dX5_clear_11 (by decide) ?_
  have h10_2 : f2 10 = .inr (5, [.ref (b + 11), .ref (b + 12), .ref (b + 13), .int 0, .int 0, .int 0]) := m_eq ef2
  refine m_put fl_X5_32_X5 C hM (i := 10) (by decide) h10_2 rfl rfl (Nat.le_of_ble_eq_true rfl) (fs1 := [.ref (b + 11), .ref (b + 12), .ref (b + 13), .int 0, .int 0, .int 0]) rfl dX5_clear_12 (fun H locs f3 ef3 hM => ?_)
  exact m_vret C hr hlk hM (⟨rfl, by rw [ef3, ef2, ef1]; simp only [bx_uu]⟩) dX5_clear_15
set_option maxHeartbeats 4000000 in
set_option maxRecDepth 100000 in
theorem a_X5_listDone_0 (l : Launch) (D : va_G) (kc : Nat → ClassId) (b : Nat) (f : Nat → va_E) (h10 : f 10 = .inr (5, [.ref (b + 11), .ref (b + 12), .ref (b + 13), .int 0, .int 0, .int 0])) : mMv l yX5_listDone cX5_listDone 3 1 0 0 D kc b 220 f [.ref (b + 10)] (fun u => u.1 = 220 ∧ u.2 = va_up f 10 (.inr (5, [.ref (b + 11), .ref (b + 12), .ref (b + 13), .int 0, .int 0, .int 0]))) := by
  refine m_start (by decide) (Nat.le_of_ble_eq_true rfl) ?_
  intro p e s m below meth c C hr hlk hnm hM ls hl
  obtain ⟨hx, hb, hml, hown, hts, hE, hbs⟩ := id C
  have hl : lv_has ls 3 [(0, .ref (b + 10))] := hl
  refine lv_aload_n hx hb dX5_listDone_0 rfl (lv_at hl 0 rfl) ?_
  refine lv_iconst (v := 0) hx hb dX5_listDone_1 (by decide) ?_
  refine m_put fl_X5_32_X5 C hM (i := 10) (by decide) h10 rfl rfl (Nat.le_of_ble_eq_true rfl) (fs1 := [.ref (b + 11), .ref (b + 12), .ref (b + 13), .int 0, .int 0, .int 0]) rfl dX5_listDone_2 (fun H locs f1 ef1 hM => ?_)
  refine lv_iconst (v := 0) hx hb dX5_listDone_5 (by decide) ?_
  refine lv_istore_n (lv' := [(1, .int 0), (0, .ref (b + 10))]) hx hb dX5_listDone_6 rfl hl (by decide) rfl (fun ls hl => ?_)
  refine lv_iload_n hx hb dX5_listDone_7 rfl (lv_at hl 0 rfl) ?_
  refine lv_aload_n hx hb dX5_listDone_8 rfl (lv_at hl 1 rfl) ?_
  have h10_1 : f1 10 = .inr (5, [.ref (b + 11), .ref (b + 12), .ref (b + 13), .int 0, .int 0, .int 0]) := m_eq ef1
  refine m_get fl_X5_25_X5 C hM (i := 10) (by decide) h10_1 (v := .int 0) rfl dX5_listDone_9 ?_
  refine lv_icmp_ge (tgt := 70) hx hb dX5_listDone_12 (by decide) (fun _ => ?_) (fun h => absurd (by decide) h)
  exact m_vret C hr hlk hM (⟨rfl, by rw [ef1]⟩) dX5_listDone_70
set_option maxHeartbeats 4000000 in
set_option maxRecDepth 100000 in
theorem a_X5_decide_0 (l : Launch) (D : va_G) (kc : Nat → ClassId) (b : Nat) (f : Nat → va_E) (h10 : f 10 = .inr (5, [.ref (b + 11), .ref (b + 12), .ref (b + 13), .int 0, .int 0, .int 0])) : mMv l yX5_decide cX5_decide 4 2 0 0 D kc b 220 f [.ref (b + 10)] (fun u => u.1 = 220 ∧ u.2 = va_up f 10 (.inr (5, [.ref (b + 11), .ref (b + 12), .ref (b + 13), .int 0, .int 0, .int 0]))) := by
  refine m_start (by decide) (Nat.le_of_ble_eq_true rfl) ?_
  intro p e s m below meth c C hr hlk hnm hM ls hl
  obtain ⟨hx, hb, hml, hown, hts, hE, hbs⟩ := id C
  have hl : lv_has ls 4 [(0, .ref (b + 10))] := hl
  refine lv_iconst (v := 0) hx hb dX5_decide_0 (by decide) ?_
  refine lv_istore_n (lv' := [(1, .int 0), (0, .ref (b + 10))]) hx hb dX5_decide_1 rfl hl (by decide) rfl (fun ls hl => ?_)
  refine lv_iload_n hx hb dX5_decide_2 rfl (lv_at hl 0 rfl) ?_
  refine lv_aload_n hx hb dX5_decide_3 rfl (lv_at hl 1 rfl) ?_
  refine m_get fl_X5_25_X5 C hM (i := 10) (by decide) h10 (v := .int 0) rfl dX5_decide_4 ?_
  refine lv_icmp_ge (tgt := 39) hx hb dX5_decide_7 (by decide) (fun _ => ?_) (fun h => absurd (by decide) h)
  refine lv_iconst (v := 0) hx hb dX5_decide_39 (by decide) ?_
  refine lv_istore_n (lv' := [(1, .int 0), (0, .ref (b + 10))]) hx hb dX5_decide_40 rfl hl (by decide) rfl (fun ls hl => ?_)
  refine lv_iload_n hx hb dX5_decide_41 rfl (lv_at hl 0 rfl) ?_
  refine lv_bipush (v := 9) hx hb dX5_decide_42 (by decide) ?_
  refine lv_icmp_gt (tgt := 124) hx hb dX5_decide_44 (by decide) (fun h => absurd h (by decide)) (fun _ => ?_)
  refine lv_iconst (v := 0) hx hb dX5_decide_47 (by decide) ?_
  refine lv_istore_n (lv' := [(2, .int 0), (1, .int 0), (0, .ref (b + 10))]) hx hb dX5_decide_48 rfl hl (by decide) rfl (fun ls hl => ?_)
  refine lv_iload_n hx hb dX5_decide_49 rfl (lv_at hl 0 rfl) ?_
  refine lv_aload_n hx hb dX5_decide_50 rfl (lv_at hl 2 rfl) ?_
  refine m_get fl_X5_25_X5 C hM (i := 10) (by decide) h10 (v := .int 0) rfl dX5_decide_51 ?_
  refine lv_icmp_ge (tgt := 118) hx hb dX5_decide_54 (by decide) (fun _ => ?_) (fun h => absurd (by decide) h)
  refine lv_iinc (v := 1) (lv' := [(1, .int 1), (2, .int 0), (0, .ref (b + 10))]) hx hb dX5_decide_118 hl (k := 1) rfl (by decide) (by decide) rfl (fun ls hl => ?_)
  refine lv_goto (tgt := 41) hx hb dX5_decide_121 (by decide) ?_
  refine lv_iload_n hx hb dX5_decide_41 rfl (lv_at hl 0 rfl) ?_
  refine lv_bipush (v := 9) hx hb dX5_decide_42 (by decide) ?_
  refine lv_icmp_gt (tgt := 124) hx hb dX5_decide_44 (by decide) (fun h => absurd h (by decide)) (fun _ => ?_)
  refine lv_iconst (v := 0) hx hb dX5_decide_47 (by decide) ?_
  refine lv_istore_n (lv' := [(2, .int 0), (1, .int 1), (0, .ref (b + 10))]) hx hb dX5_decide_48 rfl hl (by decide) rfl (fun ls hl => ?_)
  refine lv_iload_n hx hb dX5_decide_49 rfl (lv_at hl 0 rfl) ?_
  refine lv_aload_n hx hb dX5_decide_50 rfl (lv_at hl 2 rfl) ?_
  refine m_get fl_X5_25_X5 C hM (i := 10) (by decide) h10 (v := .int 0) rfl dX5_decide_51 ?_
  refine lv_icmp_ge (tgt := 118) hx hb dX5_decide_54 (by decide) (fun _ => ?_) (fun h => absurd (by decide) h)
  refine lv_iinc (v := 2) (lv' := [(1, .int 2), (2, .int 0), (0, .ref (b + 10))]) hx hb dX5_decide_118 hl (k := 1) rfl (by decide) (by decide) rfl (fun ls hl => ?_)
  refine lv_goto (tgt := 41) hx hb dX5_decide_121 (by decide) ?_
  refine lv_iload_n hx hb dX5_decide_41 rfl (lv_at hl 0 rfl) ?_
  refine lv_bipush (v := 9) hx hb dX5_decide_42 (by decide) ?_
  refine lv_icmp_gt (tgt := 124) hx hb dX5_decide_44 (by decide) (fun h => absurd h (by decide)) (fun _ => ?_)
  refine lv_iconst (v := 0) hx hb dX5_decide_47 (by decide) ?_
  refine lv_istore_n (lv' := [(2, .int 0), (1, .int 2), (0, .ref (b + 10))]) hx hb dX5_decide_48 rfl hl (by decide) rfl (fun ls hl => ?_)
  refine lv_iload_n hx hb dX5_decide_49 rfl (lv_at hl 0 rfl) ?_
  refine lv_aload_n hx hb dX5_decide_50 rfl (lv_at hl 2 rfl) ?_
  refine m_get fl_X5_25_X5 C hM (i := 10) (by decide) h10 (v := .int 0) rfl dX5_decide_51 ?_
  refine lv_icmp_ge (tgt := 118) hx hb dX5_decide_54 (by decide) (fun _ => ?_) (fun h => absurd (by decide) h)
  refine lv_iinc (v := 3) (lv' := [(1, .int 3), (2, .int 0), (0, .ref (b + 10))]) hx hb dX5_decide_118 hl (k := 1) rfl (by decide) (by decide) rfl (fun ls hl => ?_)
  refine lv_goto (tgt := 41) hx hb dX5_decide_121 (by decide) ?_
  refine lv_iload_n hx hb dX5_decide_41 rfl (lv_at hl 0 rfl) ?_
  refine lv_bipush (v := 9) hx hb dX5_decide_42 (by decide) ?_
  refine lv_icmp_gt (tgt := 124) hx hb dX5_decide_44 (by decide) (fun h => absurd h (by decide)) (fun _ => ?_)
  refine lv_iconst (v := 0) hx hb dX5_decide_47 (by decide) ?_
  refine lv_istore_n (lv' := [(2, .int 0), (1, .int 3), (0, .ref (b + 10))]) hx hb dX5_decide_48 rfl hl (by decide) rfl (fun ls hl => ?_)
  refine lv_iload_n hx hb dX5_decide_49 rfl (lv_at hl 0 rfl) ?_
  refine lv_aload_n hx hb dX5_decide_50 rfl (lv_at hl 2 rfl) ?_
  refine m_get fl_X5_25_X5 C hM (i := 10) (by decide) h10 (v := .int 0) rfl dX5_decide_51 ?_
  refine lv_icmp_ge (tgt := 118) hx hb dX5_decide_54 (by decide) (fun _ => ?_) (fun h => absurd (by decide) h)
  refine lv_iinc (v := 4) (lv' := [(1, .int 4), (2, .int 0), (0, .ref (b + 10))]) hx hb dX5_decide_118 hl (k := 1) rfl (by decide) (by decide) rfl (fun ls hl => ?_)
  refine lv_goto (tgt := 41) hx hb dX5_decide_121 (by decide) ?_
  refine lv_iload_n hx hb dX5_decide_41 rfl (lv_at hl 0 rfl) ?_
  refine lv_bipush (v := 9) hx hb dX5_decide_42 (by decide) ?_
  refine lv_icmp_gt (tgt := 124) hx hb dX5_decide_44 (by decide) (fun h => absurd h (by decide)) (fun _ => ?_)
  refine lv_iconst (v := 0) hx hb dX5_decide_47 (by decide) ?_
  refine lv_istore_n (lv' := [(2, .int 0), (1, .int 4), (0, .ref (b + 10))]) hx hb dX5_decide_48 rfl hl (by decide) rfl (fun ls hl => ?_)
  refine lv_iload_n hx hb dX5_decide_49 rfl (lv_at hl 0 rfl) ?_
  refine lv_aload_n hx hb dX5_decide_50 rfl (lv_at hl 2 rfl) ?_
  refine m_get fl_X5_25_X5 C hM (i := 10) (by decide) h10 (v := .int 0) rfl dX5_decide_51 ?_
  refine lv_icmp_ge (tgt := 118) hx hb dX5_decide_54 (by decide) (fun _ => ?_) (fun h => absurd (by decide) h)
  refine lv_iinc (v := 5) (lv' := [(1, .int 5), (2, .int 0), (0, .ref (b + 10))]) hx hb dX5_decide_118 hl (k := 1) rfl (by decide) (by decide) rfl (fun ls hl => ?_)
  refine lv_goto (tgt := 41) hx hb dX5_decide_121 (by decide) ?_
  refine lv_iload_n hx hb dX5_decide_41 rfl (lv_at hl 0 rfl) ?_
  refine lv_bipush (v := 9) hx hb dX5_decide_42 (by decide) ?_
  refine lv_icmp_gt (tgt := 124) hx hb dX5_decide_44 (by decide) (fun h => absurd h (by decide)) (fun _ => ?_)
  refine lv_iconst (v := 0) hx hb dX5_decide_47 (by decide) ?_
  refine lv_istore_n (lv' := [(2, .int 0), (1, .int 5), (0, .ref (b + 10))]) hx hb dX5_decide_48 rfl hl (by decide) rfl (fun ls hl => ?_)
  refine lv_iload_n hx hb dX5_decide_49 rfl (lv_at hl 0 rfl) ?_
  refine lv_aload_n hx hb dX5_decide_50 rfl (lv_at hl 2 rfl) ?_
  refine m_get fl_X5_25_X5 C hM (i := 10) (by decide) h10 (v := .int 0) rfl dX5_decide_51 ?_
  refine lv_icmp_ge (tgt := 118) hx hb dX5_decide_54 (by decide) (fun _ => ?_) (fun h => absurd (by decide) h)
  refine lv_iinc (v := 6) (lv' := [(1, .int 6), (2, .int 0), (0, .ref (b + 10))]) hx hb dX5_decide_118 hl (k := 1) rfl (by decide) (by decide) rfl (fun ls hl => ?_)
  refine lv_goto (tgt := 41) hx hb dX5_decide_121 (by decide) ?_
  refine lv_iload_n hx hb dX5_decide_41 rfl (lv_at hl 0 rfl) ?_
  refine lv_bipush (v := 9) hx hb dX5_decide_42 (by decide) ?_
  refine lv_icmp_gt (tgt := 124) hx hb dX5_decide_44 (by decide) (fun h => absurd h (by decide)) (fun _ => ?_)
  refine lv_iconst (v := 0) hx hb dX5_decide_47 (by decide) ?_
  refine lv_istore_n (lv' := [(2, .int 0), (1, .int 6), (0, .ref (b + 10))]) hx hb dX5_decide_48 rfl hl (by decide) rfl (fun ls hl => ?_)
  refine lv_iload_n hx hb dX5_decide_49 rfl (lv_at hl 0 rfl) ?_
  refine lv_aload_n hx hb dX5_decide_50 rfl (lv_at hl 2 rfl) ?_
  refine m_get fl_X5_25_X5 C hM (i := 10) (by decide) h10 (v := .int 0) rfl dX5_decide_51 ?_
  refine lv_icmp_ge (tgt := 118) hx hb dX5_decide_54 (by decide) (fun _ => ?_) (fun h => absurd (by decide) h)
  refine lv_iinc (v := 7) (lv' := [(1, .int 7), (2, .int 0), (0, .ref (b + 10))]) hx hb dX5_decide_118 hl (k := 1) rfl (by decide) (by decide) rfl (fun ls hl => ?_)
  refine lv_goto (tgt := 41) hx hb dX5_decide_121 (by decide) ?_
  refine lv_iload_n hx hb dX5_decide_41 rfl (lv_at hl 0 rfl) ?_
  refine lv_bipush (v := 9) hx hb dX5_decide_42 (by decide) ?_
  refine lv_icmp_gt (tgt := 124) hx hb dX5_decide_44 (by decide) (fun h => absurd h (by decide)) (fun _ => ?_)
  refine lv_iconst (v := 0) hx hb dX5_decide_47 (by decide) ?_
  refine lv_istore_n (lv' := [(2, .int 0), (1, .int 7), (0, .ref (b + 10))]) hx hb dX5_decide_48 rfl hl (by decide) rfl (fun ls hl => ?_)
  refine lv_iload_n hx hb dX5_decide_49 rfl (lv_at hl 0 rfl) ?_
  refine lv_aload_n hx hb dX5_decide_50 rfl (lv_at hl 2 rfl) ?_
  refine m_get fl_X5_25_X5 C hM (i := 10) (by decide) h10 (v := .int 0) rfl dX5_decide_51 ?_
  refine lv_icmp_ge (tgt := 118) hx hb dX5_decide_54 (by decide) (fun _ => ?_) (fun h => absurd (by decide) h)
  refine lv_iinc (v := 8) (lv' := [(1, .int 8), (2, .int 0), (0, .ref (b + 10))]) hx hb dX5_decide_118 hl (k := 1) rfl (by decide) (by decide) rfl (fun ls hl => ?_)
  refine lv_goto (tgt := 41) hx hb dX5_decide_121 (by decide) ?_
  refine lv_iload_n hx hb dX5_decide_41 rfl (lv_at hl 0 rfl) ?_
  refine lv_bipush (v := 9) hx hb dX5_decide_42 (by decide) ?_
  refine lv_icmp_gt (tgt := 124) hx hb dX5_decide_44 (by decide) (fun h => absurd h (by decide)) (fun _ => ?_)
  refine lv_iconst (v := 0) hx hb dX5_decide_47 (by decide) ?_
  refine lv_istore_n (lv' := [(2, .int 0), (1, .int 8), (0, .ref (b + 10))]) hx hb dX5_decide_48 rfl hl (by decide) rfl (fun ls hl => ?_)
  refine lv_iload_n hx hb dX5_decide_49 rfl (lv_at hl 0 rfl) ?_
  refine lv_aload_n hx hb dX5_decide_50 rfl (lv_at hl 2 rfl) ?_
  refine m_get fl_X5_25_X5 C hM (i := 10) (by decide) h10 (v := .int 0) rfl dX5_decide_51 ?_
  refine lv_icmp_ge (tgt := 118) hx hb dX5_decide_54 (by decide) (fun _ => ?_) (fun h => absurd (by decide) h)
  refine lv_iinc (v := 9) (lv' := [(1, .int 9), (2, .int 0), (0, .ref (b + 10))]) hx hb dX5_decide_118 hl (k := 1) rfl (by decide) (by decide) rfl (fun ls hl => ?_)
  refine lv_goto (tgt := 41) hx hb dX5_decide_121 (by decide) ?_
  refine lv_iload_n hx hb dX5_decide_41 rfl (lv_at hl 0 rfl) ?_
  refine lv_bipush (v := 9) hx hb dX5_decide_42 (by decide) ?_
  refine lv_icmp_gt (tgt := 124) hx hb dX5_decide_44 (by decide) (fun h => absurd h (by decide)) (fun _ => ?_)
  refine lv_iconst (v := 0) hx hb dX5_decide_47 (by decide) ?_
  refine lv_istore_n (lv' := [(2, .int 0), (1, .int 9), (0, .ref (b + 10))]) hx hb dX5_decide_48 rfl hl (by decide) rfl (fun ls hl => ?_)
  refine lv_iload_n hx hb dX5_decide_49 rfl (lv_at hl 0 rfl) ?_
  refine lv_aload_n hx hb dX5_decide_50 rfl (lv_at hl 2 rfl) ?_
  refine m_get fl_X5_25_X5 C hM (i := 10) (by decide) h10 (v := .int 0) rfl dX5_decide_51 ?_
  refine lv_icmp_ge (tgt := 118) hx hb dX5_decide_54 (by decide) (fun _ => ?_) (fun h => absurd (by decide) h)
  refine lv_iinc (v := 10) (lv' := [(1, .int 10), (2, .int 0), (0, .ref (b + 10))]) hx hb dX5_decide_118 hl (k := 1) rfl (by decide) (by decide) rfl (fun ls hl => ?_)
  refine lv_goto (tgt := 41) hx hb dX5_decide_121 (by decide) ?_
  refine lv_iload_n hx hb dX5_decide_41 rfl (lv_at hl 0 rfl) ?_
  refine lv_bipush (v := 9) hx hb dX5_decide_42 (by decide) ?_
  refine lv_icmp_gt (tgt := 124) hx hb dX5_decide_44 (by decide) (fun _ => ?_) (fun h => absurd (by decide) h)
  refine lv_aload_n hx hb dX5_decide_124 rfl (lv_at hl 2 rfl) ?_
  refine m_gov (m_runV calV_X5_listDone wd_646 (a_X5_listDone_0 l D kc b f h10) C hM (by decide) h10 rfl hl.1 rfl rfl (Nat.le_of_ble_eq_true rfl) dX5_decide_125 ⟨Nat.le_of_ble_eq_true rfl, Nat.le_of_ble_eq_true rfl⟩ ⟨Nat.le_of_ble_eq_true rfl, Nat.le_of_ble_eq_true rfl⟩) hM (fun n2 f1 H locs hp hM => ?_)
  have hp : n2 = 220 ∧ f1 = va_up f 10 (.inr (5, [.ref (b + 11), .ref (b + 12), .ref (b + 13), .int 0, .int 0, .int 0])) := hp
  obtain ⟨rfl, ef1⟩ := hp
  exact m_vret C hr hlk hM (⟨rfl, by rw [ef1]⟩) dX5_decide_128
set_option maxHeartbeats 4000000 in
set_option maxRecDepth 100000 in
theorem a_X7_takeDone_0 (l : Launch) (D : va_G) (kc : Nat → ClassId) (b : Nat) (f : Nat → va_E) (h178 : f 178 = .inr (7, [.ref (b + 179), .ref (b + 180), .int 0, .null, .null])) (h10 : f 10 = .inr (5, [.ref (b + 11), .ref (b + 12), .ref (b + 13), .int 0, .int 0, .int 0])) : mMv l yX7_takeDone cX7_takeDone 6 1 0 0 D kc b 220 f [.ref (b + 178), .ref (b + 10), .int 0] (fun u => u.1 = 220 ∧ u.2 = va_up f 178 (.inr (7, [.ref (b + 179), .ref (b + 180), .int 0, .null, .null]))) := by
  refine m_start (by decide) (Nat.le_of_ble_eq_true rfl) ?_
  intro p e s m below meth c C hr hlk hnm hM ls hl
  obtain ⟨hx, hb, hml, hown, hts, hE, hbs⟩ := id C
  have hl : lv_has ls 6 [(0, .ref (b + 178)), (1, .ref (b + 10)), (2, .int 0)] := hl
  refine lv_aload_n hx hb dX7_takeDone_0 rfl (lv_at hl 0 rfl) ?_
  refine lv_iconst (v := 0) hx hb dX7_takeDone_1 (by decide) ?_
  refine m_put fl_X7_21_X7 C hM (i := 178) (by decide) h178 rfl rfl (Nat.le_of_ble_eq_true rfl) (fs1 := [.ref (b + 179), .ref (b + 180), .int 0, .null, .null]) rfl dX7_takeDone_2 (fun H locs f1 ef1 hM => ?_)
  refine lv_iconst (v := 0) hx hb dX7_takeDone_5 (by decide) ?_
  refine lv_istore_n (lv' := [(3, .int 0), (0, .ref (b + 178)), (1, .ref (b + 10)), (2, .int 0)]) hx hb dX7_takeDone_6 rfl hl (by decide) rfl (fun ls hl => ?_)
  refine lv_iload_n hx hb dX7_takeDone_7 rfl (lv_at hl 0 rfl) ?_
  refine lv_aload_n hx hb dX7_takeDone_8 rfl (lv_at hl 2 rfl) ?_
  have h10_1 : f1 10 = .inr (5, [.ref (b + 11), .ref (b + 12), .ref (b + 13), .int 0, .int 0, .int 0]) := m_ne ef1 h10 (by decide)
  refine m_getN fl_X7_25_X5 C hM (i := 10) (by decide) h10_1 (v := .int 0) rfl dX7_takeDone_9 ?_
  refine lv_icmp_ge (tgt := 107) hx hb dX7_takeDone_12 (by decide) (fun _ => ?_) (fun h => absurd (by decide) h)
  exact m_vret C hr hlk hM (⟨rfl, by rw [ef1]⟩) dX7_takeDone_107
set_option maxHeartbeats 4000000 in
set_option maxRecDepth 100000 in
theorem a_X8_clear_2 (l : Launch) (D : va_G) (kc : Nat → ClassId) (b : Nat) (f : Nat → va_E) (h8 : f 8 = .inr (8, [.ref (b + 9), .int 0])) : mMv l yX8_clear cX8_clear 1 1 0 0 D kc b 220 f [.ref (b + 8)] (fun u => u.1 = 220 ∧ u.2 = va_up f 8 (.inr (8, [.ref (b + 9), .int 0]))) := by
  refine m_start (by decide) (Nat.le_of_ble_eq_true rfl) ?_
  intro p e s m below meth c C hr hlk hnm hM ls hl
  obtain ⟨hx, hb, hml, hown, hts, hE, hbs⟩ := id C
  have hl : lv_has ls 1 [(0, .ref (b + 8))] := hl
  refine lv_aload_n hx hb dX8_clear_0 rfl (lv_at hl 0 rfl) ?_
  refine lv_iconst (v := 0) hx hb dX8_clear_1 (by decide) ?_
  refine m_put fl_X8_13_X8 C hM (i := 8) (by decide) h8 rfl rfl (Nat.le_of_ble_eq_true rfl) (fs1 := [.ref (b + 9), .int 0]) rfl dX8_clear_2 (fun H locs f1 ef1 hM => ?_)
  exact m_vret C hr hlk hM (⟨rfl, by rw [ef1]⟩) dX8_clear_5
set_option maxHeartbeats 4000000 in
set_option maxRecDepth 100000 in
theorem a_X7_setGap_0 (l : Launch) (D : va_G) (kc : Nat → ClassId) (b : Nat) (f : Nat → va_E) (h178 : f 178 = .inr (7, [.ref (b + 179), .ref (b + 180), .int 0, .ref (b + 4), .ref (b + 8)])) : mMv l yX7_setGap cX7_setGap 5 1 0 0 D kc b 220 f [.ref (b + 178), .int 0, .int 0] (fun u => u.1 = 220 ∧ u.2 = f) := by
  refine m_start (by decide) (Nat.le_of_ble_eq_true rfl) ?_
  intro p e s m below meth c C hr hlk hnm hM ls hl
  obtain ⟨hx, hb, hml, hown, hts, hE, hbs⟩ := id C
  have hl : lv_has ls 5 [(0, .ref (b + 178)), (1, .int 0), (2, .int 0)] := hl
  refine lv_iconst (v := 0) hx hb dX7_setGap_0 (by decide) ?_
  refine lv_istore_n (lv' := [(3, .int 0), (0, .ref (b + 178)), (1, .int 0), (2, .int 0)]) hx hb dX7_setGap_1 rfl hl (by decide) rfl (fun ls hl => ?_)
  refine lv_iload_n hx hb dX7_setGap_2 rfl (lv_at hl 0 rfl) ?_
  refine lv_aload_n hx hb dX7_setGap_3 rfl (lv_at hl 1 rfl) ?_
  refine m_get fl_X7_21_X7 C hM (i := 178) (by decide) h178 (v := .int 0) rfl dX7_setGap_4 ?_
  refine lv_icmp_ge (tgt := 101) hx hb dX7_setGap_7 (by decide) (fun _ => ?_) (fun h => absurd (by decide) h)
  exact m_vret C hr hlk hM (⟨rfl, rfl⟩) dX7_setGap_101
set_option maxHeartbeats 4000000 in
set_option maxRecDepth 100000 in
theorem a_X7_make_0 (l : Launch) (D : va_G) (kc : Nat → ClassId) (b : Nat) (f : Nat → va_E) (h178 : f 178 = .inr (7, [.ref (b + 179), .ref (b + 180), .int 0, .null, .null])) (h8 : f 8 = .inr (8, [.ref (b + 9), .int 0])) (h4 : f 4 = .inr (8, [.ref (b + 5), .int 0])) : mMv l yX7_make cX7_make 4 2 0 0 D kc b 220 f [.ref (b + 178), .ref (b + 4), .ref (b + 8)] (fun u => u.1 = 220 ∧ u.2 = va_up (va_up (va_up f 178 (.inr (7, [.ref (b + 179), .ref (b + 180), .int 0, .ref (b + 4), .null]))) 178 (.inr (7, [.ref (b + 179), .ref (b + 180), .int 0, .ref (b + 4), .ref (b + 8)]))) 8 (.inr (8, [.ref (b + 9), .int 0]))) := by
  refine m_start (by decide) (Nat.le_of_ble_eq_true rfl) ?_
  intro p e s m below meth c C hr hlk hnm hM ls hl
  obtain ⟨hx, hb, hml, hown, hts, hE, hbs⟩ := id C
  have hl : lv_has ls 4 [(0, .ref (b + 178)), (1, .ref (b + 4)), (2, .ref (b + 8))] := hl
  refine lv_aload_n hx hb dX7_make_0 rfl (lv_at hl 0 rfl) ?_
  refine lv_aload_n hx hb dX7_make_1 rfl (lv_at hl 1 rfl) ?_
  refine m_put fl_X7_38_X7 C hM (i := 178) (by decide) h178 rfl rfl (Nat.le_of_ble_eq_true rfl) (fs1 := [.ref (b + 179), .ref (b + 180), .int 0, .ref (b + 4), .null]) rfl dX7_make_2 (fun H locs f1 ef1 hM => ?_)
  refine lv_aload_n hx hb dX7_make_5 rfl (lv_at hl 0 rfl) ?_
  refine lv_aload_n hx hb dX7_make_6 rfl (lv_at hl 2 rfl) ?_
  have h178_1 : f1 178 = .inr (7, [.ref (b + 179), .ref (b + 180), .int 0, .ref (b + 4), .null]) := m_eq ef1
  refine m_put fl_X7_42_X7 C hM (i := 178) (by decide) h178_1 rfl rfl (Nat.le_of_ble_eq_true rfl) (fs1 := [.ref (b + 179), .ref (b + 180), .int 0, .ref (b + 4), .ref (b + 8)]) rfl dX7_make_7 (fun H locs f2 ef2 hM => ?_)
  refine lv_aload_n hx hb dX7_make_10 rfl (lv_at hl 0 rfl) ?_
  have h178_2 : f2 178 = .inr (7, [.ref (b + 179), .ref (b + 180), .int 0, .ref (b + 4), .ref (b + 8)]) := m_eq ef2
  refine m_get fl_X7_42_X7 C hM (i := 178) (by decide) h178_2 (v := .ref (b + 8)) rfl dX7_make_11 ?_
  have h8_1 : f1 8 = .inr (8, [.ref (b + 9), .int 0]) := m_ne ef1 h8 (by decide)
  have h8_2 : f2 8 = .inr (8, [.ref (b + 9), .int 0]) := m_ne ef2 h8_1 (by decide)
  refine m_gov (m_runV calV_X8_clear wd_663 (a_X8_clear_2 l D kc b f2 h8_2) C hM (by decide) h8_2 rfl hl.1 rfl rfl (Nat.le_of_ble_eq_true rfl) dX7_make_14 ⟨Nat.le_of_ble_eq_true rfl, Nat.le_of_ble_eq_true rfl⟩ ⟨Nat.le_of_ble_eq_true rfl, Nat.le_of_ble_eq_true rfl⟩) hM (fun n2 f3 H locs hp hM => ?_)
  have hp : n2 = 220 ∧ f3 = va_up f2 8 (.inr (8, [.ref (b + 9), .int 0])) := hp
  obtain ⟨rfl, ef3⟩ := hp
  refine lv_aload_n hx hb dX7_make_17 rfl (lv_at hl 0 rfl) ?_
  have h178_3 : f3 178 = .inr (7, [.ref (b + 179), .ref (b + 180), .int 0, .ref (b + 4), .ref (b + 8)]) := m_ne ef3 h178_2 (by decide)
  refine m_get fl_X7_38_X7 C hM (i := 178) (by decide) h178_3 (v := .ref (b + 4)) rfl dX7_make_18 ?_
  have h4_1 : f1 4 = .inr (8, [.ref (b + 5), .int 0]) := m_ne ef1 h4 (by decide)
  have h4_2 : f2 4 = .inr (8, [.ref (b + 5), .int 0]) := m_ne ef2 h4_1 (by decide)
  have h4_3 : f3 4 = .inr (8, [.ref (b + 5), .int 0]) := m_ne ef3 h4_2 (by decide)
  refine m_getN fl_X7_50_X8 C hM (i := 4) (by decide) h4_3 (v := .int 0) rfl dX7_make_21 ?_
  refine lv_istore_n (lv' := [(3, .int 0), (0, .ref (b + 178)), (1, .ref (b + 4)), (2, .ref (b + 8))]) hx hb dX7_make_24 rfl hl (by decide) rfl (fun ls hl => ?_)
  refine lv_iload_n hx hb dX7_make_25 rfl (lv_at hl 0 rfl) ?_
  refine lv_if_le (tgt := 44) hx hb dX7_make_26 (by decide) (fun _ => ?_) (fun h => absurd (by decide) h)
  refine lv_aload_n hx hb dX7_make_44 rfl (lv_at hl 1 rfl) ?_
  refine lv_iload_n hx hb dX7_make_45 rfl (lv_at hl 0 rfl) ?_
  refine lv_iconst (v := 0) hx hb dX7_make_46 (by decide) ?_
  refine m_gov (m_runV calV_X7_setGap wd_664 (a_X7_setGap_0 l D kc b f3 h178_3) C hM (by decide) h178_3 rfl hl.1 rfl rfl (Nat.le_of_ble_eq_true rfl) dX7_make_47 ⟨Nat.le_of_ble_eq_true rfl, Nat.le_of_ble_eq_true rfl⟩ ⟨Nat.le_of_ble_eq_true rfl, Nat.le_of_ble_eq_true rfl⟩) hM (fun n4 f4 H locs hp hM => ?_)
  have hp : n4 = 220 ∧ f4 = f3 := hp
  obtain ⟨rfl, ef4⟩ := hp
  exact m_vret C hr hlk hM (⟨rfl, by rw [ef4, ef3, ef2, ef1]⟩) dX7_make_50
set_option maxHeartbeats 4000000 in
set_option maxRecDepth 100000 in
theorem a_X11_settle_0 (l : Launch) (D : va_G) (kc : Nat → ClassId) (b : Nat) (f : Nat → va_E) (h0 : f 0 = .inr (11, [.ref (b + 1), .ref (b + 3), .ref (b + 4), .ref (b + 6), .ref (b + 8), .ref (b + 10), .ref (b + 174), .ref (b + 177), .ref (b + 178), .ref (b + 181), .ref (b + 183), .ref (b + 190)])) (h10 : f 10 = .inr (5, [.ref (b + 11), .ref (b + 12), .ref (b + 13), .int 0, .int 0, .int 0])) (h178 : f 178 = .inr (7, [.ref (b + 179), .ref (b + 180), .int 0, .null, .null])) (h8 : f 8 = .inr (8, [.ref (b + 9), .int 0])) (h4 : f 4 = .inr (8, [.ref (b + 5), .int 0])) : mMv l yX11_settle cX11_settle 1 3 0 0 D kc b 220 f [.ref (b + 0)] (fun u => u.1 = 220 ∧ u.2 = va_up (va_up (va_up (va_up (va_up f 10 (.inr (5, [.ref (b + 11), .ref (b + 12), .ref (b + 13), .int 0, .int 0, .int 0]))) 178 (.inr (7, [.ref (b + 179), .ref (b + 180), .int 0, .null, .null]))) 178 (.inr (7, [.ref (b + 179), .ref (b + 180), .int 0, .ref (b + 4), .null]))) 178 (.inr (7, [.ref (b + 179), .ref (b + 180), .int 0, .ref (b + 4), .ref (b + 8)]))) 8 (.inr (8, [.ref (b + 9), .int 0]))) := by
  refine m_start (by decide) (Nat.le_of_ble_eq_true rfl) ?_
  intro p e s m below meth c C hr hlk hnm hM ls hl
  obtain ⟨hx, hb, hml, hown, hts, hE, hbs⟩ := id C
  have hl : lv_has ls 1 [(0, .ref (b + 0))] := hl
  refine lv_aload_n hx hb dX11_settle_0 rfl (lv_at hl 0 rfl) ?_
  refine m_get fl_X11_41_X11 C hM (i := 0) (by decide) h0 (v := .ref (b + 10)) rfl dX11_settle_1 ?_
  refine m_gov (m_runV calV_X5_decide wd_602 (a_X5_decide_0 l D kc b f h10) C hM (by decide) h10 rfl hl.1 rfl rfl (Nat.le_of_ble_eq_true rfl) dX11_settle_4 ⟨Nat.le_of_ble_eq_true rfl, Nat.le_of_ble_eq_true rfl⟩ ⟨Nat.le_of_ble_eq_true rfl, Nat.le_of_ble_eq_true rfl⟩) hM (fun n2 f1 H locs hp hM => ?_)
  have hp : n2 = 220 ∧ f1 = va_up f 10 (.inr (5, [.ref (b + 11), .ref (b + 12), .ref (b + 13), .int 0, .int 0, .int 0])) := hp
  obtain ⟨rfl, ef1⟩ := hp
  refine lv_aload_n hx hb dX11_settle_7 rfl (lv_at hl 0 rfl) ?_
  have h0_1 : f1 0 = .inr (11, [.ref (b + 1), .ref (b + 3), .ref (b + 4), .ref (b + 6), .ref (b + 8), .ref (b + 10), .ref (b + 174), .ref (b + 177), .ref (b + 178), .ref (b + 181), .ref (b + 183), .ref (b + 190)]) := m_ne ef1 h0 (by decide)
  refine m_get fl_X11_62_X11 C hM (i := 0) (by decide) h0_1 (v := .ref (b + 178)) rfl dX11_settle_8 ?_
  refine lv_aload_n hx hb dX11_settle_11 rfl (lv_at hl 0 rfl) ?_
  refine m_get fl_X11_41_X11 C hM (i := 0) (by decide) h0_1 (v := .ref (b + 10)) rfl dX11_settle_12 ?_
  refine lv_iconst (v := 0) hx hb dX11_settle_15 (by decide) ?_
  have h178_1 : f1 178 = .inr (7, [.ref (b + 179), .ref (b + 180), .int 0, .null, .null]) := m_ne ef1 h178 (by decide)
  have h10_1 : f1 10 = .inr (5, [.ref (b + 11), .ref (b + 12), .ref (b + 13), .int 0, .int 0, .int 0]) := m_eq ef1
  refine m_gov (m_runV calV_X7_takeDone wd_650 (a_X7_takeDone_0 l D kc b f1 h178_1 h10_1) C hM (by decide) h178_1 rfl hl.1 rfl rfl (Nat.le_of_ble_eq_true rfl) dX11_settle_16 ⟨Nat.le_of_ble_eq_true rfl, Nat.le_of_ble_eq_true rfl⟩ ⟨Nat.le_of_ble_eq_true rfl, Nat.le_of_ble_eq_true rfl⟩) hM (fun n4 f2 H locs hp hM => ?_)
  have hp : n4 = 220 ∧ f2 = va_up f1 178 (.inr (7, [.ref (b + 179), .ref (b + 180), .int 0, .null, .null])) := hp
  obtain ⟨rfl, ef2⟩ := hp
  refine lv_aload_n hx hb dX11_settle_19 rfl (lv_at hl 0 rfl) ?_
  have h0_2 : f2 0 = .inr (11, [.ref (b + 1), .ref (b + 3), .ref (b + 4), .ref (b + 6), .ref (b + 8), .ref (b + 10), .ref (b + 174), .ref (b + 177), .ref (b + 178), .ref (b + 181), .ref (b + 183), .ref (b + 190)]) := m_ne ef2 h0_1 (by decide)
  refine m_get fl_X11_62_X11 C hM (i := 0) (by decide) h0_2 (v := .ref (b + 178)) rfl dX11_settle_20 ?_
  refine lv_aload_n hx hb dX11_settle_23 rfl (lv_at hl 0 rfl) ?_
  refine m_get fl_X11_28_X11 C hM (i := 0) (by decide) h0_2 (v := .ref (b + 4)) rfl dX11_settle_24 ?_
  refine lv_aload_n hx hb dX11_settle_27 rfl (lv_at hl 0 rfl) ?_
  refine m_get fl_X11_35_X11 C hM (i := 0) (by decide) h0_2 (v := .ref (b + 8)) rfl dX11_settle_28 ?_
  have h178_2 : f2 178 = .inr (7, [.ref (b + 179), .ref (b + 180), .int 0, .null, .null]) := m_eq ef2
  have h8_1 : f1 8 = .inr (8, [.ref (b + 9), .int 0]) := m_ne ef1 h8 (by decide)
  have h8_2 : f2 8 = .inr (8, [.ref (b + 9), .int 0]) := m_ne ef2 h8_1 (by decide)
  have h4_1 : f1 4 = .inr (8, [.ref (b + 5), .int 0]) := m_ne ef1 h4 (by decide)
  have h4_2 : f2 4 = .inr (8, [.ref (b + 5), .int 0]) := m_ne ef2 h4_1 (by decide)
  refine m_gov (m_runV calV_X7_make wd_659 (a_X7_make_0 l D kc b f2 h178_2 h8_2 h4_2) C hM (by decide) h178_2 rfl hl.1 rfl rfl (Nat.le_of_ble_eq_true rfl) dX11_settle_31 ⟨Nat.le_of_ble_eq_true rfl, Nat.le_of_ble_eq_true rfl⟩ ⟨Nat.le_of_ble_eq_true rfl, Nat.le_of_ble_eq_true rfl⟩) hM (fun n6 f3 H locs hp hM => ?_)
  have hp : n6 = 220 ∧ f3 = va_up (va_up (va_up f2 178 (.inr (7, [.ref (b + 179), .ref (b + 180), .int 0, .ref (b + 4), .null]))) 178 (.inr (7, [.ref (b + 179), .ref (b + 180), .int 0, .ref (b + 4), .ref (b + 8)]))) 8 (.inr (8, [.ref (b + 9), .int 0])) := hp
  obtain ⟨rfl, ef3⟩ := hp
  exact m_vret C hr hlk hM (⟨rfl, by rw [ef3, ef2, ef1]⟩) dX11_settle_34
set_option maxHeartbeats 4000000 in
set_option maxRecDepth 100000 in
theorem k_x_first (l : Launch) (D : va_G) (kc : Nat → ClassId) (b : Nat) (f : Nat → va_E) (h0 : f 0 = .inr (11, [.ref (b + 1), .ref (b + 3), .ref (b + 4), .ref (b + 6), .ref (b + 8), .ref (b + 10), .ref (b + 174), .ref (b + 177), .ref (b + 178), .ref (b + 181), .ref (b + 183), .ref (b + 190)])) (h174 : f 174 = .inr (9, [.ref (b + 175)])) (h175 : f 175 = .inr (8, [.ref (b + 176), .int 0])) (h3 : f 3 = .inr (1, [.int 0, .int (-1)])) (h1 : f 1 = .inr (10, [.ref (b + 2), .int 0])) (h4 : f 4 = .inr (8, [.ref (b + 5), .int 0])) (h10 : f 10 = .inr (5, [.ref (b + 11), .ref (b + 12), .ref (b + 13), .int 0, .int 0, .int 0])) (h178 : f 178 = .inr (7, [.ref (b + 179), .ref (b + 180), .int 0, .null, .null])) (h8 : f 8 = .inr (8, [.ref (b + 9), .int 0])) : mMi l yX11_first cX11_first 2 .int 4 0 0 D kc b 220 f [.ref (b + 0)] (fun r u => r = 0 ∧ u.1 = 220 ∧ ∀ j, 192 ≤ j → u.2 j = f j) := by
  refine m_start (by decide) (Nat.le_of_ble_eq_true rfl) ?_
  intro p e s m below meth c C hr hlk hnm hM ls hl
  obtain ⟨hx, hb, hml, hown, hts, hE, hbs⟩ := id C
  have hl : lv_has ls 2 [(0, .ref (b + 0))] := hl
  refine lv_aload_n hx hb dX11_first_0 rfl (lv_at hl 0 rfl) ?_
  refine m_get fl_X11_48_X11 C hM (i := 0) (by decide) h0 (v := .ref (b + 174)) rfl dX11_first_1 ?_
  refine lv_aload_n hx hb dX11_first_4 rfl (lv_at hl 0 rfl) ?_
  refine m_get fl_X11_12_X11 C hM (i := 0) (by decide) h0 (v := .ref (b + 1)) rfl dX11_first_5 ?_
  refine lv_bipush (v := 60) hx hb dX11_first_8 (by decide) ?_
  refine lv_aload_n hx hb dX11_first_10 rfl (lv_at hl 0 rfl) ?_
  refine m_get fl_X11_19_X11 C hM (i := 0) (by decide) h0 (v := .ref (b + 3)) rfl dX11_first_11 ?_
  refine m_goi (m_runV calV_X9_readProof wd_453 (a_X9_readProof_0 l D kc b f h174 h175 h3 h1) C hM (by decide) h174 rfl hl.1 rfl rfl (Nat.le_of_ble_eq_true rfl) dX11_first_14 ⟨Nat.le_of_ble_eq_true rfl, Nat.le_of_ble_eq_true rfl⟩ ⟨Nat.le_of_ble_eq_true rfl, Nat.le_of_ble_eq_true rfl⟩) hM (fun r1 n2 f1 H locs hp hM => ?_)
  have hp : r1 = 1 ∧ n2 = 220 ∧ f1 = va_up (va_up f 175 (.inr (8, [.ref (b + 176), .int 0]))) 3 (.inr (1, [.int 0, .int (-1)])) := hp
  obtain ⟨rfl, rfl, ef1⟩ := hp
  refine lv_istore_n (lv' := [(1, .int 1), (0, .ref (b + 0))]) hx hb dX11_first_17 rfl hl (by decide) rfl (fun ls hl => ?_)
  refine lv_aload_n hx hb dX11_first_18 rfl (lv_at hl 1 rfl) ?_
  have h0_1 : f1 0 = .inr (11, [.ref (b + 1), .ref (b + 3), .ref (b + 4), .ref (b + 6), .ref (b + 8), .ref (b + 10), .ref (b + 174), .ref (b + 177), .ref (b + 178), .ref (b + 181), .ref (b + 183), .ref (b + 190)]) := m_ne ef1 (m_ne rfl h0 (by decide)) (by decide)
  refine m_get fl_X11_12_X11 C hM (i := 0) (by decide) h0_1 (v := .ref (b + 1)) rfl dX11_first_19 ?_
  refine lv_iconst (v := 0) hx hb dX11_first_22 (by decide) ?_
  have h1_1 : f1 1 = .inr (10, [.ref (b + 2), .int 0]) := m_ne ef1 (m_ne rfl h1 (by decide)) (by decide)
  refine m_putN fl_X11_87_X10 C hM (i := 1) (by decide) h1_1 rfl rfl (Nat.le_of_ble_eq_true rfl) (fs1 := [.ref (b + 2), .int 0]) rfl dX11_first_23 (fun H locs f2 ef2 hM => ?_)
  refine lv_iload_n hx hb dX11_first_26 rfl (lv_at hl 0 rfl) ?_
  refine lv_if_ne (tgt := 32) hx hb dX11_first_27 (by decide) (fun _ => ?_) (fun h => absurd h (by decide))
  refine lv_aload_n hx hb dX11_first_32 rfl (lv_at hl 1 rfl) ?_
  have h0_2 : f2 0 = .inr (11, [.ref (b + 1), .ref (b + 3), .ref (b + 4), .ref (b + 6), .ref (b + 8), .ref (b + 10), .ref (b + 174), .ref (b + 177), .ref (b + 178), .ref (b + 181), .ref (b + 183), .ref (b + 190)]) := m_ne ef2 h0_1 (by decide)
  refine m_get fl_X11_28_X11 C hM (i := 0) (by decide) h0_2 (v := .ref (b + 4)) rfl dX11_first_33 ?_
  refine lv_aload_n hx hb dX11_first_36 rfl (lv_at hl 1 rfl) ?_
  refine m_get fl_X11_48_X11 C hM (i := 0) (by decide) h0_2 (v := .ref (b + 174)) rfl dX11_first_37 ?_
  have h174_1 : f1 174 = .inr (9, [.ref (b + 175)]) := m_ne ef1 (m_ne rfl h174 (by decide)) (by decide)
  have h174_2 : f2 174 = .inr (9, [.ref (b + 175)]) := m_ne ef2 h174_1 (by decide)
  refine m_getN fl_X11_98_X9 C hM (i := 174) (by decide) h174_2 (v := .ref (b + 175)) rfl dX11_first_40 ?_
  have h4_1 : f1 4 = .inr (8, [.ref (b + 5), .int 0]) := m_ne ef1 (m_ne rfl h4 (by decide)) (by decide)
  have h4_2 : f2 4 = .inr (8, [.ref (b + 5), .int 0]) := m_ne ef2 h4_1 (by decide)
  have h175_1 : f1 175 = .inr (8, [.ref (b + 176), .int 0]) := m_ne ef1 (m_eq rfl) (by decide)
  have h175_2 : f2 175 = .inr (8, [.ref (b + 176), .int 0]) := m_ne ef2 h175_1 (by decide)
  refine m_gov (m_runV calV_X8_copyFrom wd_580 (a_X8_copyFrom_0 l D kc b f2 h4_2 h175_2) C hM (by decide) h4_2 rfl hl.1 rfl rfl (Nat.le_of_ble_eq_true rfl) dX11_first_43 ⟨Nat.le_of_ble_eq_true rfl, Nat.le_of_ble_eq_true rfl⟩ ⟨Nat.le_of_ble_eq_true rfl, Nat.le_of_ble_eq_true rfl⟩) hM (fun n4 f3 H locs hp hM => ?_)
  have hp : n4 = 220 ∧ f3 = va_up f2 4 (.inr (8, [.ref (b + 5), .int 0])) := hp
  obtain ⟨rfl, ef3⟩ := hp
  refine lv_aload_n hx hb dX11_first_46 rfl (lv_at hl 1 rfl) ?_
  have h0_3 : f3 0 = .inr (11, [.ref (b + 1), .ref (b + 3), .ref (b + 4), .ref (b + 6), .ref (b + 8), .ref (b + 10), .ref (b + 174), .ref (b + 177), .ref (b + 178), .ref (b + 181), .ref (b + 183), .ref (b + 190)]) := m_ne ef3 h0_2 (by decide)
  refine m_get fl_X11_41_X11 C hM (i := 0) (by decide) h0_3 (v := .ref (b + 10)) rfl dX11_first_47 ?_
  have h10_1 : f1 10 = .inr (5, [.ref (b + 11), .ref (b + 12), .ref (b + 13), .int 0, .int 0, .int 0]) := m_ne ef1 (m_ne rfl h10 (by decide)) (by decide)
  have h10_2 : f2 10 = .inr (5, [.ref (b + 11), .ref (b + 12), .ref (b + 13), .int 0, .int 0, .int 0]) := m_ne ef2 h10_1 (by decide)
  have h10_3 : f3 10 = .inr (5, [.ref (b + 11), .ref (b + 12), .ref (b + 13), .int 0, .int 0, .int 0]) := m_ne ef3 h10_2 (by decide)
  refine m_gov (m_runV calV_X5_clear wd_594 (a_X5_clear_0 l D kc b f3 h10_3) C hM (by decide) h10_3 rfl hl.1 rfl rfl (Nat.le_of_ble_eq_true rfl) dX11_first_50 ⟨Nat.le_of_ble_eq_true rfl, Nat.le_of_ble_eq_true rfl⟩ ⟨Nat.le_of_ble_eq_true rfl, Nat.le_of_ble_eq_true rfl⟩) hM (fun n6 f4 H locs hp hM => ?_)
  have hp : n6 = 220 ∧ f4 = va_up f3 10 (.inr (5, [.ref (b + 11), .ref (b + 12), .ref (b + 13), .int 0, .int 0, .int 0])) := hp
  obtain ⟨rfl, ef4⟩ := hp
  refine lv_aload_n hx hb dX11_first_53 rfl (lv_at hl 1 rfl) ?_
  have h0_4 : f4 0 = .inr (11, [.ref (b + 1), .ref (b + 3), .ref (b + 4), .ref (b + 6), .ref (b + 8), .ref (b + 10), .ref (b + 174), .ref (b + 177), .ref (b + 178), .ref (b + 181), .ref (b + 183), .ref (b + 190)]) := m_ne ef4 h0_3 (by decide)
  have h10_4 : f4 10 = .inr (5, [.ref (b + 11), .ref (b + 12), .ref (b + 13), .int 0, .int 0, .int 0]) := m_eq ef4
  have h178_1 : f1 178 = .inr (7, [.ref (b + 179), .ref (b + 180), .int 0, .null, .null]) := m_ne ef1 (m_ne rfl h178 (by decide)) (by decide)
  have h178_2 : f2 178 = .inr (7, [.ref (b + 179), .ref (b + 180), .int 0, .null, .null]) := m_ne ef2 h178_1 (by decide)
  have h178_3 : f3 178 = .inr (7, [.ref (b + 179), .ref (b + 180), .int 0, .null, .null]) := m_ne ef3 h178_2 (by decide)
  have h178_4 : f4 178 = .inr (7, [.ref (b + 179), .ref (b + 180), .int 0, .null, .null]) := m_ne ef4 h178_3 (by decide)
  have h8_1 : f1 8 = .inr (8, [.ref (b + 9), .int 0]) := m_ne ef1 (m_ne rfl h8 (by decide)) (by decide)
  have h8_2 : f2 8 = .inr (8, [.ref (b + 9), .int 0]) := m_ne ef2 h8_1 (by decide)
  have h8_3 : f3 8 = .inr (8, [.ref (b + 9), .int 0]) := m_ne ef3 h8_2 (by decide)
  have h8_4 : f4 8 = .inr (8, [.ref (b + 9), .int 0]) := m_ne ef4 h8_3 (by decide)
  have h4_3 : f3 4 = .inr (8, [.ref (b + 5), .int 0]) := m_eq ef3
  have h4_4 : f4 4 = .inr (8, [.ref (b + 5), .int 0]) := m_ne ef4 h4_3 (by decide)
  refine m_gov (m_runV calV_X11_settle wd_598 (a_X11_settle_0 l D kc b f4 h0_4 h10_4 h178_4 h8_4 h4_4) C hM (by decide) h0_4 rfl hl.1 rfl rfl (Nat.le_of_ble_eq_true rfl) dX11_first_54 ⟨Nat.le_of_ble_eq_true rfl, Nat.le_of_ble_eq_true rfl⟩ ⟨Nat.le_of_ble_eq_true rfl, Nat.le_of_ble_eq_true rfl⟩) hM (fun n8 f5 H locs hp hM => ?_)
  have hp : n8 = 220 ∧ f5 = va_up (va_up (va_up (va_up (va_up f4 10 (.inr (5, [.ref (b + 11), .ref (b + 12), .ref (b + 13), .int 0, .int 0, .int 0]))) 178 (.inr (7, [.ref (b + 179), .ref (b + 180), .int 0, .null, .null]))) 178 (.inr (7, [.ref (b + 179), .ref (b + 180), .int 0, .ref (b + 4), .null]))) 178 (.inr (7, [.ref (b + 179), .ref (b + 180), .int 0, .ref (b + 4), .ref (b + 8)]))) 8 (.inr (8, [.ref (b + 9), .int 0])) := hp
  obtain ⟨rfl, ef5⟩ := hp
  refine lv_aload_n hx hb dX11_first_57 rfl (lv_at hl 1 rfl) ?_
  have h0_5 : f5 0 = .inr (11, [.ref (b + 1), .ref (b + 3), .ref (b + 4), .ref (b + 6), .ref (b + 8), .ref (b + 10), .ref (b + 174), .ref (b + 177), .ref (b + 178), .ref (b + 181), .ref (b + 183), .ref (b + 190)]) := m_ne ef5 (m_ne rfl (m_ne rfl (m_ne rfl (m_ne rfl h0_4 (by decide)) (by decide)) (by decide)) (by decide)) (by decide)
  refine m_get fl_X11_28_X11 C hM (i := 0) (by decide) h0_5 (v := .ref (b + 4)) rfl dX11_first_58 ?_
  have h4_5 : f5 4 = .inr (8, [.ref (b + 5), .int 0]) := m_ne ef5 (m_ne rfl (m_ne rfl (m_ne rfl (m_ne rfl h4_4 (by decide)) (by decide)) (by decide)) (by decide)) (by decide)
  refine m_getN fl_X11_111_X8 C hM (i := 4) (by decide) h4_5 (v := .int 0) rfl dX11_first_61 ?_
  have fr_1 : ∀ j, 192 ≤ j → f1 j = f j := fun j hj => m_ne ef1 (m_ne rfl (rfl) (by omega)) (by omega)
  have fr_2 : ∀ j, 192 ≤ j → f2 j = f j := fun j hj => m_ne ef2 (fr_1 j hj) (by omega)
  have fr_3 : ∀ j, 192 ≤ j → f3 j = f j := fun j hj => m_ne ef3 (fr_2 j hj) (by omega)
  have fr_4 : ∀ j, 192 ≤ j → f4 j = f j := fun j hj => m_ne ef4 (fr_3 j hj) (by omega)
  have fr_5 : ∀ j, 192 ≤ j → f5 j = f j := fun j hj => m_ne ef5 (m_ne rfl (m_ne rfl (m_ne rfl (m_ne rfl (fr_4 j hj) (by omega)) (by omega)) (by omega)) (by omega)) (by omega)
  exact m_iret C hr hlk hM (⟨rfl, rfl, fr_5⟩) dX11_first_64
set_option maxHeartbeats 4000000 in
set_option maxRecDepth 100000 in
theorem a_X9_readProof_1 (l : Launch) (D : va_G) (kc : Nat → ClassId) (b : Nat) (f : Nat → va_E) (h174 : f 174 = .inr (9, [.ref (b + 175)])) (h175 : f 175 = .inr (8, [.ref (b + 176), .int 0])) (h3 : f 3 = .inr (1, [.int 0, .int (-1)])) (h1 : f 1 = .inr (10, [.ref (b + 2), .int 0])) : mMi l yX9_readProof cX9_readProof 9 .boolean 2 0 0 D kc b 220 f [.ref (b + 174), .ref (b + 1), .int 150, .ref (b + 3)] (fun r u => r = 1 ∧ u.1 = 220 ∧ u.2 = va_up (va_up f 175 (.inr (8, [.ref (b + 176), .int 0]))) 3 (.inr (1, [.int 0, .int (-1)]))) := by
  refine m_start (by decide) (Nat.le_of_ble_eq_true rfl) ?_
  intro p e s m below meth c C hr hlk hnm hM ls hl
  obtain ⟨hx, hb, hml, hown, hts, hE, hbs⟩ := id C
  have hl : lv_has ls 9 [(0, .ref (b + 174)), (1, .ref (b + 1)), (2, .int 150), (3, .ref (b + 3))] := hl
  refine lv_aload_n hx hb dX9_readProof_0 rfl (lv_at hl 0 rfl) ?_
  refine m_get fl_X9_14_X9 C hM (i := 174) (by decide) h174 (v := .ref (b + 175)) rfl dX9_readProof_1 ?_
  refine m_gov (m_runV calV_X8_clear wd_457 (a_X8_clear_0 l D kc b f h175) C hM (by decide) h175 rfl hl.1 rfl rfl (Nat.le_of_ble_eq_true rfl) dX9_readProof_4 ⟨Nat.le_of_ble_eq_true rfl, Nat.le_of_ble_eq_true rfl⟩ ⟨Nat.le_of_ble_eq_true rfl, Nat.le_of_ble_eq_true rfl⟩) hM (fun n2 f1 H locs hp hM => ?_)
  have hp : n2 = 220 ∧ f1 = va_up f 175 (.inr (8, [.ref (b + 176), .int 0])) := hp
  obtain ⟨rfl, ef1⟩ := hp
  refine lv_aload_n hx hb dX9_readProof_7 rfl (lv_at hl 3 rfl) ?_
  have h3_1 : f1 3 = .inr (1, [.int 0, .int (-1)]) := m_ne ef1 h3 (by decide)
  refine m_gov (m_runV calV_X1_clear wd_461 (a_X1_clear_0 l D kc b f1 h3_1) C hM (by decide) h3_1 rfl hl.1 rfl rfl (Nat.le_of_ble_eq_true rfl) dX9_readProof_8 ⟨Nat.le_of_ble_eq_true rfl, Nat.le_of_ble_eq_true rfl⟩ ⟨Nat.le_of_ble_eq_true rfl, Nat.le_of_ble_eq_true rfl⟩) hM (fun n4 f2 H locs hp hM => ?_)
  have hp : n4 = 220 ∧ f2 = va_up f1 3 (.inr (1, [.int 0, .int (-1)])) := hp
  obtain ⟨rfl, ef2⟩ := hp
  refine lv_lconst (v := 0) hx hb dX9_readProof_11 (by decide) ?_
  refine lv_lstore (lv' := [(4, .long 0), (0, .ref (b + 174)), (1, .ref (b + 1)), (2, .int 150), (3, .ref (b + 3))]) hx hb dX9_readProof_12 hl (by decide) rfl (fun ls hl => ?_)
  refine lv_iconst (v := 0) hx hb dX9_readProof_14 (by decide) ?_
  refine lv_istore (lv' := [(6, .int 0), (4, .long 0), (0, .ref (b + 174)), (1, .ref (b + 1)), (2, .int 150), (3, .ref (b + 3))]) hx hb dX9_readProof_15 hl (by decide) rfl (fun ls hl => ?_)
  refine lv_iconst (v := 0) hx hb dX9_readProof_17 (by decide) ?_
  refine lv_istore (lv' := [(7, .int 0), (6, .int 0), (4, .long 0), (0, .ref (b + 174)), (1, .ref (b + 1)), (2, .int 150), (3, .ref (b + 3))]) hx hb dX9_readProof_18 hl (by decide) rfl (fun ls hl => ?_)
  refine lv_iload hx hb dX9_readProof_20 (lv_at hl 0 rfl) ?_
  refine lv_aload_n hx hb dX9_readProof_22 rfl (lv_at hl 4 rfl) ?_
  have h1_1 : f1 1 = .inr (10, [.ref (b + 2), .int 0]) := m_ne ef1 h1 (by decide)
  have h1_2 : f2 1 = .inr (10, [.ref (b + 2), .int 0]) := m_ne ef2 h1_1 (by decide)
  refine m_getN fl_X9_26_X10 C hM (i := 1) (by decide) h1_2 (v := .int 0) rfl dX9_readProof_23 ?_
  refine lv_icmp_ge (tgt := 129) hx hb dX9_readProof_26 (by decide) (fun _ => ?_) (fun h => absurd (by decide) h)
  refine lv_aload_n hx hb dX9_readProof_129 rfl (lv_at hl 3 rfl) ?_
  refine lv_lload hx hb dX9_readProof_130 (lv_at hl 2 rfl) ?_
  refine lv_iload hx hb dX9_readProof_132 (lv_at hl 1 rfl) ?_
  have h174_1 : f1 174 = .inr (9, [.ref (b + 175)]) := m_ne ef1 h174 (by decide)
  have h174_2 : f2 174 = .inr (9, [.ref (b + 175)]) := m_ne ef2 h174_1 (by decide)
  refine m_gov (m_runV calV_X9_addWord wd_472 (a_X9_addWord_0 l D kc b f2) C hM (by decide) h174_2 rfl hl.1 rfl rfl (Nat.le_of_ble_eq_true rfl) dX9_readProof_134 ⟨Nat.le_of_ble_eq_true rfl, Nat.le_of_ble_eq_true rfl⟩ ⟨Nat.le_of_ble_eq_true rfl, Nat.le_of_ble_eq_true rfl⟩) hM (fun n6 f3 H locs hp hM => ?_)
  have hp : n6 = 220 ∧ f3 = f2 := hp
  obtain ⟨rfl, ef3⟩ := hp
  refine lv_iconst (v := 1) hx hb dX9_readProof_137 (by decide) ?_
  exact m_zret C hr hlk hM rfl (⟨rfl, rfl, by rw [ef3, ef2, ef1]⟩) dX9_readProof_138
set_option maxHeartbeats 4000000 in
set_option maxRecDepth 100000 in
theorem a_X8_clear_3 (l : Launch) (D : va_G) (kc : Nat → ClassId) (b : Nat) (f : Nat → va_E) (h6 : f 6 = .inr (8, [.ref (b + 7), .int 0])) : mMv l yX8_clear cX8_clear 1 1 0 0 D kc b 220 f [.ref (b + 6)] (fun u => u.1 = 220 ∧ u.2 = va_up f 6 (.inr (8, [.ref (b + 7), .int 0]))) := by
  refine m_start (by decide) (Nat.le_of_ble_eq_true rfl) ?_
  intro p e s m below meth c C hr hlk hnm hM ls hl
  obtain ⟨hx, hb, hml, hown, hts, hE, hbs⟩ := id C
  have hl : lv_has ls 1 [(0, .ref (b + 6))] := hl
  refine lv_aload_n hx hb dX8_clear_0 rfl (lv_at hl 0 rfl) ?_
  refine lv_iconst (v := 0) hx hb dX8_clear_1 (by decide) ?_
  refine m_put fl_X8_13_X8 C hM (i := 6) (by decide) h6 rfl rfl (Nat.le_of_ble_eq_true rfl) (fs1 := [.ref (b + 7), .int 0]) rfl dX8_clear_2 (fun H locs f1 ef1 hM => ?_)
  exact m_vret C hr hlk hM (⟨rfl, by rw [ef1]⟩) dX8_clear_5
set_option maxHeartbeats 4000000 in
set_option maxRecDepth 100000 in
theorem a_X8_addAll_1 (l : Launch) (D : va_G) (kc : Nat → ClassId) (b : Nat) (f : Nat → va_E) (h175 : f 175 = .inr (8, [.ref (b + 176), .int 0])) : mMv l yX8_addAll cX8_addAll 3 1 0 0 D kc b 220 f [.ref (b + 6), .ref (b + 175)] (fun u => u.1 = 220 ∧ u.2 = f) := by
  refine m_start (by decide) (Nat.le_of_ble_eq_true rfl) ?_
  intro p e s m below meth c C hr hlk hnm hM ls hl
  obtain ⟨hx, hb, hml, hown, hts, hE, hbs⟩ := id C
  have hl : lv_has ls 3 [(0, .ref (b + 6)), (1, .ref (b + 175))] := hl
  refine lv_iconst (v := 0) hx hb dX8_addAll_0 (by decide) ?_
  refine lv_istore_n (lv' := [(2, .int 0), (0, .ref (b + 6)), (1, .ref (b + 175))]) hx hb dX8_addAll_1 rfl hl (by decide) rfl (fun ls hl => ?_)
  refine lv_iload_n hx hb dX8_addAll_2 rfl (lv_at hl 0 rfl) ?_
  refine lv_aload_n hx hb dX8_addAll_3 rfl (lv_at hl 2 rfl) ?_
  refine m_get fl_X8_13_X8 C hM (i := 175) (by decide) h175 (v := .int 0) rfl dX8_addAll_4 ?_
  refine lv_icmp_ge (tgt := 25) hx hb dX8_addAll_7 (by decide) (fun _ => ?_) (fun h => absurd (by decide) h)
  exact m_vret C hr hlk hM (⟨rfl, rfl⟩) dX8_addAll_25
set_option maxHeartbeats 4000000 in
set_option maxRecDepth 100000 in
theorem a_X8_copyFrom_1 (l : Launch) (D : va_G) (kc : Nat → ClassId) (b : Nat) (f : Nat → va_E) (h6 : f 6 = .inr (8, [.ref (b + 7), .int 0])) (h175 : f 175 = .inr (8, [.ref (b + 176), .int 0])) : mMv l yX8_copyFrom cX8_copyFrom 2 2 0 0 D kc b 220 f [.ref (b + 6), .ref (b + 175)] (fun u => u.1 = 220 ∧ u.2 = va_up f 6 (.inr (8, [.ref (b + 7), .int 0]))) := by
  refine m_start (by decide) (Nat.le_of_ble_eq_true rfl) ?_
  intro p e s m below meth c C hr hlk hnm hM ls hl
  obtain ⟨hx, hb, hml, hown, hts, hE, hbs⟩ := id C
  have hl : lv_has ls 2 [(0, .ref (b + 6)), (1, .ref (b + 175))] := hl
  refine lv_aload_n hx hb dX8_copyFrom_0 rfl (lv_at hl 0 rfl) ?_
  refine m_gov (m_runV calV_X8_clear wd_584 (a_X8_clear_3 l D kc b f h6) C hM (by decide) h6 rfl hl.1 rfl rfl (Nat.le_of_ble_eq_true rfl) dX8_copyFrom_1 ⟨Nat.le_of_ble_eq_true rfl, Nat.le_of_ble_eq_true rfl⟩ ⟨Nat.le_of_ble_eq_true rfl, Nat.le_of_ble_eq_true rfl⟩) hM (fun n2 f1 H locs hp hM => ?_)
  have hp : n2 = 220 ∧ f1 = va_up f 6 (.inr (8, [.ref (b + 7), .int 0])) := hp
  obtain ⟨rfl, ef1⟩ := hp
  refine lv_aload_n hx hb dX8_copyFrom_4 rfl (lv_at hl 0 rfl) ?_
  refine lv_aload_n hx hb dX8_copyFrom_5 rfl (lv_at hl 1 rfl) ?_
  have h175_1 : f1 175 = .inr (8, [.ref (b + 176), .int 0]) := m_ne ef1 h175 (by decide)
  have h6_1 : f1 6 = .inr (8, [.ref (b + 7), .int 0]) := m_eq ef1
  refine m_gov (m_runV calV_X8_addAll wd_585 (a_X8_addAll_1 l D kc b f1 h175_1) C hM (by decide) h6_1 rfl hl.1 rfl rfl (Nat.le_of_ble_eq_true rfl) dX8_copyFrom_6 ⟨Nat.le_of_ble_eq_true rfl, Nat.le_of_ble_eq_true rfl⟩ ⟨Nat.le_of_ble_eq_true rfl, Nat.le_of_ble_eq_true rfl⟩) hM (fun n4 f2 H locs hp hM => ?_)
  have hp : n4 = 220 ∧ f2 = f1 := hp
  obtain ⟨rfl, ef2⟩ := hp
  exact m_vret C hr hlk hM (⟨rfl, by rw [ef2, ef1]⟩) dX8_copyFrom_9
set_option maxHeartbeats 4000000 in
set_option maxRecDepth 100000 in
theorem k_x_second (l : Launch) (D : va_G) (kc : Nat → ClassId) (b : Nat) (f : Nat → va_E) (h0 : f 0 = .inr (11, [.ref (b + 1), .ref (b + 3), .ref (b + 4), .ref (b + 6), .ref (b + 8), .ref (b + 10), .ref (b + 174), .ref (b + 177), .ref (b + 178), .ref (b + 181), .ref (b + 183), .ref (b + 190)])) (h174 : f 174 = .inr (9, [.ref (b + 175)])) (h175 : f 175 = .inr (8, [.ref (b + 176), .int 0])) (h3 : f 3 = .inr (1, [.int 0, .int (-1)])) (h1 : f 1 = .inr (10, [.ref (b + 2), .int 0])) (h6 : f 6 = .inr (8, [.ref (b + 7), .int 0])) : mMi l yX11_second cX11_second 2 .int 3 0 0 D kc b 220 f [.ref (b + 0)] (fun r u => r = 0 ∧ u.1 = 220 ∧ ∀ j, 192 ≤ j → u.2 j = f j) := by
  refine m_start (by decide) (Nat.le_of_ble_eq_true rfl) ?_
  intro p e s m below meth c C hr hlk hnm hM ls hl
  obtain ⟨hx, hb, hml, hown, hts, hE, hbs⟩ := id C
  have hl : lv_has ls 2 [(0, .ref (b + 0))] := hl
  refine lv_aload_n hx hb dX11_second_0 rfl (lv_at hl 0 rfl) ?_
  refine m_get fl_X11_48_X11 C hM (i := 0) (by decide) h0 (v := .ref (b + 174)) rfl dX11_second_1 ?_
  refine lv_aload_n hx hb dX11_second_4 rfl (lv_at hl 0 rfl) ?_
  refine m_get fl_X11_12_X11 C hM (i := 0) (by decide) h0 (v := .ref (b + 1)) rfl dX11_second_5 ?_
  refine lv_sipush (v := 150) hx hb dX11_second_8 (by decide) ?_
  refine lv_aload_n hx hb dX11_second_11 rfl (lv_at hl 0 rfl) ?_
  refine m_get fl_X11_19_X11 C hM (i := 0) (by decide) h0 (v := .ref (b + 3)) rfl dX11_second_12 ?_
  refine m_goi (m_runV calV_X9_readProof wd_453 (a_X9_readProof_1 l D kc b f h174 h175 h3 h1) C hM (by decide) h174 rfl hl.1 rfl rfl (Nat.le_of_ble_eq_true rfl) dX11_second_15 ⟨Nat.le_of_ble_eq_true rfl, Nat.le_of_ble_eq_true rfl⟩ ⟨Nat.le_of_ble_eq_true rfl, Nat.le_of_ble_eq_true rfl⟩) hM (fun r1 n2 f1 H locs hp hM => ?_)
  have hp : r1 = 1 ∧ n2 = 220 ∧ f1 = va_up (va_up f 175 (.inr (8, [.ref (b + 176), .int 0]))) 3 (.inr (1, [.int 0, .int (-1)])) := hp
  obtain ⟨rfl, rfl, ef1⟩ := hp
  refine lv_istore_n (lv' := [(1, .int 1), (0, .ref (b + 0))]) hx hb dX11_second_18 rfl hl (by decide) rfl (fun ls hl => ?_)
  refine lv_aload_n hx hb dX11_second_19 rfl (lv_at hl 1 rfl) ?_
  have h0_1 : f1 0 = .inr (11, [.ref (b + 1), .ref (b + 3), .ref (b + 4), .ref (b + 6), .ref (b + 8), .ref (b + 10), .ref (b + 174), .ref (b + 177), .ref (b + 178), .ref (b + 181), .ref (b + 183), .ref (b + 190)]) := m_ne ef1 (m_ne rfl h0 (by decide)) (by decide)
  refine m_get fl_X11_12_X11 C hM (i := 0) (by decide) h0_1 (v := .ref (b + 1)) rfl dX11_second_20 ?_
  refine lv_iconst (v := 0) hx hb dX11_second_23 (by decide) ?_
  have h1_1 : f1 1 = .inr (10, [.ref (b + 2), .int 0]) := m_ne ef1 (m_ne rfl h1 (by decide)) (by decide)
  refine m_putN fl_X11_87_X10 C hM (i := 1) (by decide) h1_1 rfl rfl (Nat.le_of_ble_eq_true rfl) (fs1 := [.ref (b + 2), .int 0]) rfl dX11_second_24 (fun H locs f2 ef2 hM => ?_)
  refine lv_iload_n hx hb dX11_second_27 rfl (lv_at hl 0 rfl) ?_
  refine lv_if_ne (tgt := 33) hx hb dX11_second_28 (by decide) (fun _ => ?_) (fun h => absurd h (by decide))
  refine lv_aload_n hx hb dX11_second_33 rfl (lv_at hl 1 rfl) ?_
  have h0_2 : f2 0 = .inr (11, [.ref (b + 1), .ref (b + 3), .ref (b + 4), .ref (b + 6), .ref (b + 8), .ref (b + 10), .ref (b + 174), .ref (b + 177), .ref (b + 178), .ref (b + 181), .ref (b + 183), .ref (b + 190)]) := m_ne ef2 h0_1 (by decide)
  refine m_get fl_X11_32_X11 C hM (i := 0) (by decide) h0_2 (v := .ref (b + 6)) rfl dX11_second_34 ?_
  refine lv_aload_n hx hb dX11_second_37 rfl (lv_at hl 1 rfl) ?_
  refine m_get fl_X11_48_X11 C hM (i := 0) (by decide) h0_2 (v := .ref (b + 174)) rfl dX11_second_38 ?_
  have h174_1 : f1 174 = .inr (9, [.ref (b + 175)]) := m_ne ef1 (m_ne rfl h174 (by decide)) (by decide)
  have h174_2 : f2 174 = .inr (9, [.ref (b + 175)]) := m_ne ef2 h174_1 (by decide)
  refine m_getN fl_X11_98_X9 C hM (i := 174) (by decide) h174_2 (v := .ref (b + 175)) rfl dX11_second_41 ?_
  have h6_1 : f1 6 = .inr (8, [.ref (b + 7), .int 0]) := m_ne ef1 (m_ne rfl h6 (by decide)) (by decide)
  have h6_2 : f2 6 = .inr (8, [.ref (b + 7), .int 0]) := m_ne ef2 h6_1 (by decide)
  have h175_1 : f1 175 = .inr (8, [.ref (b + 176), .int 0]) := m_ne ef1 (m_eq rfl) (by decide)
  have h175_2 : f2 175 = .inr (8, [.ref (b + 176), .int 0]) := m_ne ef2 h175_1 (by decide)
  refine m_gov (m_runV calV_X8_copyFrom wd_580 (a_X8_copyFrom_1 l D kc b f2 h6_2 h175_2) C hM (by decide) h6_2 rfl hl.1 rfl rfl (Nat.le_of_ble_eq_true rfl) dX11_second_44 ⟨Nat.le_of_ble_eq_true rfl, Nat.le_of_ble_eq_true rfl⟩ ⟨Nat.le_of_ble_eq_true rfl, Nat.le_of_ble_eq_true rfl⟩) hM (fun n4 f3 H locs hp hM => ?_)
  have hp : n4 = 220 ∧ f3 = va_up f2 6 (.inr (8, [.ref (b + 7), .int 0])) := hp
  obtain ⟨rfl, ef3⟩ := hp
  refine lv_aload_n hx hb dX11_second_47 rfl (lv_at hl 1 rfl) ?_
  have h0_3 : f3 0 = .inr (11, [.ref (b + 1), .ref (b + 3), .ref (b + 4), .ref (b + 6), .ref (b + 8), .ref (b + 10), .ref (b + 174), .ref (b + 177), .ref (b + 178), .ref (b + 181), .ref (b + 183), .ref (b + 190)]) := m_ne ef3 h0_2 (by decide)
  refine m_get fl_X11_32_X11 C hM (i := 0) (by decide) h0_3 (v := .ref (b + 6)) rfl dX11_second_48 ?_
  have h6_3 : f3 6 = .inr (8, [.ref (b + 7), .int 0]) := m_eq ef3
  refine m_getN fl_X11_111_X8 C hM (i := 6) (by decide) h6_3 (v := .int 0) rfl dX11_second_51 ?_
  have fr_1 : ∀ j, 192 ≤ j → f1 j = f j := fun j hj => m_ne ef1 (m_ne rfl (rfl) (by omega)) (by omega)
  have fr_2 : ∀ j, 192 ≤ j → f2 j = f j := fun j hj => m_ne ef2 (fr_1 j hj) (by omega)
  have fr_3 : ∀ j, 192 ≤ j → f3 j = f j := fun j hj => m_ne ef3 (fr_2 j hj) (by omega)
  exact m_iret C hr hlk hM (⟨rfl, rfl, fr_3⟩) dX11_second_54
set_option maxHeartbeats 4000000 in
set_option maxRecDepth 100000 in
theorem a_X4_skipBlanks_0 (l : Launch) (D : va_G) (kc : Nat → ClassId) (b : Nat) (f : Nat → va_E) (h177 : f 177 = .inr (4, [.ref (b + 1), .ref (b + 10), .ref (b + 3), .int 0, .int 0, .int 0, .int 0])) (h1 : f 1 = .inr (10, [.ref (b + 2), .int 0])) : mMv l yX4_skipBlanks cX4_skipBlanks 2 1 0 0 D kc b 220 f [.ref (b + 177)] (fun u => u.1 = 220 ∧ u.2 = f) := by
  refine m_start (by decide) (Nat.le_of_ble_eq_true rfl) ?_
  intro p e s m below meth c C hr hlk hnm hM ls hl
  obtain ⟨hx, hb, hml, hown, hts, hE, hbs⟩ := id C
  have hl : lv_has ls 2 [(0, .ref (b + 177))] := hl
  refine lv_aload_n hx hb dX4_skipBlanks_0 rfl (lv_at hl 0 rfl) ?_
  refine m_get fl_X4_27_X4 C hM (i := 177) (by decide) h177 (v := .int 0) rfl dX4_skipBlanks_1 ?_
  refine lv_istore_n (lv' := [(1, .int 0), (0, .ref (b + 177))]) hx hb dX4_skipBlanks_4 rfl hl (by decide) rfl (fun ls hl => ?_)
  refine lv_iload_n hx hb dX4_skipBlanks_5 rfl (lv_at hl 0 rfl) ?_
  refine lv_aload_n hx hb dX4_skipBlanks_6 rfl (lv_at hl 1 rfl) ?_
  refine m_get fl_X4_9_X4 C hM (i := 177) (by decide) h177 (v := .ref (b + 1)) rfl dX4_skipBlanks_7 ?_
  refine m_getN fl_X4_46_X10 C hM (i := 1) (by decide) h1 (v := .int 0) rfl dX4_skipBlanks_10 ?_
  refine lv_icmp_ge (tgt := 43) hx hb dX4_skipBlanks_13 (by decide) (fun _ => ?_) (fun h => absurd (by decide) h)
  exact m_vret C hr hlk hM (⟨rfl, rfl⟩) dX4_skipBlanks_43
set_option maxHeartbeats 4000000 in
set_option maxRecDepth 100000 in
theorem a_X10_byteAt_0 (l : Launch) (D : va_G) (kc : Nat → ClassId) (b : Nat) (f : Nat → va_E) (h1 : f 1 = .inr (10, [.ref (b + 2), .int 0])) : mMi l yX10_byteAt cX10_byteAt 2 .int 1 0 0 D kc b 220 f [.ref (b + 1), .int 0] (fun r u => r = (-1) ∧ u.1 = 220 ∧ u.2 = f) := by
  refine m_start (by decide) (Nat.le_of_ble_eq_true rfl) ?_
  intro p e s m below meth c C hr hlk hnm hM ls hl
  obtain ⟨hx, hb, hml, hown, hts, hE, hbs⟩ := id C
  have hl : lv_has ls 2 [(0, .ref (b + 1)), (1, .int 0)] := hl
  refine lv_iload_n hx hb dX10_byteAt_0 rfl (lv_at hl 1 rfl) ?_
  refine lv_if_lt (tgt := 21) hx hb dX10_byteAt_1 (by decide) (fun h => absurd h (by decide)) (fun _ => ?_)
  refine lv_iload_n hx hb dX10_byteAt_4 rfl (lv_at hl 1 rfl) ?_
  refine lv_aload_n hx hb dX10_byteAt_5 rfl (lv_at hl 0 rfl) ?_
  refine m_get fl_X10_15_X10 C hM (i := 1) (by decide) h1 (v := .int 0) rfl dX10_byteAt_6 ?_
  refine lv_icmp_ge (tgt := 21) hx hb dX10_byteAt_9 (by decide) (fun _ => ?_) (fun h => absurd (by decide) h)
  refine lv_iconst (v := (-1)) hx hb dX10_byteAt_21 (by decide) ?_
  refine lv_goto (tgt := 35) hx hb dX10_byteAt_22 (by decide) ?_
  exact m_iret C hr hlk hM (⟨rfl, rfl, rfl⟩) dX10_byteAt_35
set_option maxHeartbeats 4000000 in
set_option maxRecDepth 100000 in
theorem a_X11_isSmall_0 (l : Launch) (D : va_G) (kc : Nat → ClassId) (b : Nat) (f : Nat → va_E) : mMi l yX11_isSmall cX11_isSmall 1 .boolean 1 0 0 D kc b 220 f [.int (-1)] (fun r u => r = 0 ∧ u.1 = 220 ∧ u.2 = f) := by
  refine m_start (by decide) (Nat.le_of_ble_eq_true rfl) ?_
  intro p e s m below meth c C hr hlk hnm hM ls hl
  obtain ⟨hx, hb, hml, hown, hts, hE, hbs⟩ := id C
  have hl : lv_has ls 1 [(0, .int (-1))] := hl
  refine lv_iload_n hx hb dX11_isSmall_0 rfl (lv_at hl 0 rfl) ?_
  refine lv_bipush (v := 97) hx hb dX11_isSmall_1 (by decide) ?_
  refine lv_icmp_lt (tgt := 16) hx hb dX11_isSmall_3 (by decide) (fun _ => ?_) (fun h => absurd (by decide) h)
  refine lv_iconst (v := 0) hx hb dX11_isSmall_16 (by decide) ?_
  exact m_zret C hr hlk hM rfl (⟨rfl, rfl, rfl⟩) dX11_isSmall_17
set_option maxHeartbeats 4000000 in
set_option maxRecDepth 100000 in
theorem a_X11_isDigit_0 (l : Launch) (D : va_G) (kc : Nat → ClassId) (b : Nat) (f : Nat → va_E) : mMi l yX11_isDigit cX11_isDigit 1 .boolean 1 0 0 D kc b 220 f [.int (-1)] (fun r u => r = 0 ∧ u.1 = 220 ∧ u.2 = f) := by
  refine m_start (by decide) (Nat.le_of_ble_eq_true rfl) ?_
  intro p e s m below meth c C hr hlk hnm hM ls hl
  obtain ⟨hx, hb, hml, hown, hts, hE, hbs⟩ := id C
  have hl : lv_has ls 1 [(0, .int (-1))] := hl
  refine lv_iload_n hx hb dX11_isDigit_0 rfl (lv_at hl 0 rfl) ?_
  refine lv_bipush (v := 48) hx hb dX11_isDigit_1 (by decide) ?_
  refine lv_icmp_lt (tgt := 16) hx hb dX11_isDigit_3 (by decide) (fun _ => ?_) (fun h => absurd (by decide) h)
  refine lv_iconst (v := 0) hx hb dX11_isDigit_16 (by decide) ?_
  exact m_zret C hr hlk hM rfl (⟨rfl, rfl, rfl⟩) dX11_isDigit_17
set_option maxHeartbeats 4000000 in
set_option maxRecDepth 100000 in
theorem a_X4_sortOf_0 (l : Launch) (D : va_G) (kc : Nat → ClassId) (b : Nat) (f : Nat → va_E) : mMi l yX4_sortOf cX4_sortOf 1 .int 2 0 0 D kc b 220 f [.int (-1)] (fun r u => r = 0 ∧ u.1 = 220 ∧ u.2 = f) := by
  refine m_start (by decide) (Nat.le_of_ble_eq_true rfl) ?_
  intro p e s m below meth c C hr hlk hnm hM ls hl
  obtain ⟨hx, hb, hml, hown, hts, hE, hbs⟩ := id C
  have hl : lv_has ls 1 [(0, .int (-1))] := hl
  refine lv_iload_n hx hb dX4_sortOf_0 rfl (lv_at hl 0 rfl) ?_
  refine m_goi (m_runSN calS_X11_isSmall wd_722 (a_X11_isSmall_0 l D kc b f) C hM hl.1 rfl rfl (Nat.le_of_ble_eq_true rfl) dX4_sortOf_1 ⟨Nat.le_of_ble_eq_true rfl, Nat.le_of_ble_eq_true rfl⟩ ⟨Nat.le_of_ble_eq_true rfl, Nat.le_of_ble_eq_true rfl⟩) hM (fun r1 n2 f1 H locs hp hM => ?_)
  have hp : r1 = 0 ∧ n2 = 220 ∧ f1 = f := hp
  obtain ⟨rfl, rfl, ef1⟩ := hp
  refine lv_if_eq (tgt := 9) hx hb dX4_sortOf_4 (by decide) (fun _ => ?_) (fun h => absurd (by decide) h)
  refine lv_iload_n hx hb dX4_sortOf_9 rfl (lv_at hl 0 rfl) ?_
  refine m_goi (m_runSN calS_X11_isDigit wd_723 (a_X11_isDigit_0 l D kc b f1) C hM hl.1 rfl rfl (Nat.le_of_ble_eq_true rfl) dX4_sortOf_10 ⟨Nat.le_of_ble_eq_true rfl, Nat.le_of_ble_eq_true rfl⟩ ⟨Nat.le_of_ble_eq_true rfl, Nat.le_of_ble_eq_true rfl⟩) hM (fun r3 n4 f2 H locs hp hM => ?_)
  have hp : r3 = 0 ∧ n4 = 220 ∧ f2 = f1 := hp
  obtain ⟨rfl, rfl, ef2⟩ := hp
  refine lv_if_eq (tgt := 18) hx hb dX4_sortOf_13 (by decide) (fun _ => ?_) (fun h => absurd (by decide) h)
  refine lv_iconst (v := 0) hx hb dX4_sortOf_18 (by decide) ?_
  exact m_iret C hr hlk hM (⟨rfl, rfl, by rw [ef2, ef1]⟩) dX4_sortOf_19
set_option maxHeartbeats 4000000 in
set_option maxRecDepth 100000 in
theorem a_X4_readToken_0 (l : Launch) (D : va_G) (kc : Nat → ClassId) (b : Nat) (f : Nat → va_E) (h177 : f 177 = .inr (4, [.ref (b + 1), .ref (b + 10), .ref (b + 3), .int 0, .int 0, .int 0, .int 0])) (h1 : f 1 = .inr (10, [.ref (b + 2), .int 0])) : mMv l yX4_readToken cX4_readToken 2 3 0 0 D kc b 220 f [.ref (b + 177)] (fun u => u.1 = 220 ∧ u.2 = va_up f 177 (.inr (4, [.ref (b + 1), .ref (b + 10), .ref (b + 3), .int 0, .int 0, .int 0, .int 0]))) := by
  refine m_start (by decide) (Nat.le_of_ble_eq_true rfl) ?_
  intro p e s m below meth c C hr hlk hnm hM ls hl
  obtain ⟨hx, hb, hml, hown, hts, hE, hbs⟩ := id C
  have hl : lv_has ls 2 [(0, .ref (b + 177))] := hl
  refine lv_aload_n hx hb dX4_readToken_0 rfl (lv_at hl 0 rfl) ?_
  refine m_gov (m_runV calV_X4_skipBlanks wd_713 (a_X4_skipBlanks_0 l D kc b f h177 h1) C hM (by decide) h177 rfl hl.1 rfl rfl (Nat.le_of_ble_eq_true rfl) dX4_readToken_1 ⟨Nat.le_of_ble_eq_true rfl, Nat.le_of_ble_eq_true rfl⟩ ⟨Nat.le_of_ble_eq_true rfl, Nat.le_of_ble_eq_true rfl⟩) hM (fun n2 f1 H locs hp hM => ?_)
  have hp : n2 = 220 ∧ f1 = f := hp
  obtain ⟨rfl, ef1⟩ := hp
  refine lv_aload_n hx hb dX4_readToken_4 rfl (lv_at hl 0 rfl) ?_
  refine lv_aload_n hx hb dX4_readToken_5 rfl (lv_at hl 0 rfl) ?_
  have h177_1 : f1 177 = .inr (4, [.ref (b + 1), .ref (b + 10), .ref (b + 3), .int 0, .int 0, .int 0, .int 0]) := m_sm ef1 h177
  refine m_get fl_X4_27_X4 C hM (i := 177) (by decide) h177_1 (v := .int 0) rfl dX4_readToken_6 ?_
  refine m_put fl_X4_43_X4 C hM (i := 177) (by decide) h177_1 rfl rfl (Nat.le_of_ble_eq_true rfl) (fs1 := [.ref (b + 1), .ref (b + 10), .ref (b + 3), .int 0, .int 0, .int 0, .int 0]) rfl dX4_readToken_9 (fun H locs f2 ef2 hM => ?_)
  refine lv_aload_n hx hb dX4_readToken_12 rfl (lv_at hl 0 rfl) ?_
  refine lv_aload_n hx hb dX4_readToken_13 rfl (lv_at hl 0 rfl) ?_
  have h177_2 : f2 177 = .inr (4, [.ref (b + 1), .ref (b + 10), .ref (b + 3), .int 0, .int 0, .int 0, .int 0]) := m_eq ef2
  refine m_get fl_X4_9_X4 C hM (i := 177) (by decide) h177_2 (v := .ref (b + 1)) rfl dX4_readToken_14 ?_
  refine lv_aload_n hx hb dX4_readToken_17 rfl (lv_at hl 0 rfl) ?_
  refine m_get fl_X4_27_X4 C hM (i := 177) (by decide) h177_2 (v := .int 0) rfl dX4_readToken_18 ?_
  have h1_1 : f1 1 = .inr (10, [.ref (b + 2), .int 0]) := m_sm ef1 h1
  have h1_2 : f2 1 = .inr (10, [.ref (b + 2), .int 0]) := m_ne ef2 h1_1 (by decide)
  refine m_goi (m_runV calV_X10_byteAt wd_717 (a_X10_byteAt_0 l D kc b f2 h1_2) C hM (by decide) h1_2 rfl hl.1 rfl rfl (Nat.le_of_ble_eq_true rfl) dX4_readToken_21 ⟨Nat.le_of_ble_eq_true rfl, Nat.le_of_ble_eq_true rfl⟩ ⟨Nat.le_of_ble_eq_true rfl, Nat.le_of_ble_eq_true rfl⟩) hM (fun r3 n4 f3 H locs hp hM => ?_)
  have hp : r3 = (-1) ∧ n4 = 220 ∧ f3 = f2 := hp
  obtain ⟨rfl, rfl, ef3⟩ := hp
  refine m_goi (m_runS calS_X4_sortOf wd_719 (a_X4_sortOf_0 l D kc b f3) C hM hl.1 rfl rfl (Nat.le_of_ble_eq_true rfl) dX4_readToken_24 ⟨Nat.le_of_ble_eq_true rfl, Nat.le_of_ble_eq_true rfl⟩ ⟨Nat.le_of_ble_eq_true rfl, Nat.le_of_ble_eq_true rfl⟩) hM (fun r5 n6 f4 H locs hp hM => ?_)
  have hp : r5 = 0 ∧ n6 = 220 ∧ f4 = f3 := hp
  obtain ⟨rfl, rfl, ef4⟩ := hp
  have h177_3 : f3 177 = .inr (4, [.ref (b + 1), .ref (b + 10), .ref (b + 3), .int 0, .int 0, .int 0, .int 0]) := m_sm ef3 h177_2
  have h177_4 : f4 177 = .inr (4, [.ref (b + 1), .ref (b + 10), .ref (b + 3), .int 0, .int 0, .int 0, .int 0]) := m_sm ef4 h177_3
  refine m_put fl_X4_124_X4 C hM (i := 177) (by decide) h177_4 rfl rfl (Nat.le_of_ble_eq_true rfl) (fs1 := [.ref (b + 1), .ref (b + 10), .ref (b + 3), .int 0, .int 0, .int 0, .int 0]) rfl dX4_readToken_27 (fun H locs f5 ef5 hM => ?_)
  refine lv_aload_n hx hb dX4_readToken_30 rfl (lv_at hl 0 rfl) ?_
  have h177_5 : f5 177 = .inr (4, [.ref (b + 1), .ref (b + 10), .ref (b + 3), .int 0, .int 0, .int 0, .int 0]) := m_eq ef5
  refine m_get fl_X4_27_X4 C hM (i := 177) (by decide) h177_5 (v := .int 0) rfl dX4_readToken_31 ?_
  refine lv_aload_n hx hb dX4_readToken_34 rfl (lv_at hl 0 rfl) ?_
  refine m_get fl_X4_9_X4 C hM (i := 177) (by decide) h177_5 (v := .ref (b + 1)) rfl dX4_readToken_35 ?_
  have h1_3 : f3 1 = .inr (10, [.ref (b + 2), .int 0]) := m_sm ef3 h1_2
  have h1_4 : f4 1 = .inr (10, [.ref (b + 2), .int 0]) := m_sm ef4 h1_3
  have h1_5 : f5 1 = .inr (10, [.ref (b + 2), .int 0]) := m_ne ef5 h1_4 (by decide)
  refine m_getN fl_X4_46_X10 C hM (i := 1) (by decide) h1_5 (v := .int 0) rfl dX4_readToken_38 ?_
  refine lv_icmp_ge (tgt := 54) hx hb dX4_readToken_41 (by decide) (fun _ => ?_) (fun h => absurd (by decide) h)
  refine lv_aload_n hx hb dX4_readToken_54 rfl (lv_at hl 0 rfl) ?_
  refine m_get fl_X4_124_X4 C hM (i := 177) (by decide) h177_5 (v := .int 0) rfl dX4_readToken_55 ?_
  refine lv_if_ne (tgt := 62) hx hb dX4_readToken_58 (by decide) (fun h => absurd (by decide) h) (fun _ => ?_)
  exact m_vret C hr hlk hM (⟨rfl, by rw [ef5, ef4, ef3, ef2, ef1]; simp only [bx_uu]⟩) dX4_readToken_61
set_option maxHeartbeats 4000000 in
set_option maxRecDepth 100000 in
theorem a_X4_readMarks_0 (l : Launch) (D : va_G) (kc : Nat → ClassId) (b : Nat) (f : Nat → va_E) (h177 : f 177 = .inr (4, [.null, .null, .null, .int 0, .int 0, .int 0, .int 0])) (h3 : f 3 = .inr (1, [.int 0, .int (-1)])) (h10 : f 10 = .inr (5, [.ref (b + 11), .ref (b + 12), .ref (b + 13), .int 0, .int 0, .int 0])) (h1 : f 1 = .inr (10, [.ref (b + 2), .int 0])) : mMi l yX4_readMarks cX4_readMarks 6 .boolean 4 0 0 D kc b 220 f [.ref (b + 177), .ref (b + 1), .ref (b + 10), .int 0, .ref (b + 3)] (fun r u => r = 1 ∧ u.1 = 220 ∧ u.2 = va_up (va_up (va_up (va_up (va_up (va_up (va_up (va_up f 177 (.inr (4, [.ref (b + 1), .null, .null, .int 0, .int 0, .int 0, .int 0]))) 177 (.inr (4, [.ref (b + 1), .ref (b + 10), .null, .int 0, .int 0, .int 0, .int 0]))) 177 (.inr (4, [.ref (b + 1), .ref (b + 10), .ref (b + 3), .int 0, .int 0, .int 0, .int 0]))) 177 (.inr (4, [.ref (b + 1), .ref (b + 10), .ref (b + 3), .int 0, .int 0, .int 0, .int 0]))) 177 (.inr (4, [.ref (b + 1), .ref (b + 10), .ref (b + 3), .int 0, .int 0, .int 0, .int 0]))) 3 (.inr (1, [.int 0, .int (-1)]))) 10 (.inr (5, [.ref (b + 11), .ref (b + 12), .ref (b + 13), .int 0, .int 0, .int 0]))) 177 (.inr (4, [.ref (b + 1), .ref (b + 10), .ref (b + 3), .int 0, .int 0, .int 0, .int 0]))) := by
  refine m_start (by decide) (Nat.le_of_ble_eq_true rfl) ?_
  intro p e s m below meth c C hr hlk hnm hM ls hl
  obtain ⟨hx, hb, hml, hown, hts, hE, hbs⟩ := id C
  have hl : lv_has ls 6 [(0, .ref (b + 177)), (1, .ref (b + 1)), (2, .ref (b + 10)), (3, .int 0), (4, .ref (b + 3))] := hl
  refine lv_aload_n hx hb dX4_readMarks_0 rfl (lv_at hl 0 rfl) ?_
  refine lv_aload_n hx hb dX4_readMarks_1 rfl (lv_at hl 1 rfl) ?_
  refine m_put fl_X4_9_X4 C hM (i := 177) (by decide) h177 rfl rfl (Nat.le_of_ble_eq_true rfl) (fs1 := [.ref (b + 1), .null, .null, .int 0, .int 0, .int 0, .int 0]) rfl dX4_readMarks_2 (fun H locs f1 ef1 hM => ?_)
  refine lv_aload_n hx hb dX4_readMarks_5 rfl (lv_at hl 0 rfl) ?_
  refine lv_aload_n hx hb dX4_readMarks_6 rfl (lv_at hl 2 rfl) ?_
  have h177_1 : f1 177 = .inr (4, [.ref (b + 1), .null, .null, .int 0, .int 0, .int 0, .int 0]) := m_eq ef1
  refine m_put fl_X4_15_X4 C hM (i := 177) (by decide) h177_1 rfl rfl (Nat.le_of_ble_eq_true rfl) (fs1 := [.ref (b + 1), .ref (b + 10), .null, .int 0, .int 0, .int 0, .int 0]) rfl dX4_readMarks_7 (fun H locs f2 ef2 hM => ?_)
  refine lv_aload_n hx hb dX4_readMarks_10 rfl (lv_at hl 0 rfl) ?_
  refine lv_aload hx hb dX4_readMarks_11 (lv_at hl 4 rfl) ?_
  have h177_2 : f2 177 = .inr (4, [.ref (b + 1), .ref (b + 10), .null, .int 0, .int 0, .int 0, .int 0]) := m_eq ef2
  refine m_put fl_X4_19_X4 C hM (i := 177) (by decide) h177_2 rfl rfl (Nat.le_of_ble_eq_true rfl) (fs1 := [.ref (b + 1), .ref (b + 10), .ref (b + 3), .int 0, .int 0, .int 0, .int 0]) rfl dX4_readMarks_13 (fun H locs f3 ef3 hM => ?_)
  refine lv_aload_n hx hb dX4_readMarks_16 rfl (lv_at hl 0 rfl) ?_
  refine lv_iload_n hx hb dX4_readMarks_17 rfl (lv_at hl 3 rfl) ?_
  have h177_3 : f3 177 = .inr (4, [.ref (b + 1), .ref (b + 10), .ref (b + 3), .int 0, .int 0, .int 0, .int 0]) := m_eq ef3
  refine m_put fl_X4_23_X4 C hM (i := 177) (by decide) h177_3 rfl rfl (Nat.le_of_ble_eq_true rfl) (fs1 := [.ref (b + 1), .ref (b + 10), .ref (b + 3), .int 0, .int 0, .int 0, .int 0]) rfl dX4_readMarks_18 (fun H locs f4 ef4 hM => ?_)
  refine lv_aload_n hx hb dX4_readMarks_21 rfl (lv_at hl 0 rfl) ?_
  refine lv_iconst (v := 0) hx hb dX4_readMarks_22 (by decide) ?_
  have h177_4 : f4 177 = .inr (4, [.ref (b + 1), .ref (b + 10), .ref (b + 3), .int 0, .int 0, .int 0, .int 0]) := m_eq ef4
  refine m_put fl_X4_27_X4 C hM (i := 177) (by decide) h177_4 rfl rfl (Nat.le_of_ble_eq_true rfl) (fs1 := [.ref (b + 1), .ref (b + 10), .ref (b + 3), .int 0, .int 0, .int 0, .int 0]) rfl dX4_readMarks_23 (fun H locs f5 ef5 hM => ?_)
  refine lv_aload_n hx hb dX4_readMarks_26 rfl (lv_at hl 0 rfl) ?_
  have h177_5 : f5 177 = .inr (4, [.ref (b + 1), .ref (b + 10), .ref (b + 3), .int 0, .int 0, .int 0, .int 0]) := m_eq ef5
  refine m_get fl_X4_19_X4 C hM (i := 177) (by decide) h177_5 (v := .ref (b + 3)) rfl dX4_readMarks_27 ?_
  have h3_1 : f1 3 = .inr (1, [.int 0, .int (-1)]) := m_ne ef1 h3 (by decide)
  have h3_2 : f2 3 = .inr (1, [.int 0, .int (-1)]) := m_ne ef2 h3_1 (by decide)
  have h3_3 : f3 3 = .inr (1, [.int 0, .int (-1)]) := m_ne ef3 h3_2 (by decide)
  have h3_4 : f4 3 = .inr (1, [.int 0, .int (-1)]) := m_ne ef4 h3_3 (by decide)
  have h3_5 : f5 3 = .inr (1, [.int 0, .int (-1)]) := m_ne ef5 h3_4 (by decide)
  refine m_gov (m_runV calV_X1_clear wd_708 (a_X1_clear_0 l D kc b f5 h3_5) C hM (by decide) h3_5 rfl hl.1 rfl rfl (Nat.le_of_ble_eq_true rfl) dX4_readMarks_30 ⟨Nat.le_of_ble_eq_true rfl, Nat.le_of_ble_eq_true rfl⟩ ⟨Nat.le_of_ble_eq_true rfl, Nat.le_of_ble_eq_true rfl⟩) hM (fun n2 f6 H locs hp hM => ?_)
  have hp : n2 = 220 ∧ f6 = va_up f5 3 (.inr (1, [.int 0, .int (-1)])) := hp
  obtain ⟨rfl, ef6⟩ := hp
  refine lv_aload_n hx hb dX4_readMarks_33 rfl (lv_at hl 0 rfl) ?_
  have h177_6 : f6 177 = .inr (4, [.ref (b + 1), .ref (b + 10), .ref (b + 3), .int 0, .int 0, .int 0, .int 0]) := m_ne ef6 h177_5 (by decide)
  refine m_get fl_X4_15_X4 C hM (i := 177) (by decide) h177_6 (v := .ref (b + 10)) rfl dX4_readMarks_34 ?_
  refine lv_iconst (v := 0) hx hb dX4_readMarks_37 (by decide) ?_
  have h10_1 : f1 10 = .inr (5, [.ref (b + 11), .ref (b + 12), .ref (b + 13), .int 0, .int 0, .int 0]) := m_ne ef1 h10 (by decide)
  have h10_2 : f2 10 = .inr (5, [.ref (b + 11), .ref (b + 12), .ref (b + 13), .int 0, .int 0, .int 0]) := m_ne ef2 h10_1 (by decide)
  have h10_3 : f3 10 = .inr (5, [.ref (b + 11), .ref (b + 12), .ref (b + 13), .int 0, .int 0, .int 0]) := m_ne ef3 h10_2 (by decide)
  have h10_4 : f4 10 = .inr (5, [.ref (b + 11), .ref (b + 12), .ref (b + 13), .int 0, .int 0, .int 0]) := m_ne ef4 h10_3 (by decide)
  have h10_5 : f5 10 = .inr (5, [.ref (b + 11), .ref (b + 12), .ref (b + 13), .int 0, .int 0, .int 0]) := m_ne ef5 h10_4 (by decide)
  have h10_6 : f6 10 = .inr (5, [.ref (b + 11), .ref (b + 12), .ref (b + 13), .int 0, .int 0, .int 0]) := m_ne ef6 h10_5 (by decide)
  refine m_putN fl_X4_35_X5 C hM (i := 10) (by decide) h10_6 rfl rfl (Nat.le_of_ble_eq_true rfl) (fs1 := [.ref (b + 11), .ref (b + 12), .ref (b + 13), .int 0, .int 0, .int 0]) rfl dX4_readMarks_38 (fun H locs f7 ef7 hM => ?_)
  refine lv_iconst (v := 0) hx hb dX4_readMarks_41 (by decide) ?_
  refine lv_istore (lv' := [(5, .int 0), (0, .ref (b + 177)), (1, .ref (b + 1)), (2, .ref (b + 10)), (3, .int 0), (4, .ref (b + 3))]) hx hb dX4_readMarks_42 hl (by decide) rfl (fun ls hl => ?_)
  refine lv_iload hx hb dX4_readMarks_44 (lv_at hl 0 rfl) ?_
  refine lv_bipush (v := 40) hx hb dX4_readMarks_46 (by decide) ?_
  refine lv_icmp_gt (tgt := 99) hx hb dX4_readMarks_48 (by decide) (fun h => absurd h (by decide)) (fun _ => ?_)
  refine lv_aload_n hx hb dX4_readMarks_51 rfl (lv_at hl 1 rfl) ?_
  have h177_7 : f7 177 = .inr (4, [.ref (b + 1), .ref (b + 10), .ref (b + 3), .int 0, .int 0, .int 0, .int 0]) := m_ne ef7 h177_6 (by decide)
  have h1_1 : f1 1 = .inr (10, [.ref (b + 2), .int 0]) := m_ne ef1 h1 (by decide)
  have h1_2 : f2 1 = .inr (10, [.ref (b + 2), .int 0]) := m_ne ef2 h1_1 (by decide)
  have h1_3 : f3 1 = .inr (10, [.ref (b + 2), .int 0]) := m_ne ef3 h1_2 (by decide)
  have h1_4 : f4 1 = .inr (10, [.ref (b + 2), .int 0]) := m_ne ef4 h1_3 (by decide)
  have h1_5 : f5 1 = .inr (10, [.ref (b + 2), .int 0]) := m_ne ef5 h1_4 (by decide)
  have h1_6 : f6 1 = .inr (10, [.ref (b + 2), .int 0]) := m_ne ef6 h1_5 (by decide)
  have h1_7 : f7 1 = .inr (10, [.ref (b + 2), .int 0]) := m_ne ef7 h1_6 (by decide)
  refine m_gov (m_runV calV_X4_readToken wd_709 (a_X4_readToken_0 l D kc b f7 h177_7 h1_7) C hM (by decide) h177_7 rfl hl.1 rfl rfl (Nat.le_of_ble_eq_true rfl) dX4_readMarks_52 ⟨Nat.le_of_ble_eq_true rfl, Nat.le_of_ble_eq_true rfl⟩ ⟨Nat.le_of_ble_eq_true rfl, Nat.le_of_ble_eq_true rfl⟩) hM (fun n4 f8 H locs hp hM => ?_)
  have hp : n4 = 220 ∧ f8 = va_up f7 177 (.inr (4, [.ref (b + 1), .ref (b + 10), .ref (b + 3), .int 0, .int 0, .int 0, .int 0])) := hp
  obtain ⟨rfl, ef8⟩ := hp
  refine lv_aload_n hx hb dX4_readMarks_55 rfl (lv_at hl 1 rfl) ?_
  have h177_8 : f8 177 = .inr (4, [.ref (b + 1), .ref (b + 10), .ref (b + 3), .int 0, .int 0, .int 0, .int 0]) := m_eq ef8
  refine m_get fl_X4_43_X4 C hM (i := 177) (by decide) h177_8 (v := .int 0) rfl dX4_readMarks_56 ?_
  refine lv_aload_n hx hb dX4_readMarks_59 rfl (lv_at hl 1 rfl) ?_
  refine m_get fl_X4_9_X4 C hM (i := 177) (by decide) h177_8 (v := .ref (b + 1)) rfl dX4_readMarks_60 ?_
  have h1_8 : f8 1 = .inr (10, [.ref (b + 2), .int 0]) := m_ne ef8 h1_7 (by decide)
  refine m_getN fl_X4_46_X10 C hM (i := 1) (by decide) h1_8 (v := .int 0) rfl dX4_readMarks_63 ?_
  refine lv_icmp_lt (tgt := 71) hx hb dX4_readMarks_66 (by decide) (fun h => absurd h (by decide)) (fun _ => ?_)
  refine lv_iconst (v := 1) hx hb dX4_readMarks_69 (by decide) ?_
  exact m_zret C hr hlk hM rfl (⟨rfl, rfl, by rw [ef8, ef7, ef6, ef5, ef4, ef3, ef2, ef1]⟩) dX4_readMarks_70
set_option maxHeartbeats 4000000 in
set_option maxRecDepth 100000 in
theorem a_X5_accept_0 (l : Launch) (D : va_G) (kc : Nat → ClassId) (b : Nat) (f : Nat → va_E) (h10 : f 10 = .inr (5, [.ref (b + 11), .ref (b + 12), .ref (b + 13), .int 0, .int 0, .int 0])) : mMi l yX5_accept cX5_accept 5 .int 1 0 0 D kc b 220 f [.ref (b + 10)] (fun r u => r = 0 ∧ u.1 = 220 ∧ u.2 = va_up f 10 (.inr (5, [.ref (b + 11), .ref (b + 12), .ref (b + 13), .int 0, .int 0, .int 0]))) := by
  refine m_start (by decide) (Nat.le_of_ble_eq_true rfl) ?_
  intro p e s m below meth c C hr hlk hnm hM ls hl
  obtain ⟨hx, hb, hml, hown, hts, hE, hbs⟩ := id C
  have hl : lv_has ls 5 [(0, .ref (b + 10))] := hl
  refine lv_aload_n hx hb dX5_accept_0 rfl (lv_at hl 0 rfl) ?_
  refine m_get fl_X5_29_X5 C hM (i := 10) (by decide) h10 (v := .int 0) rfl dX5_accept_1 ?_
  refine lv_istore_n (lv' := [(1, .int 0), (0, .ref (b + 10))]) hx hb dX5_accept_4 rfl hl (by decide) rfl (fun ls hl => ?_)
  refine lv_aload_n hx hb dX5_accept_5 rfl (lv_at hl 1 rfl) ?_
  refine lv_dup hx hb dX5_accept_6 rfl ?_
  refine m_get fl_X5_25_X5 C hM (i := 10) (by decide) h10 (v := .int 0) rfl dX5_accept_7 ?_
  refine lv_aload_n hx hb dX5_accept_10 rfl (lv_at hl 1 rfl) ?_
  refine m_get fl_X5_29_X5 C hM (i := 10) (by decide) h10 (v := .int 0) rfl dX5_accept_11 ?_
  refine lv_iadd hx hb dX5_accept_14 ?_
  refine m_vi (y := 0) (by decide) ?_
  refine m_put fl_X5_25_X5 C hM (i := 10) (by decide) h10 rfl rfl (Nat.le_of_ble_eq_true rfl) (fs1 := [.ref (b + 11), .ref (b + 12), .ref (b + 13), .int 0, .int 0, .int 0]) rfl dX5_accept_15 (fun H locs f1 ef1 hM => ?_)
  refine lv_aload_n hx hb dX5_accept_18 rfl (lv_at hl 1 rfl) ?_
  refine lv_iconst (v := 0) hx hb dX5_accept_19 (by decide) ?_
  have h10_1 : f1 10 = .inr (5, [.ref (b + 11), .ref (b + 12), .ref (b + 13), .int 0, .int 0, .int 0]) := m_eq ef1
  refine m_put fl_X5_29_X5 C hM (i := 10) (by decide) h10_1 rfl rfl (Nat.le_of_ble_eq_true rfl) (fs1 := [.ref (b + 11), .ref (b + 12), .ref (b + 13), .int 0, .int 0, .int 0]) rfl dX5_accept_20 (fun H locs f2 ef2 hM => ?_)
  refine lv_aload_n hx hb dX5_accept_23 rfl (lv_at hl 1 rfl) ?_
  have h10_2 : f2 10 = .inr (5, [.ref (b + 11), .ref (b + 12), .ref (b + 13), .int 0, .int 0, .int 0]) := m_eq ef2
  refine m_get fl_X5_25_X5 C hM (i := 10) (by decide) h10_2 (v := .int 0) rfl dX5_accept_24 ?_
  refine lv_iload_n hx hb dX5_accept_27 rfl (lv_at hl 0 rfl) ?_
  refine lv_isub hx hb dX5_accept_28 ?_
  refine m_vi (y := 0) (by decide) ?_
  refine lv_istore_n (lv' := [(2, .int 0), (1, .int 0), (0, .ref (b + 10))]) hx hb dX5_accept_29 rfl hl (by decide) rfl (fun ls hl => ?_)
  refine lv_iload_n hx hb dX5_accept_30 rfl (lv_at hl 0 rfl) ?_
  refine lv_aload_n hx hb dX5_accept_31 rfl (lv_at hl 2 rfl) ?_
  refine m_get fl_X5_25_X5 C hM (i := 10) (by decide) h10_2 (v := .int 0) rfl dX5_accept_32 ?_
  refine lv_icmp_ge (tgt := 87) hx hb dX5_accept_35 (by decide) (fun _ => ?_) (fun h => absurd (by decide) h)
  refine lv_iload_n hx hb dX5_accept_87 rfl (lv_at hl 1 rfl) ?_
  exact m_iret C hr hlk hM (⟨rfl, rfl, by rw [ef2, ef1]; simp only [bx_uu]⟩) dX5_accept_88
set_option maxHeartbeats 4000000 in
set_option maxRecDepth 100000 in
theorem k_x_marks (l : Launch) (D : va_G) (kc : Nat → ClassId) (b : Nat) (f : Nat → va_E) (h0 : f 0 = .inr (11, [.ref (b + 1), .ref (b + 3), .ref (b + 4), .ref (b + 6), .ref (b + 8), .ref (b + 10), .ref (b + 174), .ref (b + 177), .ref (b + 178), .ref (b + 181), .ref (b + 183), .ref (b + 190)])) (h4 : f 4 = .inr (8, [.ref (b + 5), .int 0])) (h177 : f 177 = .inr (4, [.null, .null, .null, .int 0, .int 0, .int 0, .int 0])) (h3 : f 3 = .inr (1, [.int 0, .int (-1)])) (h10 : f 10 = .inr (5, [.ref (b + 11), .ref (b + 12), .ref (b + 13), .int 0, .int 0, .int 0])) (h1 : f 1 = .inr (10, [.ref (b + 2), .int 0])) (h178 : f 178 = .inr (7, [.ref (b + 179), .ref (b + 180), .int 0, .null, .null])) (h8 : f 8 = .inr (8, [.ref (b + 9), .int 0])) : mMi l yX11_marks cX11_marks 3 .int 5 0 0 D kc b 220 f [.ref (b + 0)] (fun r u => r = 0 ∧ u.1 = 220 ∧ ∀ j, 192 ≤ j → u.2 j = f j) := by
  refine m_start (by decide) (Nat.le_of_ble_eq_true rfl) ?_
  intro p e s m below meth c C hr hlk hnm hM ls hl
  obtain ⟨hx, hb, hml, hown, hts, hE, hbs⟩ := id C
  have hl : lv_has ls 3 [(0, .ref (b + 0))] := hl
  refine lv_aload_n hx hb dX11_marks_0 rfl (lv_at hl 0 rfl) ?_
  refine m_get fl_X11_55_X11 C hM (i := 0) (by decide) h0 (v := .ref (b + 177)) rfl dX11_marks_1 ?_
  refine lv_aload_n hx hb dX11_marks_4 rfl (lv_at hl 0 rfl) ?_
  refine m_get fl_X11_12_X11 C hM (i := 0) (by decide) h0 (v := .ref (b + 1)) rfl dX11_marks_5 ?_
  refine lv_aload_n hx hb dX11_marks_8 rfl (lv_at hl 0 rfl) ?_
  refine m_get fl_X11_41_X11 C hM (i := 0) (by decide) h0 (v := .ref (b + 10)) rfl dX11_marks_9 ?_
  refine lv_aload_n hx hb dX11_marks_12 rfl (lv_at hl 0 rfl) ?_
  refine m_get fl_X11_28_X11 C hM (i := 0) (by decide) h0 (v := .ref (b + 4)) rfl dX11_marks_13 ?_
  refine m_getN fl_X11_111_X8 C hM (i := 4) (by decide) h4 (v := .int 0) rfl dX11_marks_16 ?_
  refine lv_aload_n hx hb dX11_marks_19 rfl (lv_at hl 0 rfl) ?_
  refine m_get fl_X11_19_X11 C hM (i := 0) (by decide) h0 (v := .ref (b + 3)) rfl dX11_marks_20 ?_
  refine m_goi (m_runV calV_X4_readMarks wd_704 (a_X4_readMarks_0 l D kc b f h177 h3 h10 h1) C hM (by decide) h177 rfl hl.1 rfl rfl (Nat.le_of_ble_eq_true rfl) dX11_marks_23 ⟨Nat.le_of_ble_eq_true rfl, Nat.le_of_ble_eq_true rfl⟩ ⟨Nat.le_of_ble_eq_true rfl, Nat.le_of_ble_eq_true rfl⟩) hM (fun r1 n2 f1 H locs hp hM => ?_)
  have hp : r1 = 1 ∧ n2 = 220 ∧ f1 = va_up (va_up (va_up (va_up (va_up (va_up (va_up (va_up f 177 (.inr (4, [.ref (b + 1), .null, .null, .int 0, .int 0, .int 0, .int 0]))) 177 (.inr (4, [.ref (b + 1), .ref (b + 10), .null, .int 0, .int 0, .int 0, .int 0]))) 177 (.inr (4, [.ref (b + 1), .ref (b + 10), .ref (b + 3), .int 0, .int 0, .int 0, .int 0]))) 177 (.inr (4, [.ref (b + 1), .ref (b + 10), .ref (b + 3), .int 0, .int 0, .int 0, .int 0]))) 177 (.inr (4, [.ref (b + 1), .ref (b + 10), .ref (b + 3), .int 0, .int 0, .int 0, .int 0]))) 3 (.inr (1, [.int 0, .int (-1)]))) 10 (.inr (5, [.ref (b + 11), .ref (b + 12), .ref (b + 13), .int 0, .int 0, .int 0]))) 177 (.inr (4, [.ref (b + 1), .ref (b + 10), .ref (b + 3), .int 0, .int 0, .int 0, .int 0])) := hp
  obtain ⟨rfl, rfl, ef1⟩ := hp
  refine lv_istore_n (lv' := [(1, .int 1), (0, .ref (b + 0))]) hx hb dX11_marks_26 rfl hl (by decide) rfl (fun ls hl => ?_)
  refine lv_aload_n hx hb dX11_marks_27 rfl (lv_at hl 1 rfl) ?_
  have h0_1 : f1 0 = .inr (11, [.ref (b + 1), .ref (b + 3), .ref (b + 4), .ref (b + 6), .ref (b + 8), .ref (b + 10), .ref (b + 174), .ref (b + 177), .ref (b + 178), .ref (b + 181), .ref (b + 183), .ref (b + 190)]) := m_ne ef1 (m_ne rfl (m_ne rfl (m_ne rfl (m_ne rfl (m_ne rfl (m_ne rfl (m_ne rfl h0 (by decide)) (by decide)) (by decide)) (by decide)) (by decide)) (by decide)) (by decide)) (by decide)
  refine m_get fl_X11_12_X11 C hM (i := 0) (by decide) h0_1 (v := .ref (b + 1)) rfl dX11_marks_28 ?_
  refine lv_iconst (v := 0) hx hb dX11_marks_31 (by decide) ?_
  have h1_1 : f1 1 = .inr (10, [.ref (b + 2), .int 0]) := m_ne ef1 (m_ne rfl (m_ne rfl (m_ne rfl (m_ne rfl (m_ne rfl (m_ne rfl (m_ne rfl h1 (by decide)) (by decide)) (by decide)) (by decide)) (by decide)) (by decide)) (by decide)) (by decide)
  refine m_putN fl_X11_87_X10 C hM (i := 1) (by decide) h1_1 rfl rfl (Nat.le_of_ble_eq_true rfl) (fs1 := [.ref (b + 2), .int 0]) rfl dX11_marks_32 (fun H locs f2 ef2 hM => ?_)
  refine lv_iload_n hx hb dX11_marks_35 rfl (lv_at hl 0 rfl) ?_
  refine lv_if_ne (tgt := 41) hx hb dX11_marks_36 (by decide) (fun _ => ?_) (fun h => absurd h (by decide))
  refine lv_aload_n hx hb dX11_marks_41 rfl (lv_at hl 1 rfl) ?_
  have h0_2 : f2 0 = .inr (11, [.ref (b + 1), .ref (b + 3), .ref (b + 4), .ref (b + 6), .ref (b + 8), .ref (b + 10), .ref (b + 174), .ref (b + 177), .ref (b + 178), .ref (b + 181), .ref (b + 183), .ref (b + 190)]) := m_ne ef2 h0_1 (by decide)
  refine m_get fl_X11_41_X11 C hM (i := 0) (by decide) h0_2 (v := .ref (b + 10)) rfl dX11_marks_42 ?_
  have h10_1 : f1 10 = .inr (5, [.ref (b + 11), .ref (b + 12), .ref (b + 13), .int 0, .int 0, .int 0]) := m_ne ef1 (m_eq rfl) (by decide)
  have h10_2 : f2 10 = .inr (5, [.ref (b + 11), .ref (b + 12), .ref (b + 13), .int 0, .int 0, .int 0]) := m_ne ef2 h10_1 (by decide)
  refine m_goi (m_runV calV_X5_accept wd_828 (a_X5_accept_0 l D kc b f2 h10_2) C hM (by decide) h10_2 rfl hl.1 rfl rfl (Nat.le_of_ble_eq_true rfl) dX11_marks_45 ⟨Nat.le_of_ble_eq_true rfl, Nat.le_of_ble_eq_true rfl⟩ ⟨Nat.le_of_ble_eq_true rfl, Nat.le_of_ble_eq_true rfl⟩) hM (fun r3 n4 f3 H locs hp hM => ?_)
  have hp : r3 = 0 ∧ n4 = 220 ∧ f3 = va_up f2 10 (.inr (5, [.ref (b + 11), .ref (b + 12), .ref (b + 13), .int 0, .int 0, .int 0])) := hp
  obtain ⟨rfl, rfl, ef3⟩ := hp
  refine lv_istore_n (lv' := [(2, .int 0), (1, .int 1), (0, .ref (b + 0))]) hx hb dX11_marks_48 rfl hl (by decide) rfl (fun ls hl => ?_)
  refine lv_aload_n hx hb dX11_marks_49 rfl (lv_at hl 2 rfl) ?_
  have h0_3 : f3 0 = .inr (11, [.ref (b + 1), .ref (b + 3), .ref (b + 4), .ref (b + 6), .ref (b + 8), .ref (b + 10), .ref (b + 174), .ref (b + 177), .ref (b + 178), .ref (b + 181), .ref (b + 183), .ref (b + 190)]) := m_ne ef3 h0_2 (by decide)
  have h10_3 : f3 10 = .inr (5, [.ref (b + 11), .ref (b + 12), .ref (b + 13), .int 0, .int 0, .int 0]) := m_eq ef3
  have h178_1 : f1 178 = .inr (7, [.ref (b + 179), .ref (b + 180), .int 0, .null, .null]) := m_ne ef1 (m_ne rfl (m_ne rfl (m_ne rfl (m_ne rfl (m_ne rfl (m_ne rfl (m_ne rfl h178 (by decide)) (by decide)) (by decide)) (by decide)) (by decide)) (by decide)) (by decide)) (by decide)
  have h178_2 : f2 178 = .inr (7, [.ref (b + 179), .ref (b + 180), .int 0, .null, .null]) := m_ne ef2 h178_1 (by decide)
  have h178_3 : f3 178 = .inr (7, [.ref (b + 179), .ref (b + 180), .int 0, .null, .null]) := m_ne ef3 h178_2 (by decide)
  have h8_1 : f1 8 = .inr (8, [.ref (b + 9), .int 0]) := m_ne ef1 (m_ne rfl (m_ne rfl (m_ne rfl (m_ne rfl (m_ne rfl (m_ne rfl (m_ne rfl h8 (by decide)) (by decide)) (by decide)) (by decide)) (by decide)) (by decide)) (by decide)) (by decide)
  have h8_2 : f2 8 = .inr (8, [.ref (b + 9), .int 0]) := m_ne ef2 h8_1 (by decide)
  have h8_3 : f3 8 = .inr (8, [.ref (b + 9), .int 0]) := m_ne ef3 h8_2 (by decide)
  have h4_1 : f1 4 = .inr (8, [.ref (b + 5), .int 0]) := m_ne ef1 (m_ne rfl (m_ne rfl (m_ne rfl (m_ne rfl (m_ne rfl (m_ne rfl (m_ne rfl h4 (by decide)) (by decide)) (by decide)) (by decide)) (by decide)) (by decide)) (by decide)) (by decide)
  have h4_2 : f2 4 = .inr (8, [.ref (b + 5), .int 0]) := m_ne ef2 h4_1 (by decide)
  have h4_3 : f3 4 = .inr (8, [.ref (b + 5), .int 0]) := m_ne ef3 h4_2 (by decide)
  refine m_gov (m_runV calV_X11_settle wd_598 (a_X11_settle_0 l D kc b f3 h0_3 h10_3 h178_3 h8_3 h4_3) C hM (by decide) h0_3 rfl hl.1 rfl rfl (Nat.le_of_ble_eq_true rfl) dX11_marks_50 ⟨Nat.le_of_ble_eq_true rfl, Nat.le_of_ble_eq_true rfl⟩ ⟨Nat.le_of_ble_eq_true rfl, Nat.le_of_ble_eq_true rfl⟩) hM (fun n6 f4 H locs hp hM => ?_)
  have hp : n6 = 220 ∧ f4 = va_up (va_up (va_up (va_up (va_up f3 10 (.inr (5, [.ref (b + 11), .ref (b + 12), .ref (b + 13), .int 0, .int 0, .int 0]))) 178 (.inr (7, [.ref (b + 179), .ref (b + 180), .int 0, .null, .null]))) 178 (.inr (7, [.ref (b + 179), .ref (b + 180), .int 0, .ref (b + 4), .null]))) 178 (.inr (7, [.ref (b + 179), .ref (b + 180), .int 0, .ref (b + 4), .ref (b + 8)]))) 8 (.inr (8, [.ref (b + 9), .int 0])) := hp
  obtain ⟨rfl, ef4⟩ := hp
  refine lv_iload_n hx hb dX11_marks_53 rfl (lv_at hl 0 rfl) ?_
  have fr_1 : ∀ j, 192 ≤ j → f1 j = f j := fun j hj => m_ne ef1 (m_ne rfl (m_ne rfl (m_ne rfl (m_ne rfl (m_ne rfl (m_ne rfl (m_ne rfl (rfl) (by omega)) (by omega)) (by omega)) (by omega)) (by omega)) (by omega)) (by omega)) (by omega)
  have fr_2 : ∀ j, 192 ≤ j → f2 j = f j := fun j hj => m_ne ef2 (fr_1 j hj) (by omega)
  have fr_3 : ∀ j, 192 ≤ j → f3 j = f j := fun j hj => m_ne ef3 (fr_2 j hj) (by omega)
  have fr_4 : ∀ j, 192 ≤ j → f4 j = f j := fun j hj => m_ne ef4 (m_ne rfl (m_ne rfl (m_ne rfl (m_ne rfl (fr_3 j hj) (by omega)) (by omega)) (by omega)) (by omega)) (by omega)
  exact m_iret C hr hlk hM (⟨rfl, rfl, fr_4⟩) dX11_marks_54
