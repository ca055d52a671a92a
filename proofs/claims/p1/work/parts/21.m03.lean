set_option maxHeartbeats 4000000 in
set_option maxRecDepth 100000 in
theorem a_X13_judge_1 (l : Launch) (D : va_G) (kc : Nat → ClassId) (b : Nat) (f : Nat → va_E) (h192 : f 192 = .inr (13, [.ref (b + 193), .ref (b + 194), .ref (b + 195), .int 0, .int 0, .int 0, .ref (b + 196), .ref (b + 197), .int 0, .int 0, .int 0, .int 0, .int 0, .int 0, .int 0, .int (-1), .ref (b + 198), .ref (b + 199), .ref (b + 200), .ref (b + 201), .ref (b + 202), .ref (b + 203), .ref (b + 204), .ref (b + 205), .ref (b + 206), .ref (b + 207), .ref (b + 208), .int 0, .ref (b + 209), .ref (b + 210), .ref (b + 211), .ref (b + 212), .ref (b + 213), .ref (b + 214), .ref (b + 215), .int 0, .int 0, .int 0, .int 1, .ref (b + 216), .ref (b + 217), .ref (b + 218), .ref (b + 219)])) : mMv l yX13_judge cX13_judge 3 1 0 0 D kc b 220 f [.ref (b + 192)] (fun u => u.1 = 220 ∧ u.2 = f) := by
  refine m_start (by decide) (Nat.le_of_ble_eq_true rfl) ?_
  intro p e s m below meth c C hr hlk hnm hM ls hl
  obtain ⟨hx, hb, hml, hown, hts, hE, hbs⟩ := id C
  have hl : lv_has ls 3 [(0, .ref (b + 192))] := hl
  refine lv_iconst (v := 0) hx hb dX13_judge_0 (by decide) ?_
  refine lv_istore_n (lv' := [(1, .int 0), (0, .ref (b + 192))]) hx hb dX13_judge_1 rfl hl (by decide) rfl (fun ls hl => ?_)
  refine lv_iload_n hx hb dX13_judge_2 rfl (lv_at hl 0 rfl) ?_
  refine lv_aload_n hx hb dX13_judge_3 rfl (lv_at hl 1 rfl) ?_
  refine m_get fl_X13_153_X13 C hM (i := 192) (by decide) h192 (v := .int 0) rfl dX13_judge_4 ?_
  refine lv_icmp_ge (tgt := 144) hx hb dX13_judge_7 (by decide) (fun _ => ?_) (fun h => absurd (by decide) h)
  refine lv_iconst (v := 0) hx hb dX13_judge_144 (by decide) ?_
  refine lv_istore_n (lv' := [(1, .int 0), (0, .ref (b + 192))]) hx hb dX13_judge_145 rfl hl (by decide) rfl (fun ls hl => ?_)
  refine lv_iload_n hx hb dX13_judge_146 rfl (lv_at hl 0 rfl) ?_
  refine lv_bipush (v := 10) hx hb dX13_judge_147 (by decide) ?_
  refine lv_icmp_ge (tgt := 204) hx hb dX13_judge_149 (by decide) (fun h => absurd h (by decide)) (fun _ => ?_)
  refine lv_iconst (v := 0) hx hb dX13_judge_152 (by decide) ?_
  refine lv_istore_n (lv' := [(2, .int 0), (1, .int 0), (0, .ref (b + 192))]) hx hb dX13_judge_153 rfl hl (by decide) rfl (fun ls hl => ?_)
  refine lv_iload_n hx hb dX13_judge_154 rfl (lv_at hl 0 rfl) ?_
  refine lv_aload_n hx hb dX13_judge_155 rfl (lv_at hl 2 rfl) ?_
  refine m_get fl_X13_153_X13 C hM (i := 192) (by decide) h192 (v := .int 0) rfl dX13_judge_156 ?_
  refine lv_icmp_ge (tgt := 198) hx hb dX13_judge_159 (by decide) (fun _ => ?_) (fun h => absurd (by decide) h)
  refine lv_iinc (v := 1) (lv' := [(1, .int 1), (2, .int 0), (0, .ref (b + 192))]) hx hb dX13_judge_198 hl (k := 1) rfl (by decide) (by decide) rfl (fun ls hl => ?_)
  refine lv_goto (tgt := 146) hx hb dX13_judge_201 (by decide) ?_
  refine lv_iload_n hx hb dX13_judge_146 rfl (lv_at hl 0 rfl) ?_
  refine lv_bipush (v := 10) hx hb dX13_judge_147 (by decide) ?_
  refine lv_icmp_ge (tgt := 204) hx hb dX13_judge_149 (by decide) (fun h => absurd h (by decide)) (fun _ => ?_)
  refine lv_iconst (v := 0) hx hb dX13_judge_152 (by decide) ?_
  refine lv_istore_n (lv' := [(2, .int 0), (1, .int 1), (0, .ref (b + 192))]) hx hb dX13_judge_153 rfl hl (by decide) rfl (fun ls hl => ?_)
  refine lv_iload_n hx hb dX13_judge_154 rfl (lv_at hl 0 rfl) ?_
  refine lv_aload_n hx hb dX13_judge_155 rfl (lv_at hl 2 rfl) ?_
  refine m_get fl_X13_153_X13 C hM (i := 192) (by decide) h192 (v := .int 0) rfl dX13_judge_156 ?_
  refine lv_icmp_ge (tgt := 198) hx hb dX13_judge_159 (by decide) (fun _ => ?_) (fun h => absurd (by decide) h)
  refine lv_iinc (v := 2) (lv' := [(1, .int 2), (2, .int 0), (0, .ref (b + 192))]) hx hb dX13_judge_198 hl (k := 1) rfl (by decide) (by decide) rfl (fun ls hl => ?_)
  refine lv_goto (tgt := 146) hx hb dX13_judge_201 (by decide) ?_
  refine lv_iload_n hx hb dX13_judge_146 rfl (lv_at hl 0 rfl) ?_
  refine lv_bipush (v := 10) hx hb dX13_judge_147 (by decide) ?_
  refine lv_icmp_ge (tgt := 204) hx hb dX13_judge_149 (by decide) (fun h => absurd h (by decide)) (fun _ => ?_)
  refine lv_iconst (v := 0) hx hb dX13_judge_152 (by decide) ?_
  refine lv_istore_n (lv' := [(2, .int 0), (1, .int 2), (0, .ref (b + 192))]) hx hb dX13_judge_153 rfl hl (by decide) rfl (fun ls hl => ?_)
  refine lv_iload_n hx hb dX13_judge_154 rfl (lv_at hl 0 rfl) ?_
  refine lv_aload_n hx hb dX13_judge_155 rfl (lv_at hl 2 rfl) ?_
  refine m_get fl_X13_153_X13 C hM (i := 192) (by decide) h192 (v := .int 0) rfl dX13_judge_156 ?_
  refine lv_icmp_ge (tgt := 198) hx hb dX13_judge_159 (by decide) (fun _ => ?_) (fun h => absurd (by decide) h)
  refine lv_iinc (v := 3) (lv' := [(1, .int 3), (2, .int 0), (0, .ref (b + 192))]) hx hb dX13_judge_198 hl (k := 1) rfl (by decide) (by decide) rfl (fun ls hl => ?_)
  refine lv_goto (tgt := 146) hx hb dX13_judge_201 (by decide) ?_
  refine lv_iload_n hx hb dX13_judge_146 rfl (lv_at hl 0 rfl) ?_
  refine lv_bipush (v := 10) hx hb dX13_judge_147 (by decide) ?_
  refine lv_icmp_ge (tgt := 204) hx hb dX13_judge_149 (by decide) (fun h => absurd h (by decide)) (fun _ => ?_)
  refine lv_iconst (v := 0) hx hb dX13_judge_152 (by decide) ?_
  refine lv_istore_n (lv' := [(2, .int 0), (1, .int 3), (0, .ref (b + 192))]) hx hb dX13_judge_153 rfl hl (by decide) rfl (fun ls hl => ?_)
  refine lv_iload_n hx hb dX13_judge_154 rfl (lv_at hl 0 rfl) ?_
  refine lv_aload_n hx hb dX13_judge_155 rfl (lv_at hl 2 rfl) ?_
  refine m_get fl_X13_153_X13 C hM (i := 192) (by decide) h192 (v := .int 0) rfl dX13_judge_156 ?_
  refine lv_icmp_ge (tgt := 198) hx hb dX13_judge_159 (by decide) (fun _ => ?_) (fun h => absurd (by decide) h)
  refine lv_iinc (v := 4) (lv' := [(1, .int 4), (2, .int 0), (0, .ref (b + 192))]) hx hb dX13_judge_198 hl (k := 1) rfl (by decide) (by decide) rfl (fun ls hl => ?_)
  refine lv_goto (tgt := 146) hx hb dX13_judge_201 (by decide) ?_
  refine lv_iload_n hx hb dX13_judge_146 rfl (lv_at hl 0 rfl) ?_
  refine lv_bipush (v := 10) hx hb dX13_judge_147 (by decide) ?_
  refine lv_icmp_ge (tgt := 204) hx hb dX13_judge_149 (by decide) (fun h => absurd h (by decide)) (fun _ => ?_)
  refine lv_iconst (v := 0) hx hb dX13_judge_152 (by decide) ?_
  refine lv_istore_n (lv' := [(2, .int 0), (1, .int 4), (0, .ref (b + 192))]) hx hb dX13_judge_153 rfl hl (by decide) rfl (fun ls hl => ?_)
  refine lv_iload_n hx hb dX13_judge_154 rfl (lv_at hl 0 rfl) ?_
  refine lv_aload_n hx hb dX13_judge_155 rfl (lv_at hl 2 rfl) ?_
  refine m_get fl_X13_153_X13 C hM (i := 192) (by decide) h192 (v := .int 0) rfl dX13_judge_156 ?_
  refine lv_icmp_ge (tgt := 198) hx hb dX13_judge_159 (by decide) (fun _ => ?_) (fun h => absurd (by decide) h)
  refine lv_iinc (v := 5) (lv' := [(1, .int 5), (2, .int 0), (0, .ref (b + 192))]) hx hb dX13_judge_198 hl (k := 1) rfl (by decide) (by decide) rfl (fun ls hl => ?_)
  refine lv_goto (tgt := 146) hx hb dX13_judge_201 (by decide) ?_
  refine lv_iload_n hx hb dX13_judge_146 rfl (lv_at hl 0 rfl) ?_
  refine lv_bipush (v := 10) hx hb dX13_judge_147 (by decide) ?_
  refine lv_icmp_ge (tgt := 204) hx hb dX13_judge_149 (by decide) (fun h => absurd h (by decide)) (fun _ => ?_)
  refine lv_iconst (v := 0) hx hb dX13_judge_152 (by decide) ?_
  refine lv_istore_n (lv' := [(2, .int 0), (1, .int 5), (0, .ref (b + 192))]) hx hb dX13_judge_153 rfl hl (by decide) rfl (fun ls hl => ?_)
  refine lv_iload_n hx hb dX13_judge_154 rfl (lv_at hl 0 rfl) ?_
  refine lv_aload_n hx hb dX13_judge_155 rfl (lv_at hl 2 rfl) ?_
  refine m_get fl_X13_153_X13 C hM (i := 192) (by decide) h192 (v := .int 0) rfl dX13_judge_156 ?_
  refine lv_icmp_ge (tgt := 198) hx hb dX13_judge_159 (by decide) (fun _ => ?_) (fun h => absurd (by decide) h)
  refine lv_iinc (v := 6) (lv' := [(1, .int 6), (2, .int 0), (0, .ref (b + 192))]) hx hb dX13_judge_198 hl (k := 1) rfl (by decide) (by decide) rfl (fun ls hl => ?_)
  refine lv_goto (tgt := 146) hx hb dX13_judge_201 (by decide) ?_
  refine lv_iload_n hx hb dX13_judge_146 rfl (lv_at hl 0 rfl) ?_
  refine lv_bipush (v := 10) hx hb dX13_judge_147 (by decide) ?_
  refine lv_icmp_ge (tgt := 204) hx hb dX13_judge_149 (by decide) (fun h => absurd h (by decide)) (fun _ => ?_)
  refine lv_iconst (v := 0) hx hb dX13_judge_152 (by decide) ?_
  refine lv_istore_n (lv' := [(2, .int 0), (1, .int 6), (0, .ref (b + 192))]) hx hb dX13_judge_153 rfl hl (by decide) rfl (fun ls hl => ?_)
  refine lv_iload_n hx hb dX13_judge_154 rfl (lv_at hl 0 rfl) ?_
  refine lv_aload_n hx hb dX13_judge_155 rfl (lv_at hl 2 rfl) ?_
  refine m_get fl_X13_153_X13 C hM (i := 192) (by decide) h192 (v := .int 0) rfl dX13_judge_156 ?_
  refine lv_icmp_ge (tgt := 198) hx hb dX13_judge_159 (by decide) (fun _ => ?_) (fun h => absurd (by decide) h)
  refine lv_iinc (v := 7) (lv' := [(1, .int 7), (2, .int 0), (0, .ref (b + 192))]) hx hb dX13_judge_198 hl (k := 1) rfl (by decide) (by decide) rfl (fun ls hl => ?_)
  refine lv_goto (tgt := 146) hx hb dX13_judge_201 (by decide) ?_
  refine lv_iload_n hx hb dX13_judge_146 rfl (lv_at hl 0 rfl) ?_
  refine lv_bipush (v := 10) hx hb dX13_judge_147 (by decide) ?_
  refine lv_icmp_ge (tgt := 204) hx hb dX13_judge_149 (by decide) (fun h => absurd h (by decide)) (fun _ => ?_)
  refine lv_iconst (v := 0) hx hb dX13_judge_152 (by decide) ?_
  refine lv_istore_n (lv' := [(2, .int 0), (1, .int 7), (0, .ref (b + 192))]) hx hb dX13_judge_153 rfl hl (by decide) rfl (fun ls hl => ?_)
  refine lv_iload_n hx hb dX13_judge_154 rfl (lv_at hl 0 rfl) ?_
  refine lv_aload_n hx hb dX13_judge_155 rfl (lv_at hl 2 rfl) ?_
  refine m_get fl_X13_153_X13 C hM (i := 192) (by decide) h192 (v := .int 0) rfl dX13_judge_156 ?_
  refine lv_icmp_ge (tgt := 198) hx hb dX13_judge_159 (by decide) (fun _ => ?_) (fun h => absurd (by decide) h)
  refine lv_iinc (v := 8) (lv' := [(1, .int 8), (2, .int 0), (0, .ref (b + 192))]) hx hb dX13_judge_198 hl (k := 1) rfl (by decide) (by decide) rfl (fun ls hl => ?_)
  refine lv_goto (tgt := 146) hx hb dX13_judge_201 (by decide) ?_
  refine lv_iload_n hx hb dX13_judge_146 rfl (lv_at hl 0 rfl) ?_
  refine lv_bipush (v := 10) hx hb dX13_judge_147 (by decide) ?_
  refine lv_icmp_ge (tgt := 204) hx hb dX13_judge_149 (by decide) (fun h => absurd h (by decide)) (fun _ => ?_)
  refine lv_iconst (v := 0) hx hb dX13_judge_152 (by decide) ?_
  refine lv_istore_n (lv' := [(2, .int 0), (1, .int 8), (0, .ref (b + 192))]) hx hb dX13_judge_153 rfl hl (by decide) rfl (fun ls hl => ?_)
  refine lv_iload_n hx hb dX13_judge_154 rfl (lv_at hl 0 rfl) ?_
  refine lv_aload_n hx hb dX13_judge_155 rfl (lv_at hl 2 rfl) ?_
  refine m_get fl_X13_153_X13 C hM (i := 192) (by decide) h192 (v := .int 0) rfl dX13_judge_156 ?_
  refine lv_icmp_ge (tgt := 198) hx hb dX13_judge_159 (by decide) (fun _ => ?_) (fun h => absurd (by decide) h)
  refine lv_iinc (v := 9) (lv' := [(1, .int 9), (2, .int 0), (0, .ref (b + 192))]) hx hb dX13_judge_198 hl (k := 1) rfl (by decide) (by decide) rfl (fun ls hl => ?_)
  refine lv_goto (tgt := 146) hx hb dX13_judge_201 (by decide) ?_
  refine lv_iload_n hx hb dX13_judge_146 rfl (lv_at hl 0 rfl) ?_
  refine lv_bipush (v := 10) hx hb dX13_judge_147 (by decide) ?_
  refine lv_icmp_ge (tgt := 204) hx hb dX13_judge_149 (by decide) (fun h => absurd h (by decide)) (fun _ => ?_)
  refine lv_iconst (v := 0) hx hb dX13_judge_152 (by decide) ?_
  refine lv_istore_n (lv' := [(2, .int 0), (1, .int 9), (0, .ref (b + 192))]) hx hb dX13_judge_153 rfl hl (by decide) rfl (fun ls hl => ?_)
  refine lv_iload_n hx hb dX13_judge_154 rfl (lv_at hl 0 rfl) ?_
  refine lv_aload_n hx hb dX13_judge_155 rfl (lv_at hl 2 rfl) ?_
  refine m_get fl_X13_153_X13 C hM (i := 192) (by decide) h192 (v := .int 0) rfl dX13_judge_156 ?_
  refine lv_icmp_ge (tgt := 198) hx hb dX13_judge_159 (by decide) (fun _ => ?_) (fun h => absurd (by decide) h)
  refine lv_iinc (v := 10) (lv' := [(1, .int 10), (2, .int 0), (0, .ref (b + 192))]) hx hb dX13_judge_198 hl (k := 1) rfl (by decide) (by decide) rfl (fun ls hl => ?_)
  refine lv_goto (tgt := 146) hx hb dX13_judge_201 (by decide) ?_
  refine lv_iload_n hx hb dX13_judge_146 rfl (lv_at hl 0 rfl) ?_
  refine lv_bipush (v := 10) hx hb dX13_judge_147 (by decide) ?_
  refine lv_icmp_ge (tgt := 204) hx hb dX13_judge_149 (by decide) (fun _ => ?_) (fun h => absurd (by decide) h)
  exact m_vret C hr hlk hM (⟨rfl, rfl⟩) dX13_judge_204
set_option maxHeartbeats 4000000 in
set_option maxRecDepth 100000 in
theorem a_X13_use_1 (l : Launch) (D : va_G) (kc : Nat → ClassId) (b : Nat) (f : Nat → va_E) (h192 : f 192 = .inr (13, [.ref (b + 193), .ref (b + 194), .ref (b + 195), .int 0, .int 0, .int 0, .ref (b + 196), .ref (b + 197), .int 0, .int 0, .int 0, .int 0, .int 0, .int 0, .int 0, .int (-1), .ref (b + 198), .ref (b + 199), .ref (b + 200), .ref (b + 201), .ref (b + 202), .ref (b + 203), .ref (b + 204), .ref (b + 205), .ref (b + 206), .ref (b + 207), .ref (b + 208), .int 0, .ref (b + 209), .ref (b + 210), .ref (b + 211), .ref (b + 212), .ref (b + 213), .ref (b + 214), .ref (b + 215), .int 0, .int 0, .int 0, .int 1, .ref (b + 216), .ref (b + 217), .ref (b + 218), .ref (b + 219)])) : mMv l yX13_use cX13_use 4 2 0 0 D kc b 220 f [.ref (b + 192), .int 0] (fun u => u.1 = 220 ∧ u.2 = f) := by
  refine m_start (by decide) (Nat.le_of_ble_eq_true rfl) ?_
  intro p e s m below meth c C hr hlk hnm hM ls hl
  obtain ⟨hx, hb, hml, hown, hts, hE, hbs⟩ := id C
  have hl : lv_has ls 4 [(0, .ref (b + 192)), (1, .int 0)] := hl
  refine lv_aload_n hx hb dX13_use_0 rfl (lv_at hl 0 rfl) ?_
  refine m_gov (m_runV calV_X13_judge wd_1352 (a_X13_judge_1 l D kc b f h192) C hM (by decide) h192 rfl hl.1 rfl rfl (Nat.le_of_ble_eq_true rfl) dX13_use_1 ⟨Nat.le_of_ble_eq_true rfl, Nat.le_of_ble_eq_true rfl⟩ ⟨Nat.le_of_ble_eq_true rfl, Nat.le_of_ble_eq_true rfl⟩) hM (fun n2 f1 H locs hp hM => ?_)
  have hp : n2 = 220 ∧ f1 = f := hp
  obtain ⟨rfl, ef1⟩ := hp
  refine lv_iconst (v := 0) hx hb dX13_use_4 (by decide) ?_
  refine lv_istore_n (lv' := [(2, .int 0), (0, .ref (b + 192)), (1, .int 0)]) hx hb dX13_use_5 rfl hl (by decide) rfl (fun ls hl => ?_)
  refine lv_iconst (v := 0) hx hb dX13_use_6 (by decide) ?_
  refine lv_istore_n (lv' := [(3, .int 0), (2, .int 0), (0, .ref (b + 192)), (1, .int 0)]) hx hb dX13_use_7 rfl hl (by decide) rfl (fun ls hl => ?_)
  refine lv_iload_n hx hb dX13_use_8 rfl (lv_at hl 0 rfl) ?_
  refine lv_aload_n hx hb dX13_use_9 rfl (lv_at hl 2 rfl) ?_
  have h192_1 : f1 192 = .inr (13, [.ref (b + 193), .ref (b + 194), .ref (b + 195), .int 0, .int 0, .int 0, .ref (b + 196), .ref (b + 197), .int 0, .int 0, .int 0, .int 0, .int 0, .int 0, .int 0, .int (-1), .ref (b + 198), .ref (b + 199), .ref (b + 200), .ref (b + 201), .ref (b + 202), .ref (b + 203), .ref (b + 204), .ref (b + 205), .ref (b + 206), .ref (b + 207), .ref (b + 208), .int 0, .ref (b + 209), .ref (b + 210), .ref (b + 211), .ref (b + 212), .ref (b + 213), .ref (b + 214), .ref (b + 215), .int 0, .int 0, .int 0, .int 1, .ref (b + 216), .ref (b + 217), .ref (b + 218), .ref (b + 219)]) := m_sm ef1 h192
  refine m_get fl_X13_153_X13 C hM (i := 192) (by decide) h192_1 (v := .int 0) rfl dX13_use_10 ?_
  refine lv_icmp_ge (tgt := 79) hx hb dX13_use_13 (by decide) (fun _ => ?_) (fun h => absurd (by decide) h)
  exact m_vret C hr hlk hM (⟨rfl, by rw [ef1]⟩) dX13_use_79
set_option maxHeartbeats 4000000 in
set_option maxRecDepth 100000 in
theorem a_X13_layGap_1 (l : Launch) (D : va_G) (kc : Nat → ClassId) (b : Nat) (f : Nat → va_E) (h192 : f 192 = .inr (13, [.ref (b + 193), .ref (b + 194), .ref (b + 195), .int 0, .int 0, .int 0, .ref (b + 196), .ref (b + 197), .int 0, .int 0, .int 0, .int 0, .int 0, .int 0, .int 0, .int (-1), .ref (b + 198), .ref (b + 199), .ref (b + 200), .ref (b + 201), .ref (b + 202), .ref (b + 203), .ref (b + 204), .ref (b + 205), .ref (b + 206), .ref (b + 207), .ref (b + 208), .int 0, .ref (b + 209), .ref (b + 210), .ref (b + 211), .ref (b + 212), .ref (b + 213), .ref (b + 214), .ref (b + 215), .int 0, .int 0, .int 0, .int 1, .ref (b + 216), .ref (b + 217), .ref (b + 218), .ref (b + 219)])) : mMv l yX13_layGap cX13_layGap 3 1 0 0 D kc b 220 f [.ref (b + 192), .int 0] (fun u => u.1 = 220 ∧ u.2 = f) := by
  refine m_start (by decide) (Nat.le_of_ble_eq_true rfl) ?_
  intro p e s m below meth c C hr hlk hnm hM ls hl
  obtain ⟨hx, hb, hml, hown, hts, hE, hbs⟩ := id C
  have hl : lv_has ls 3 [(0, .ref (b + 192)), (1, .int 0)] := hl
  refine lv_iconst (v := 0) hx hb dX13_layGap_0 (by decide) ?_
  refine lv_istore_n (lv' := [(2, .int 0), (0, .ref (b + 192)), (1, .int 0)]) hx hb dX13_layGap_1 rfl hl (by decide) rfl (fun ls hl => ?_)
  refine lv_iload_n hx hb dX13_layGap_2 rfl (lv_at hl 0 rfl) ?_
  refine lv_aload_n hx hb dX13_layGap_3 rfl (lv_at hl 1 rfl) ?_
  refine m_get fl_X13_153_X13 C hM (i := 192) (by decide) h192 (v := .int 0) rfl dX13_layGap_4 ?_
  refine lv_icmp_ge (tgt := 72) hx hb dX13_layGap_7 (by decide) (fun _ => ?_) (fun h => absurd (by decide) h)
  exact m_vret C hr hlk hM (⟨rfl, rfl⟩) dX13_layGap_72
set_option maxHeartbeats 4000000 in
set_option maxRecDepth 100000 in
theorem a_X13_make_1 (l : Launch) (D : va_G) (kc : Nat → ClassId) (b : Nat) (f : Nat → va_E) (h192 : f 192 = .inr (13, [.ref (b + 193), .ref (b + 194), .ref (b + 195), .int 0, .int 0, .int 0, .ref (b + 196), .ref (b + 197), .int 0, .int 0, .int 0, .int 0, .int 0, .int 0, .int 0, .int (-1), .ref (b + 198), .ref (b + 199), .ref (b + 200), .ref (b + 201), .ref (b + 202), .ref (b + 203), .ref (b + 204), .ref (b + 205), .ref (b + 206), .ref (b + 207), .ref (b + 208), .int 0, .ref (b + 209), .ref (b + 210), .ref (b + 211), .ref (b + 212), .ref (b + 213), .ref (b + 214), .ref (b + 215), .int 0, .int 0, .int 0, .int 1, .ref (b + 216), .ref (b + 217), .ref (b + 218), .ref (b + 219)])) : mMv l yX13_make cX13_make 2 3 0 0 D kc b 220 f [.ref (b + 192), .int 0] (fun u => u.1 = 220 ∧ u.2 = va_up f 192 (.inr (13, [.ref (b + 193), .ref (b + 194), .ref (b + 195), .int 0, .int 0, .int 0, .ref (b + 196), .ref (b + 197), .int 0, .int 0, .int 0, .int 0, .int 0, .int 0, .int 0, .int (-1), .ref (b + 198), .ref (b + 199), .ref (b + 200), .ref (b + 201), .ref (b + 202), .ref (b + 203), .ref (b + 204), .ref (b + 205), .ref (b + 206), .ref (b + 207), .ref (b + 208), .int 0, .ref (b + 209), .ref (b + 210), .ref (b + 211), .ref (b + 212), .ref (b + 213), .ref (b + 214), .ref (b + 215), .int 0, .int 0, .int 0, .int 1, .ref (b + 216), .ref (b + 217), .ref (b + 218), .ref (b + 219)]))) := by
  refine m_start (by decide) (Nat.le_of_ble_eq_true rfl) ?_
  intro p e s m below meth c C hr hlk hnm hM ls hl
  obtain ⟨hx, hb, hml, hown, hts, hE, hbs⟩ := id C
  have hl : lv_has ls 2 [(0, .ref (b + 192)), (1, .int 0)] := hl
  refine lv_aload_n hx hb dX13_make_0 rfl (lv_at hl 0 rfl) ?_
  refine lv_iload_n hx hb dX13_make_1 rfl (lv_at hl 1 rfl) ?_
  refine m_gov (m_runV calV_X13_use wd_1384 (a_X13_use_1 l D kc b f h192) C hM (by decide) h192 rfl hl.1 rfl rfl (Nat.le_of_ble_eq_true rfl) dX13_make_2 ⟨Nat.le_of_ble_eq_true rfl, Nat.le_of_ble_eq_true rfl⟩ ⟨Nat.le_of_ble_eq_true rfl, Nat.le_of_ble_eq_true rfl⟩) hM (fun n2 f1 H locs hp hM => ?_)
  have hp : n2 = 220 ∧ f1 = f := hp
  obtain ⟨rfl, ef1⟩ := hp
  refine lv_aload_n hx hb dX13_make_5 rfl (lv_at hl 0 rfl) ?_
  refine lv_iconst (v := 0) hx hb dX13_make_6 (by decide) ?_
  have h192_1 : f1 192 = .inr (13, [.ref (b + 193), .ref (b + 194), .ref (b + 195), .int 0, .int 0, .int 0, .ref (b + 196), .ref (b + 197), .int 0, .int 0, .int 0, .int 0, .int 0, .int 0, .int 0, .int (-1), .ref (b + 198), .ref (b + 199), .ref (b + 200), .ref (b + 201), .ref (b + 202), .ref (b + 203), .ref (b + 204), .ref (b + 205), .ref (b + 206), .ref (b + 207), .ref (b + 208), .int 0, .ref (b + 209), .ref (b + 210), .ref (b + 211), .ref (b + 212), .ref (b + 213), .ref (b + 214), .ref (b + 215), .int 0, .int 0, .int 0, .int 1, .ref (b + 216), .ref (b + 217), .ref (b + 218), .ref (b + 219)]) := m_sm ef1 h192
  refine m_put fl_X13_260_X13 C hM (i := 192) (by decide) h192_1 rfl rfl (Nat.le_of_ble_eq_true rfl) (fs1 := [.ref (b + 193), .ref (b + 194), .ref (b + 195), .int 0, .int 0, .int 0, .ref (b + 196), .ref (b + 197), .int 0, .int 0, .int 0, .int 0, .int 0, .int 0, .int 0, .int (-1), .ref (b + 198), .ref (b + 199), .ref (b + 200), .ref (b + 201), .ref (b + 202), .ref (b + 203), .ref (b + 204), .ref (b + 205), .ref (b + 206), .ref (b + 207), .ref (b + 208), .int 0, .ref (b + 209), .ref (b + 210), .ref (b + 211), .ref (b + 212), .ref (b + 213), .ref (b + 214), .ref (b + 215), .int 0, .int 0, .int 0, .int 1, .ref (b + 216), .ref (b + 217), .ref (b + 218), .ref (b + 219)]) rfl dX13_make_7 (fun H locs f2 ef2 hM => ?_)
  refine lv_aload_n hx hb dX13_make_10 rfl (lv_at hl 0 rfl) ?_
  have h192_2 : f2 192 = .inr (13, [.ref (b + 193), .ref (b + 194), .ref (b + 195), .int 0, .int 0, .int 0, .ref (b + 196), .ref (b + 197), .int 0, .int 0, .int 0, .int 0, .int 0, .int 0, .int 0, .int (-1), .ref (b + 198), .ref (b + 199), .ref (b + 200), .ref (b + 201), .ref (b + 202), .ref (b + 203), .ref (b + 204), .ref (b + 205), .ref (b + 206), .ref (b + 207), .ref (b + 208), .int 0, .ref (b + 209), .ref (b + 210), .ref (b + 211), .ref (b + 212), .ref (b + 213), .ref (b + 214), .ref (b + 215), .int 0, .int 0, .int 0, .int 1, .ref (b + 216), .ref (b + 217), .ref (b + 218), .ref (b + 219)]) := m_eq ef2
  refine m_get fl_X13_150_X13 C hM (i := 192) (by decide) h192_2 (v := .int 0) rfl dX13_make_11 ?_
  refine lv_if_ne (tgt := 23) hx hb dX13_make_14 (by decide) (fun h => absurd (by decide) h) (fun _ => ?_)
  refine lv_aload_n hx hb dX13_make_17 rfl (lv_at hl 0 rfl) ?_
  refine lv_iconst (v := 0) hx hb dX13_make_18 (by decide) ?_
  refine m_gov (m_runV calV_X13_layGap wd_1388 (a_X13_layGap_1 l D kc b f2 h192_2) C hM (by decide) h192_2 rfl hl.1 rfl rfl (Nat.le_of_ble_eq_true rfl) dX13_make_19 ⟨Nat.le_of_ble_eq_true rfl, Nat.le_of_ble_eq_true rfl⟩ ⟨Nat.le_of_ble_eq_true rfl, Nat.le_of_ble_eq_true rfl⟩) hM (fun n4 f3 H locs hp hM => ?_)
  have hp : n4 = 220 ∧ f3 = f2 := hp
  obtain ⟨rfl, ef3⟩ := hp
  exact m_vret C hr hlk hM (⟨rfl, by rw [ef3, ef2, ef1]⟩) dX13_make_22
set_option maxHeartbeats 4000000 in
set_option maxRecDepth 100000 in
theorem a_X13_apart_1 (l : Launch) (D : va_G) (kc : Nat → ClassId) (b : Nat) (f : Nat → va_E) (h192 : f 192 = .inr (13, [.ref (b + 193), .ref (b + 194), .ref (b + 195), .int 0, .int 0, .int 0, .ref (b + 196), .ref (b + 197), .int 0, .int 0, .int 0, .int 0, .int 0, .int 0, .int 0, .int (-1), .ref (b + 198), .ref (b + 199), .ref (b + 200), .ref (b + 201), .ref (b + 202), .ref (b + 203), .ref (b + 204), .ref (b + 205), .ref (b + 206), .ref (b + 207), .ref (b + 208), .int 0, .ref (b + 209), .ref (b + 210), .ref (b + 211), .ref (b + 212), .ref (b + 213), .ref (b + 214), .ref (b + 215), .int 0, .int 0, .int 0, .int 1, .ref (b + 216), .ref (b + 217), .ref (b + 218), .ref (b + 219)])) (h215 : f 215 = .inl (kc 1, 103041, .inl (upd (fun _ => 0) 0 0))) : mMi l yX13_apart cX13_apart 8 .int 2 0 0 D kc b 220 f [.ref (b + 192), .int 2, .int 0, .int 1, .int 0] (fun r u => r = 0 ∧ u.1 = 220 ∧ u.2 = va_up f 215 (.inl (kc 1, 103041, .inl (upd (upd (fun _ => 0) 0 0) 0 0)))) := by
  refine m_start (by decide) (Nat.le_of_ble_eq_true rfl) ?_
  intro p e s m below meth c C hr hlk hnm hM ls hl
  obtain ⟨hx, hb, hml, hown, hts, hE, hbs⟩ := id C
  have hl : lv_has ls 8 [(0, .ref (b + 192)), (1, .int 2), (2, .int 0), (3, .int 1), (4, .int 0)] := hl
  refine lv_iload_n hx hb dX13_apart_0 rfl (lv_at hl 2 rfl) ?_
  refine lv_istore (lv' := [(5, .int 0), (0, .ref (b + 192)), (1, .int 2), (2, .int 0), (3, .int 1), (4, .int 0)]) hx hb dX13_apart_1 hl (by decide) rfl (fun ls hl => ?_)
  refine lv_iload hx hb dX13_apart_3 (lv_at hl 0 rfl) ?_
  refine lv_if_lt (tgt := 166) hx hb dX13_apart_5 (by decide) (fun h => absurd h (by decide)) (fun _ => ?_)
  refine lv_iload hx hb dX13_apart_8 (lv_at hl 5 rfl) ?_
  refine lv_istore (lv' := [(6, .int 0), (5, .int 0), (0, .ref (b + 192)), (1, .int 2), (2, .int 0), (3, .int 1), (4, .int 0)]) hx hb dX13_apart_10 hl (by decide) rfl (fun ls hl => ?_)
  refine lv_iload hx hb dX13_apart_12 (lv_at hl 0 rfl) ?_
  refine lv_if_lt (tgt := 160) hx hb dX13_apart_14 (by decide) (fun h => absurd h (by decide)) (fun _ => ?_)
  refine lv_iload hx hb dX13_apart_17 (lv_at hl 1 rfl) ?_
  refine lv_iload_n hx hb dX13_apart_19 rfl (lv_at hl 4 rfl) ?_
  refine lv_icmp_ne (tgt := 31) hx hb dX13_apart_20 (by decide) (fun h => absurd (by decide) h) (fun _ => ?_)
  refine lv_iload hx hb dX13_apart_23 (lv_at hl 6 rfl) ?_
  refine lv_iload hx hb dX13_apart_25 (lv_at hl 0 rfl) ?_
  refine lv_isub hx hb dX13_apart_27 ?_
  refine m_vi (y := 0) (by decide) ?_
  refine lv_goto (tgt := 85) hx hb dX13_apart_28 (by decide) ?_
  refine lv_istore (lv' := [(7, .int 0), (6, .int 0), (5, .int 0), (0, .ref (b + 192)), (1, .int 2), (2, .int 0), (3, .int 1), (4, .int 0)]) hx hb dX13_apart_85 hl (by decide) rfl (fun ls hl => ?_)
  refine lv_iload hx hb dX13_apart_87 (lv_at hl 2 rfl) ?_
  refine lv_iload_n hx hb dX13_apart_89 rfl (lv_at hl 5 rfl) ?_
  refine lv_icmp_ge (tgt := 140) hx hb dX13_apart_90 (by decide) (fun _ => ?_) (fun h => absurd (by decide) h)
  refine lv_aload_n hx hb dX13_apart_140 rfl (lv_at hl 3 rfl) ?_
  refine m_get fl_X13_121_X13 C hM (i := 192) (by decide) h192 (v := .ref (b + 215)) rfl dX13_apart_141 ?_
  refine lv_iload hx hb dX13_apart_144 (lv_at hl 2 rfl) ?_
  refine lv_iload hx hb dX13_apart_146 (lv_at hl 1 rfl) ?_
  refine m_goi (m_runS calS_X13_at wd_1432 (a_X13_at_0 l D kc b f) C hM hl.1 rfl rfl (Nat.le_of_ble_eq_true rfl) dX13_apart_148 ⟨Nat.le_of_ble_eq_true rfl, Nat.le_of_ble_eq_true rfl⟩ ⟨Nat.le_of_ble_eq_true rfl, Nat.le_of_ble_eq_true rfl⟩) hM (fun r1 n2 f1 H locs hp hM => ?_)
  have hp : r1 = 0 ∧ n2 = 220 ∧ f1 = f := hp
  obtain ⟨rfl, rfl, ef1⟩ := hp
  refine lv_iload hx hb dX13_apart_151 (lv_at hl 0 rfl) ?_
  have h215_1 : f1 215 = .inl (kc 1, 103041, .inl (upd (fun _ => 0) 0 0)) := m_sm ef1 h215
  refine m_iast C hM (j := 215) (by decide) h215_1 (m_in (by decide)) dX13_apart_153 (fun H locs f2 ef2 hM => ?_)
  have ef2 : f2 = va_up f1 215 (.inl (kc 1, 103041, .inl (upd (upd (fun _ => 0) 0 0) 0 0))) := ef2
  refine lv_iinc (v := (-1)) (lv' := [(6, .int (-1)), (7, .int 0), (5, .int 0), (0, .ref (b + 192)), (1, .int 2), (2, .int 0), (3, .int 1), (4, .int 0)]) hx hb dX13_apart_154 hl (k := 1) rfl (by decide) (by decide) rfl (fun ls hl => ?_)
  refine lv_goto (tgt := 12) hx hb dX13_apart_157 (by decide) ?_
  refine lv_iload hx hb dX13_apart_12 (lv_at hl 0 rfl) ?_
  refine lv_if_lt (tgt := 160) hx hb dX13_apart_14 (by decide) (fun _ => ?_) (fun h => absurd (by decide) h)
  refine lv_iinc (v := (-1)) (lv' := [(5, .int (-1)), (6, .int (-1)), (7, .int 0), (0, .ref (b + 192)), (1, .int 2), (2, .int 0), (3, .int 1), (4, .int 0)]) hx hb dX13_apart_160 hl (k := 2) rfl (by decide) (by decide) rfl (fun ls hl => ?_)
  refine lv_goto (tgt := 3) hx hb dX13_apart_163 (by decide) ?_
  refine lv_iload hx hb dX13_apart_3 (lv_at hl 0 rfl) ?_
  refine lv_if_lt (tgt := 166) hx hb dX13_apart_5 (by decide) (fun _ => ?_) (fun h => absurd (by decide) h)
  refine lv_aload_n hx hb dX13_apart_166 rfl (lv_at hl 3 rfl) ?_
  have h192_1 : f1 192 = .inr (13, [.ref (b + 193), .ref (b + 194), .ref (b + 195), .int 0, .int 0, .int 0, .ref (b + 196), .ref (b + 197), .int 0, .int 0, .int 0, .int 0, .int 0, .int 0, .int 0, .int (-1), .ref (b + 198), .ref (b + 199), .ref (b + 200), .ref (b + 201), .ref (b + 202), .ref (b + 203), .ref (b + 204), .ref (b + 205), .ref (b + 206), .ref (b + 207), .ref (b + 208), .int 0, .ref (b + 209), .ref (b + 210), .ref (b + 211), .ref (b + 212), .ref (b + 213), .ref (b + 214), .ref (b + 215), .int 0, .int 0, .int 0, .int 1, .ref (b + 216), .ref (b + 217), .ref (b + 218), .ref (b + 219)]) := m_sm ef1 h192
  have h192_2 : f2 192 = .inr (13, [.ref (b + 193), .ref (b + 194), .ref (b + 195), .int 0, .int 0, .int 0, .ref (b + 196), .ref (b + 197), .int 0, .int 0, .int 0, .int 0, .int 0, .int 0, .int 0, .int (-1), .ref (b + 198), .ref (b + 199), .ref (b + 200), .ref (b + 201), .ref (b + 202), .ref (b + 203), .ref (b + 204), .ref (b + 205), .ref (b + 206), .ref (b + 207), .ref (b + 208), .int 0, .ref (b + 209), .ref (b + 210), .ref (b + 211), .ref (b + 212), .ref (b + 213), .ref (b + 214), .ref (b + 215), .int 0, .int 0, .int 0, .int 1, .ref (b + 216), .ref (b + 217), .ref (b + 218), .ref (b + 219)]) := m_ne ef2 h192_1 (by decide)
  refine m_get fl_X13_121_X13 C hM (i := 192) (by decide) h192_2 (v := .ref (b + 215)) rfl dX13_apart_167 ?_
  refine lv_iconst (v := 0) hx hb dX13_apart_170 (by decide) ?_
  have h215_2 : f2 215 = .inl (kc 1, 103041, .inl (upd (upd (fun _ => 0) 0 0) 0 0)) := m_eq ef2
  refine m_iald C hM (j := 215) (by decide) h215_2 (m_in (by decide)) dX13_apart_171 ?_
  refine m_vi (y := 0) (by decide) ?_
  exact m_iret C hr hlk hM (⟨rfl, rfl, by rw [ef2, ef1]⟩) dX13_apart_172
set_option maxHeartbeats 4000000 in
set_option maxRecDepth 100000 in
theorem a_X13_trace_0 (l : Launch) (D : va_G) (kc : Nat → ClassId) (b : Nat) (f : Nat → va_E) (h192 : f 192 = .inr (13, [.ref (b + 193), .ref (b + 194), .ref (b + 195), .int 0, .int 0, .int 0, .ref (b + 196), .ref (b + 197), .int 0, .int 0, .int 0, .int 0, .int 0, .int 0, .int 0, .int (-1), .ref (b + 198), .ref (b + 199), .ref (b + 200), .ref (b + 201), .ref (b + 202), .ref (b + 203), .ref (b + 204), .ref (b + 205), .ref (b + 206), .ref (b + 207), .ref (b + 208), .int 0, .ref (b + 209), .ref (b + 210), .ref (b + 211), .ref (b + 212), .ref (b + 213), .ref (b + 214), .ref (b + 215), .int 0, .int 0, .int 0, .int 1, .ref (b + 216), .ref (b + 217), .ref (b + 218), .ref (b + 219)])) (h215 : f 215 = .inl (kc 1, 103041, .inl (upd (fun _ => 0) 0 0))) : mMv l yX13_trace cX13_trace 6 3 0 0 D kc b 220 f [.ref (b + 192)] (fun u => u.1 = 220 ∧ u.2 = va_up (va_up f 215 (.inl (kc 1, 103041, .inl (upd (upd (fun _ => 0) 0 0) 0 0)))) 192 (.inr (13, [.ref (b + 193), .ref (b + 194), .ref (b + 195), .int 0, .int 0, .int 0, .ref (b + 196), .ref (b + 197), .int 0, .int 0, .int 0, .int 0, .int 0, .int 0, .int 0, .int (-1), .ref (b + 198), .ref (b + 199), .ref (b + 200), .ref (b + 201), .ref (b + 202), .ref (b + 203), .ref (b + 204), .ref (b + 205), .ref (b + 206), .ref (b + 207), .ref (b + 208), .int 0, .ref (b + 209), .ref (b + 210), .ref (b + 211), .ref (b + 212), .ref (b + 213), .ref (b + 214), .ref (b + 215), .int 0, .int 0, .int 0, .int 1, .ref (b + 216), .ref (b + 217), .ref (b + 218), .ref (b + 219)]))) := by
  refine m_start (by decide) (Nat.le_of_ble_eq_true rfl) ?_
  intro p e s m below meth c C hr hlk hnm hM ls hl
  obtain ⟨hx, hb, hml, hown, hts, hE, hbs⟩ := id C
  have hl : lv_has ls 6 [(0, .ref (b + 192))] := hl
  refine lv_aload_n hx hb dX13_trace_0 rfl (lv_at hl 0 rfl) ?_
  refine lv_iconst (v := 2) hx hb dX13_trace_1 (by decide) ?_
  refine lv_aload_n hx hb dX13_trace_2 rfl (lv_at hl 0 rfl) ?_
  refine m_get fl_X13_260_X13 C hM (i := 192) (by decide) h192 (v := .int 0) rfl dX13_trace_3 ?_
  refine lv_iconst (v := 1) hx hb dX13_trace_6 (by decide) ?_
  refine lv_aload_n hx hb dX13_trace_7 rfl (lv_at hl 0 rfl) ?_
  refine m_get fl_X13_156_X13 C hM (i := 192) (by decide) h192 (v := .int 0) rfl dX13_trace_8 ?_
  refine m_goi (m_runV calV_X13_apart wd_1428 (a_X13_apart_1 l D kc b f h192 h215) C hM (by decide) h192 rfl hl.1 rfl rfl (Nat.le_of_ble_eq_true rfl) dX13_trace_11 ⟨Nat.le_of_ble_eq_true rfl, Nat.le_of_ble_eq_true rfl⟩ ⟨Nat.le_of_ble_eq_true rfl, Nat.le_of_ble_eq_true rfl⟩) hM (fun r1 n2 f1 H locs hp hM => ?_)
  have hp : r1 = 0 ∧ n2 = 220 ∧ f1 = va_up f 215 (.inl (kc 1, 103041, .inl (upd (upd (fun _ => 0) 0 0) 0 0))) := hp
  obtain ⟨rfl, rfl, ef1⟩ := hp
  refine lv_istore_n (lv' := [(1, .int 0), (0, .ref (b + 192))]) hx hb dX13_trace_14 rfl hl (by decide) rfl (fun ls hl => ?_)
  refine lv_aload_n hx hb dX13_trace_15 rfl (lv_at hl 1 rfl) ?_
  refine lv_iconst (v := 0) hx hb dX13_trace_16 (by decide) ?_
  have h192_1 : f1 192 = .inr (13, [.ref (b + 193), .ref (b + 194), .ref (b + 195), .int 0, .int 0, .int 0, .ref (b + 196), .ref (b + 197), .int 0, .int 0, .int 0, .int 0, .int 0, .int 0, .int 0, .int (-1), .ref (b + 198), .ref (b + 199), .ref (b + 200), .ref (b + 201), .ref (b + 202), .ref (b + 203), .ref (b + 204), .ref (b + 205), .ref (b + 206), .ref (b + 207), .ref (b + 208), .int 0, .ref (b + 209), .ref (b + 210), .ref (b + 211), .ref (b + 212), .ref (b + 213), .ref (b + 214), .ref (b + 215), .int 0, .int 0, .int 0, .int 1, .ref (b + 216), .ref (b + 217), .ref (b + 218), .ref (b + 219)]) := m_ne ef1 h192 (by decide)
  refine m_put fl_X13_335_X13 C hM (i := 192) (by decide) h192_1 rfl rfl (Nat.le_of_ble_eq_true rfl) (fs1 := [.ref (b + 193), .ref (b + 194), .ref (b + 195), .int 0, .int 0, .int 0, .ref (b + 196), .ref (b + 197), .int 0, .int 0, .int 0, .int 0, .int 0, .int 0, .int 0, .int (-1), .ref (b + 198), .ref (b + 199), .ref (b + 200), .ref (b + 201), .ref (b + 202), .ref (b + 203), .ref (b + 204), .ref (b + 205), .ref (b + 206), .ref (b + 207), .ref (b + 208), .int 0, .ref (b + 209), .ref (b + 210), .ref (b + 211), .ref (b + 212), .ref (b + 213), .ref (b + 214), .ref (b + 215), .int 0, .int 0, .int 0, .int 1, .ref (b + 216), .ref (b + 217), .ref (b + 218), .ref (b + 219)]) rfl dX13_trace_17 (fun H locs f2 ef2 hM => ?_)
  refine lv_iconst (v := 0) hx hb dX13_trace_20 (by decide) ?_
  refine lv_istore_n (lv' := [(2, .int 0), (1, .int 0), (0, .ref (b + 192))]) hx hb dX13_trace_21 rfl hl (by decide) rfl (fun ls hl => ?_)
  refine lv_iconst (v := 0) hx hb dX13_trace_22 (by decide) ?_
  refine lv_istore_n (lv' := [(3, .int 0), (2, .int 0), (1, .int 0), (0, .ref (b + 192))]) hx hb dX13_trace_23 rfl hl (by decide) rfl (fun ls hl => ?_)
  refine lv_iload_n hx hb dX13_trace_24 rfl (lv_at hl 2 rfl) ?_
  refine lv_if_le (tgt := 263) hx hb dX13_trace_25 (by decide) (fun _ => ?_) (fun h => absurd (by decide) h)
  exact m_vret C hr hlk hM (⟨rfl, by rw [ef2, ef1]⟩) dX13_trace_263
set_option maxHeartbeats 4000000 in
set_option maxRecDepth 100000 in
theorem k_m_hold (l : Launch) (D : va_G) (kc : Nat → ClassId) (b : Nat) (f : Nat → va_E) (h192 : f 192 = .inr (13, [.ref (b + 193), .ref (b + 194), .ref (b + 195), .int 0, .int 0, .int 0, .ref (b + 196), .ref (b + 197), .int 0, .int 0, .int 0, .int 0, .int 0, .int 0, .int 0, .int (-1), .ref (b + 198), .ref (b + 199), .ref (b + 200), .ref (b + 201), .ref (b + 202), .ref (b + 203), .ref (b + 204), .ref (b + 205), .ref (b + 206), .ref (b + 207), .ref (b + 208), .int 0, .ref (b + 209), .ref (b + 210), .ref (b + 211), .ref (b + 212), .ref (b + 213), .ref (b + 214), .ref (b + 215), .int 0, .int 0, .int 0, .int 0, .ref (b + 216), .ref (b + 217), .ref (b + 218), .ref (b + 219)])) (h211 : f 211 = .inl (kc 1, 2, .inl (upd (upd (fun _ => 0) 0 2) 1 3))) (h215 : f 215 = .inl (kc 1, 103041, .inl (fun _ => 0))) : mMi l yX13_hold cX13_hold 7 .int 4 0 0 D kc b 220 f [.ref (b + 192)] (fun r u => r = 0) := by
  refine m_start (by decide) (Nat.le_of_ble_eq_true rfl) ?_
  intro p e s m below meth c C hr hlk hnm hM ls hl
  obtain ⟨hx, hb, hml, hown, hts, hE, hbs⟩ := id C
  have hl : lv_has ls 7 [(0, .ref (b + 192))] := hl
  refine lv_aload_n hx hb dX13_hold_0 rfl (lv_at hl 0 rfl) ?_
  refine m_gov (m_runV calV_X13_judge wd_1352 (a_X13_judge_0 l D kc b f h192) C hM (by decide) h192 rfl hl.1 rfl rfl (Nat.le_of_ble_eq_true rfl) dX13_hold_1 ⟨Nat.le_of_ble_eq_true rfl, Nat.le_of_ble_eq_true rfl⟩ ⟨Nat.le_of_ble_eq_true rfl, Nat.le_of_ble_eq_true rfl⟩) hM (fun n2 f1 H locs hp hM => ?_)
  have hp : n2 = 220 ∧ f1 = f := hp
  obtain ⟨rfl, ef1⟩ := hp
  refine lv_iconst (v := 0) hx hb dX13_hold_4 (by decide) ?_
  refine lv_istore_n (lv' := [(1, .int 0), (0, .ref (b + 192))]) hx hb dX13_hold_5 rfl hl (by decide) rfl (fun ls hl => ?_)
  refine lv_iconst (v := 0) hx hb dX13_hold_6 (by decide) ?_
  refine lv_istore_n (lv' := [(2, .int 0), (1, .int 0), (0, .ref (b + 192))]) hx hb dX13_hold_7 rfl hl (by decide) rfl (fun ls hl => ?_)
  refine lv_iload_n hx hb dX13_hold_8 rfl (lv_at hl 0 rfl) ?_
  refine lv_aload_n hx hb dX13_hold_9 rfl (lv_at hl 2 rfl) ?_
  have h192_1 : f1 192 = .inr (13, [.ref (b + 193), .ref (b + 194), .ref (b + 195), .int 0, .int 0, .int 0, .ref (b + 196), .ref (b + 197), .int 0, .int 0, .int 0, .int 0, .int 0, .int 0, .int 0, .int (-1), .ref (b + 198), .ref (b + 199), .ref (b + 200), .ref (b + 201), .ref (b + 202), .ref (b + 203), .ref (b + 204), .ref (b + 205), .ref (b + 206), .ref (b + 207), .ref (b + 208), .int 0, .ref (b + 209), .ref (b + 210), .ref (b + 211), .ref (b + 212), .ref (b + 213), .ref (b + 214), .ref (b + 215), .int 0, .int 0, .int 0, .int 0, .ref (b + 216), .ref (b + 217), .ref (b + 218), .ref (b + 219)]) := m_sm ef1 h192
  refine m_get fl_X13_153_X13 C hM (i := 192) (by decide) h192_1 (v := .int 0) rfl dX13_hold_10 ?_
  refine lv_icmp_ge (tgt := 39) hx hb dX13_hold_13 (by decide) (fun _ => ?_) (fun h => absurd (by decide) h)
  refine lv_iload_n hx hb dX13_hold_39 rfl (lv_at hl 1 rfl) ?_
  refine lv_bipush (v := 8) hx hb dX13_hold_40 (by decide) ?_
  refine lv_icmp_le (tgt := 48) hx hb dX13_hold_42 (by decide) (fun _ => ?_) (fun h => absurd (by decide) h)
  refine lv_iconst (v := (-1)) hx hb dX13_hold_48 (by decide) ?_
  refine lv_istore_n (lv' := [(2, .int (-1)), (1, .int 0), (0, .ref (b + 192))]) hx hb dX13_hold_49 rfl hl (by decide) rfl (fun ls hl => ?_)
  refine lv_iconst (v := 0) hx hb dX13_hold_50 (by decide) ?_
  refine lv_istore_n (lv' := [(3, .int 0), (2, .int (-1)), (1, .int 0), (0, .ref (b + 192))]) hx hb dX13_hold_51 rfl hl (by decide) rfl (fun ls hl => ?_)
  refine lv_iconst (v := 0) hx hb dX13_hold_52 (by decide) ?_
  refine lv_istore (lv' := [(4, .int 0), (3, .int 0), (2, .int (-1)), (1, .int 0), (0, .ref (b + 192))]) hx hb dX13_hold_53 hl (by decide) rfl (fun ls hl => ?_)
  refine lv_iload hx hb dX13_hold_55 (lv_at hl 0 rfl) ?_
  refine lv_iconst (v := 1) hx hb dX13_hold_57 (by decide) ?_
  refine lv_iload_n hx hb dX13_hold_58 rfl (lv_at hl 3 rfl) ?_
  refine lv_ishl hx hb dX13_hold_59 ?_
  refine m_vi (y := 1) (by decide) ?_
  refine lv_icmp_ge (tgt := 161) hx hb dX13_hold_60 (by decide) (fun h => absurd h (by decide)) (fun _ => ?_)
  refine lv_aload_n hx hb dX13_hold_63 rfl (lv_at hl 4 rfl) ?_
  refine lv_iload hx hb dX13_hold_64 (lv_at hl 0 rfl) ?_
  refine m_gov (m_runV calV_X13_make wd_1380 (a_X13_make_0 l D kc b f1 h192_1) C hM (by decide) h192_1 rfl hl.1 rfl rfl (Nat.le_of_ble_eq_true rfl) dX13_hold_66 ⟨Nat.le_of_ble_eq_true rfl, Nat.le_of_ble_eq_true rfl⟩ ⟨Nat.le_of_ble_eq_true rfl, Nat.le_of_ble_eq_true rfl⟩) hM (fun n4 f2 H locs hp hM => ?_)
  have hp : n4 = 220 ∧ f2 = va_up f1 192 (.inr (13, [.ref (b + 193), .ref (b + 194), .ref (b + 195), .int 0, .int 0, .int 0, .ref (b + 196), .ref (b + 197), .int 0, .int 0, .int 0, .int 0, .int 0, .int 0, .int 0, .int (-1), .ref (b + 198), .ref (b + 199), .ref (b + 200), .ref (b + 201), .ref (b + 202), .ref (b + 203), .ref (b + 204), .ref (b + 205), .ref (b + 206), .ref (b + 207), .ref (b + 208), .int 0, .ref (b + 209), .ref (b + 210), .ref (b + 211), .ref (b + 212), .ref (b + 213), .ref (b + 214), .ref (b + 215), .int 0, .int 0, .int 0, .int 0, .ref (b + 216), .ref (b + 217), .ref (b + 218), .ref (b + 219)])) := hp
  obtain ⟨rfl, ef2⟩ := hp
  refine lv_aload_n hx hb dX13_hold_69 rfl (lv_at hl 4 rfl) ?_
  have h192_2 : f2 192 = .inr (13, [.ref (b + 193), .ref (b + 194), .ref (b + 195), .int 0, .int 0, .int 0, .ref (b + 196), .ref (b + 197), .int 0, .int 0, .int 0, .int 0, .int 0, .int 0, .int 0, .int (-1), .ref (b + 198), .ref (b + 199), .ref (b + 200), .ref (b + 201), .ref (b + 202), .ref (b + 203), .ref (b + 204), .ref (b + 205), .ref (b + 206), .ref (b + 207), .ref (b + 208), .int 0, .ref (b + 209), .ref (b + 210), .ref (b + 211), .ref (b + 212), .ref (b + 213), .ref (b + 214), .ref (b + 215), .int 0, .int 0, .int 0, .int 0, .ref (b + 216), .ref (b + 217), .ref (b + 218), .ref (b + 219)]) := m_eq ef2
  refine m_get fl_X13_108_X13 C hM (i := 192) (by decide) h192_2 (v := .ref (b + 211)) rfl dX13_hold_70 ?_
  refine lv_iconst (v := 0) hx hb dX13_hold_73 (by decide) ?_
  have h211_1 : f1 211 = .inl (kc 1, 2, .inl (upd (upd (fun _ => 0) 0 2) 1 3)) := m_sm ef1 h211
  have h211_2 : f2 211 = .inl (kc 1, 2, .inl (upd (upd (fun _ => 0) 0 2) 1 3)) := m_ne ef2 h211_1 (by decide)
  refine m_iald C hM (j := 211) (by decide) h211_2 (m_in (by decide)) dX13_hold_74 ?_
  refine m_vi (y := 2) (by decide) ?_
  refine lv_aload_n hx hb dX13_hold_75 rfl (lv_at hl 4 rfl) ?_
  refine lv_iconst (v := 2) hx hb dX13_hold_76 (by decide) ?_
  refine lv_aload_n hx hb dX13_hold_77 rfl (lv_at hl 4 rfl) ?_
  refine m_get fl_X13_260_X13 C hM (i := 192) (by decide) h192_2 (v := .int 0) rfl dX13_hold_78 ?_
  refine lv_iconst (v := 1) hx hb dX13_hold_81 (by decide) ?_
  refine lv_aload_n hx hb dX13_hold_82 rfl (lv_at hl 4 rfl) ?_
  refine m_get fl_X13_156_X13 C hM (i := 192) (by decide) h192_2 (v := .int 0) rfl dX13_hold_83 ?_
  have h215_1 : f1 215 = .inl (kc 1, 103041, .inl (fun _ => 0)) := m_sm ef1 h215
  have h215_2 : f2 215 = .inl (kc 1, 103041, .inl (fun _ => 0)) := m_ne ef2 h215_1 (by decide)
  refine m_goi (m_runV calV_X13_apart wd_1428 (a_X13_apart_0 l D kc b f2 h192_2 h215_2) C hM (by decide) h192_2 rfl hl.1 rfl rfl (Nat.le_of_ble_eq_true rfl) dX13_hold_86 ⟨Nat.le_of_ble_eq_true rfl, Nat.le_of_ble_eq_true rfl⟩ ⟨Nat.le_of_ble_eq_true rfl, Nat.le_of_ble_eq_true rfl⟩) hM (fun r5 n6 f3 H locs hp hM => ?_)
  have hp : r5 = 0 ∧ n6 = 220 ∧ f3 = va_up f2 215 (.inl (kc 1, 103041, .inl (upd (fun _ => 0) 0 0))) := hp
  obtain ⟨rfl, rfl, ef3⟩ := hp
  refine lv_imul hx hb dX13_hold_89 ?_
  refine m_vi (y := 0) (by decide) ?_
  refine lv_aload_n hx hb dX13_hold_90 rfl (lv_at hl 4 rfl) ?_
  have h192_3 : f3 192 = .inr (13, [.ref (b + 193), .ref (b + 194), .ref (b + 195), .int 0, .int 0, .int 0, .ref (b + 196), .ref (b + 197), .int 0, .int 0, .int 0, .int 0, .int 0, .int 0, .int 0, .int (-1), .ref (b + 198), .ref (b + 199), .ref (b + 200), .ref (b + 201), .ref (b + 202), .ref (b + 203), .ref (b + 204), .ref (b + 205), .ref (b + 206), .ref (b + 207), .ref (b + 208), .int 0, .ref (b + 209), .ref (b + 210), .ref (b + 211), .ref (b + 212), .ref (b + 213), .ref (b + 214), .ref (b + 215), .int 0, .int 0, .int 0, .int 0, .ref (b + 216), .ref (b + 217), .ref (b + 218), .ref (b + 219)]) := m_ne ef3 h192_2 (by decide)
  refine m_get fl_X13_108_X13 C hM (i := 192) (by decide) h192_3 (v := .ref (b + 211)) rfl dX13_hold_91 ?_
  refine lv_iconst (v := 1) hx hb dX13_hold_94 (by decide) ?_
  have h211_3 : f3 211 = .inl (kc 1, 2, .inl (upd (upd (fun _ => 0) 0 2) 1 3)) := m_ne ef3 h211_2 (by decide)
  refine m_iald C hM (j := 211) (by decide) h211_3 (m_in (by decide)) dX13_hold_95 ?_
  refine m_vi (y := 3) (by decide) ?_
  refine lv_iload hx hb dX13_hold_96 (lv_at hl 0 rfl) ?_
  refine m_goi (m_runS calS_X13_bits wd_1444 (a_X13_bits_0 l D kc b f3) C hM hl.1 rfl rfl (Nat.le_of_ble_eq_true rfl) dX13_hold_98 ⟨Nat.le_of_ble_eq_true rfl, Nat.le_of_ble_eq_true rfl⟩ ⟨Nat.le_of_ble_eq_true rfl, Nat.le_of_ble_eq_true rfl⟩) hM (fun r7 n8 f4 H locs hp hM => ?_)
  have hp : r7 = 0 ∧ n8 = 220 ∧ f4 = f3 := hp
  obtain ⟨rfl, rfl, ef4⟩ := hp
  refine lv_imul hx hb dX13_hold_101 ?_
  refine m_vi (y := 0) (by decide) ?_
  refine lv_iadd hx hb dX13_hold_102 ?_
  refine m_vi (y := 0) (by decide) ?_
  refine lv_istore (lv' := [(5, .int 0), (4, .int 0), (3, .int 0), (2, .int (-1)), (1, .int 0), (0, .ref (b + 192))]) hx hb dX13_hold_103 hl (by decide) rfl (fun ls hl => ?_)
  refine lv_iload_n hx hb dX13_hold_105 rfl (lv_at hl 3 rfl) ?_
  refine lv_iconst (v := (-1)) hx hb dX13_hold_106 (by decide) ?_
  refine lv_icmp_eq (tgt := 134) hx hb dX13_hold_107 (by decide) (fun _ => ?_) (fun h => absurd (by decide) h)
  refine lv_iconst (v := 1) hx hb dX13_hold_134 (by decide) ?_
  refine lv_goto (tgt := 139) hx hb dX13_hold_135 (by decide) ?_
  refine lv_istore (lv' := [(6, .int 1), (5, .int 0), (4, .int 0), (3, .int 0), (2, .int (-1)), (1, .int 0), (0, .ref (b + 192))]) hx hb dX13_hold_139 hl (by decide) rfl (fun ls hl => ?_)
  refine lv_iload hx hb dX13_hold_141 (lv_at hl 0 rfl) ?_
  refine lv_if_ne (tgt := 149) hx hb dX13_hold_143 (by decide) (fun _ => ?_) (fun h => absurd h (by decide))
  refine lv_iload hx hb dX13_hold_149 (lv_at hl 2 rfl) ?_
  refine lv_istore_n (lv' := [(2, .int 0), (6, .int 1), (5, .int 0), (4, .int 0), (3, .int 0), (1, .int 0), (0, .ref (b + 192))]) hx hb dX13_hold_151 rfl hl (by decide) rfl (fun ls hl => ?_)
  refine lv_iload hx hb dX13_hold_152 (lv_at hl 2 rfl) ?_
  refine lv_istore_n (lv' := [(3, .int 0), (2, .int 0), (6, .int 1), (5, .int 0), (4, .int 0), (1, .int 0), (0, .ref (b + 192))]) hx hb dX13_hold_154 rfl hl (by decide) rfl (fun ls hl => ?_)
  refine lv_iinc (v := 1) (lv' := [(4, .int 1), (3, .int 0), (2, .int 0), (6, .int 1), (5, .int 0), (1, .int 0), (0, .ref (b + 192))]) hx hb dX13_hold_155 hl (k := 4) rfl (by decide) (by decide) rfl (fun ls hl => ?_)
  refine lv_goto (tgt := 55) hx hb dX13_hold_158 (by decide) ?_
  refine lv_iload hx hb dX13_hold_55 (lv_at hl 0 rfl) ?_
  refine lv_iconst (v := 1) hx hb dX13_hold_57 (by decide) ?_
  refine lv_iload_n hx hb dX13_hold_58 rfl (lv_at hl 5 rfl) ?_
  refine lv_ishl hx hb dX13_hold_59 ?_
  refine m_vi (y := 1) (by decide) ?_
  refine lv_icmp_ge (tgt := 161) hx hb dX13_hold_60 (by decide) (fun _ => ?_) (fun h => absurd (by decide) h)
  refine lv_aload_n hx hb dX13_hold_161 rfl (lv_at hl 6 rfl) ?_
  refine lv_iconst (v := 1) hx hb dX13_hold_162 (by decide) ?_
  have h192_4 : f4 192 = .inr (13, [.ref (b + 193), .ref (b + 194), .ref (b + 195), .int 0, .int 0, .int 0, .ref (b + 196), .ref (b + 197), .int 0, .int 0, .int 0, .int 0, .int 0, .int 0, .int 0, .int (-1), .ref (b + 198), .ref (b + 199), .ref (b + 200), .ref (b + 201), .ref (b + 202), .ref (b + 203), .ref (b + 204), .ref (b + 205), .ref (b + 206), .ref (b + 207), .ref (b + 208), .int 0, .ref (b + 209), .ref (b + 210), .ref (b + 211), .ref (b + 212), .ref (b + 213), .ref (b + 214), .ref (b + 215), .int 0, .int 0, .int 0, .int 0, .ref (b + 216), .ref (b + 217), .ref (b + 218), .ref (b + 219)]) := m_sm ef4 h192_3
  refine m_put fl_X13_322_X13 C hM (i := 192) (by decide) h192_4 rfl rfl (Nat.le_of_ble_eq_true rfl) (fs1 := [.ref (b + 193), .ref (b + 194), .ref (b + 195), .int 0, .int 0, .int 0, .ref (b + 196), .ref (b + 197), .int 0, .int 0, .int 0, .int 0, .int 0, .int 0, .int 0, .int (-1), .ref (b + 198), .ref (b + 199), .ref (b + 200), .ref (b + 201), .ref (b + 202), .ref (b + 203), .ref (b + 204), .ref (b + 205), .ref (b + 206), .ref (b + 207), .ref (b + 208), .int 0, .ref (b + 209), .ref (b + 210), .ref (b + 211), .ref (b + 212), .ref (b + 213), .ref (b + 214), .ref (b + 215), .int 0, .int 0, .int 0, .int 1, .ref (b + 216), .ref (b + 217), .ref (b + 218), .ref (b + 219)]) rfl dX13_hold_163 (fun H locs f5 ef5 hM => ?_)
  refine lv_aload_n hx hb dX13_hold_166 rfl (lv_at hl 6 rfl) ?_
  refine lv_iload_n hx hb dX13_hold_167 rfl (lv_at hl 2 rfl) ?_
  have h192_5 : f5 192 = .inr (13, [.ref (b + 193), .ref (b + 194), .ref (b + 195), .int 0, .int 0, .int 0, .ref (b + 196), .ref (b + 197), .int 0, .int 0, .int 0, .int 0, .int 0, .int 0, .int 0, .int (-1), .ref (b + 198), .ref (b + 199), .ref (b + 200), .ref (b + 201), .ref (b + 202), .ref (b + 203), .ref (b + 204), .ref (b + 205), .ref (b + 206), .ref (b + 207), .ref (b + 208), .int 0, .ref (b + 209), .ref (b + 210), .ref (b + 211), .ref (b + 212), .ref (b + 213), .ref (b + 214), .ref (b + 215), .int 0, .int 0, .int 0, .int 1, .ref (b + 216), .ref (b + 217), .ref (b + 218), .ref (b + 219)]) := m_eq ef5
  refine m_put fl_X13_326_X13 C hM (i := 192) (by decide) h192_5 rfl rfl (Nat.le_of_ble_eq_true rfl) (fs1 := [.ref (b + 193), .ref (b + 194), .ref (b + 195), .int 0, .int 0, .int 0, .ref (b + 196), .ref (b + 197), .int 0, .int 0, .int 0, .int 0, .int 0, .int 0, .int 0, .int (-1), .ref (b + 198), .ref (b + 199), .ref (b + 200), .ref (b + 201), .ref (b + 202), .ref (b + 203), .ref (b + 204), .ref (b + 205), .ref (b + 206), .ref (b + 207), .ref (b + 208), .int 0, .ref (b + 209), .ref (b + 210), .ref (b + 211), .ref (b + 212), .ref (b + 213), .ref (b + 214), .ref (b + 215), .int 0, .int 0, .int 0, .int 1, .ref (b + 216), .ref (b + 217), .ref (b + 218), .ref (b + 219)]) rfl dX13_hold_168 (fun H locs f6 ef6 hM => ?_)
  refine lv_aload_n hx hb dX13_hold_171 rfl (lv_at hl 6 rfl) ?_
  refine lv_iconst (v := 0) hx hb dX13_hold_172 (by decide) ?_
  have h192_6 : f6 192 = .inr (13, [.ref (b + 193), .ref (b + 194), .ref (b + 195), .int 0, .int 0, .int 0, .ref (b + 196), .ref (b + 197), .int 0, .int 0, .int 0, .int 0, .int 0, .int 0, .int 0, .int (-1), .ref (b + 198), .ref (b + 199), .ref (b + 200), .ref (b + 201), .ref (b + 202), .ref (b + 203), .ref (b + 204), .ref (b + 205), .ref (b + 206), .ref (b + 207), .ref (b + 208), .int 0, .ref (b + 209), .ref (b + 210), .ref (b + 211), .ref (b + 212), .ref (b + 213), .ref (b + 214), .ref (b + 215), .int 0, .int 0, .int 0, .int 1, .ref (b + 216), .ref (b + 217), .ref (b + 218), .ref (b + 219)]) := m_eq ef6
  refine m_put fl_X13_329_X13 C hM (i := 192) (by decide) h192_6 rfl rfl (Nat.le_of_ble_eq_true rfl) (fs1 := [.ref (b + 193), .ref (b + 194), .ref (b + 195), .int 0, .int 0, .int 0, .ref (b + 196), .ref (b + 197), .int 0, .int 0, .int 0, .int 0, .int 0, .int 0, .int 0, .int (-1), .ref (b + 198), .ref (b + 199), .ref (b + 200), .ref (b + 201), .ref (b + 202), .ref (b + 203), .ref (b + 204), .ref (b + 205), .ref (b + 206), .ref (b + 207), .ref (b + 208), .int 0, .ref (b + 209), .ref (b + 210), .ref (b + 211), .ref (b + 212), .ref (b + 213), .ref (b + 214), .ref (b + 215), .int 0, .int 0, .int 0, .int 1, .ref (b + 216), .ref (b + 217), .ref (b + 218), .ref (b + 219)]) rfl dX13_hold_173 (fun H locs f7 ef7 hM => ?_)
  refine lv_iconst (v := 0) hx hb dX13_hold_176 (by decide) ?_
  refine lv_istore (lv' := [(4, .int 0), (3, .int 0), (2, .int 0), (6, .int 1), (5, .int 0), (1, .int 0), (0, .ref (b + 192))]) hx hb dX13_hold_177 hl (by decide) rfl (fun ls hl => ?_)
  refine lv_iconst (v := 0) hx hb dX13_hold_179 (by decide) ?_
  refine lv_istore (lv' := [(5, .int 0), (4, .int 0), (3, .int 0), (2, .int 0), (6, .int 1), (1, .int 0), (0, .ref (b + 192))]) hx hb dX13_hold_180 hl (by decide) rfl (fun ls hl => ?_)
  refine lv_iload hx hb dX13_hold_182 (lv_at hl 0 rfl) ?_
  refine lv_aload_n hx hb dX13_hold_184 rfl (lv_at hl 6 rfl) ?_
  have h192_7 : f7 192 = .inr (13, [.ref (b + 193), .ref (b + 194), .ref (b + 195), .int 0, .int 0, .int 0, .ref (b + 196), .ref (b + 197), .int 0, .int 0, .int 0, .int 0, .int 0, .int 0, .int 0, .int (-1), .ref (b + 198), .ref (b + 199), .ref (b + 200), .ref (b + 201), .ref (b + 202), .ref (b + 203), .ref (b + 204), .ref (b + 205), .ref (b + 206), .ref (b + 207), .ref (b + 208), .int 0, .ref (b + 209), .ref (b + 210), .ref (b + 211), .ref (b + 212), .ref (b + 213), .ref (b + 214), .ref (b + 215), .int 0, .int 0, .int 0, .int 1, .ref (b + 216), .ref (b + 217), .ref (b + 218), .ref (b + 219)]) := m_eq ef7
  refine m_get fl_X13_153_X13 C hM (i := 192) (by decide) h192_7 (v := .int 0) rfl dX13_hold_185 ?_
  refine lv_icmp_ge (tgt := 244) hx hb dX13_hold_188 (by decide) (fun _ => ?_) (fun h => absurd (by decide) h)
  refine lv_aload_n hx hb dX13_hold_244 rfl (lv_at hl 6 rfl) ?_
  refine lv_iload_n hx hb dX13_hold_245 rfl (lv_at hl 3 rfl) ?_
  refine m_gov (m_runV calV_X13_make wd_1380 (a_X13_make_1 l D kc b f7 h192_7) C hM (by decide) h192_7 rfl hl.1 rfl rfl (Nat.le_of_ble_eq_true rfl) dX13_hold_246 ⟨Nat.le_of_ble_eq_true rfl, Nat.le_of_ble_eq_true rfl⟩ ⟨Nat.le_of_ble_eq_true rfl, Nat.le_of_ble_eq_true rfl⟩) hM (fun n10 f8 H locs hp hM => ?_)
  have hp : n10 = 220 ∧ f8 = va_up f7 192 (.inr (13, [.ref (b + 193), .ref (b + 194), .ref (b + 195), .int 0, .int 0, .int 0, .ref (b + 196), .ref (b + 197), .int 0, .int 0, .int 0, .int 0, .int 0, .int 0, .int 0, .int (-1), .ref (b + 198), .ref (b + 199), .ref (b + 200), .ref (b + 201), .ref (b + 202), .ref (b + 203), .ref (b + 204), .ref (b + 205), .ref (b + 206), .ref (b + 207), .ref (b + 208), .int 0, .ref (b + 209), .ref (b + 210), .ref (b + 211), .ref (b + 212), .ref (b + 213), .ref (b + 214), .ref (b + 215), .int 0, .int 0, .int 0, .int 1, .ref (b + 216), .ref (b + 217), .ref (b + 218), .ref (b + 219)])) := hp
  obtain ⟨rfl, ef8⟩ := hp
  refine lv_aload_n hx hb dX13_hold_249 rfl (lv_at hl 6 rfl) ?_
  have h192_8 : f8 192 = .inr (13, [.ref (b + 193), .ref (b + 194), .ref (b + 195), .int 0, .int 0, .int 0, .ref (b + 196), .ref (b + 197), .int 0, .int 0, .int 0, .int 0, .int 0, .int 0, .int 0, .int (-1), .ref (b + 198), .ref (b + 199), .ref (b + 200), .ref (b + 201), .ref (b + 202), .ref (b + 203), .ref (b + 204), .ref (b + 205), .ref (b + 206), .ref (b + 207), .ref (b + 208), .int 0, .ref (b + 209), .ref (b + 210), .ref (b + 211), .ref (b + 212), .ref (b + 213), .ref (b + 214), .ref (b + 215), .int 0, .int 0, .int 0, .int 1, .ref (b + 216), .ref (b + 217), .ref (b + 218), .ref (b + 219)]) := m_eq ef8
  have h215_3 : f3 215 = .inl (kc 1, 103041, .inl (upd (fun _ => 0) 0 0)) := m_eq ef3
  have h215_4 : f4 215 = .inl (kc 1, 103041, .inl (upd (fun _ => 0) 0 0)) := m_sm ef4 h215_3
  have h215_5 : f5 215 = .inl (kc 1, 103041, .inl (upd (fun _ => 0) 0 0)) := m_ne ef5 h215_4 (by decide)
  have h215_6 : f6 215 = .inl (kc 1, 103041, .inl (upd (fun _ => 0) 0 0)) := m_ne ef6 h215_5 (by decide)
  have h215_7 : f7 215 = .inl (kc 1, 103041, .inl (upd (fun _ => 0) 0 0)) := m_ne ef7 h215_6 (by decide)
  have h215_8 : f8 215 = .inl (kc 1, 103041, .inl (upd (fun _ => 0) 0 0)) := m_ne ef8 h215_7 (by decide)
  refine m_gov (m_runV calV_X13_trace wd_1447 (a_X13_trace_0 l D kc b f8 h192_8 h215_8) C hM (by decide) h192_8 rfl hl.1 rfl rfl (Nat.le_of_ble_eq_true rfl) dX13_hold_250 ⟨Nat.le_of_ble_eq_true rfl, Nat.le_of_ble_eq_true rfl⟩ ⟨Nat.le_of_ble_eq_true rfl, Nat.le_of_ble_eq_true rfl⟩) hM (fun n12 f9 H locs hp hM => ?_)
  have hp : n12 = 220 ∧ f9 = va_up (va_up f8 215 (.inl (kc 1, 103041, .inl (upd (upd (fun _ => 0) 0 0) 0 0)))) 192 (.inr (13, [.ref (b + 193), .ref (b + 194), .ref (b + 195), .int 0, .int 0, .int 0, .ref (b + 196), .ref (b + 197), .int 0, .int 0, .int 0, .int 0, .int 0, .int 0, .int 0, .int (-1), .ref (b + 198), .ref (b + 199), .ref (b + 200), .ref (b + 201), .ref (b + 202), .ref (b + 203), .ref (b + 204), .ref (b + 205), .ref (b + 206), .ref (b + 207), .ref (b + 208), .int 0, .ref (b + 209), .ref (b + 210), .ref (b + 211), .ref (b + 212), .ref (b + 213), .ref (b + 214), .ref (b + 215), .int 0, .int 0, .int 0, .int 1, .ref (b + 216), .ref (b + 217), .ref (b + 218), .ref (b + 219)])) := hp
  obtain ⟨rfl, ef9⟩ := hp
  refine lv_iload_n hx hb dX13_hold_253 rfl (lv_at hl 2 rfl) ?_
  exact m_iret C hr hlk hM (rfl) dX13_hold_254
set_option maxHeartbeats 4000000 in
set_option maxRecDepth 100000 in
theorem k_m_held (l : Launch) (D : va_G) (kc : Nat → ClassId) (b : Nat) (f : Nat → va_E) (a0 : Int32) (h192 : f 192 = .inr (13, [.ref (b + 193), .ref (b + 194), .ref (b + 195), .int 0, .int 0, .int 0, .ref (b + 196), .ref (b + 197), .int 0, .int 0, .int 0, .int 0, .int 0, .int 0, .int 0, .int (-1), .ref (b + 198), .ref (b + 199), .ref (b + 200), .ref (b + 201), .ref (b + 202), .ref (b + 203), .ref (b + 204), .ref (b + 205), .ref (b + 206), .ref (b + 207), .ref (b + 208), .int 0, .ref (b + 209), .ref (b + 210), .ref (b + 211), .ref (b + 212), .ref (b + 213), .ref (b + 214), .ref (b + 215), .int 0, .int 0, .int 0, .int 0, .ref (b + 216), .ref (b + 217), .ref (b + 218), .ref (b + 219)])) : mMi l yX13_held cX13_held 2 .int 1 0 0 D kc b 220 f [.ref (b + 192), .int a0] (fun r u => r = (-1)) := by
  refine m_start (by decide) (Nat.le_of_ble_eq_true rfl) ?_
  intro p e s m below meth c C hr hlk hnm hM ls hl
  obtain ⟨hx, hb, hml, hown, hts, hE, hbs⟩ := id C
  have hl : lv_has ls 2 [(0, .ref (b + 192)), (1, .int a0)] := hl
  refine lv_aload_n hx hb dX13_held_0 rfl (lv_at hl 0 rfl) ?_
  refine m_get fl_X13_322_X13 C hM (i := 192) (by decide) h192 (v := .int 0) rfl dX13_held_1 ?_
  refine lv_if_ne (tgt := 9) hx hb dX13_held_4 (by decide) (fun h => absurd (by decide) h) (fun _ => ?_)
  refine lv_iconst (v := (-1)) hx hb dX13_held_7 (by decide) ?_
  exact m_iret C hr hlk hM (rfl) dX13_held_8
set_option maxHeartbeats 4000000 in
set_option maxRecDepth 100000 in
theorem k_m_unasked (l : Launch) (D : va_G) (kc : Nat → ClassId) (b : Nat) (f : Nat → va_E) (a0 : Int32) (a1 : Int32) (h192 : f 192 = .inr (13, [.ref (b + 193), .ref (b + 194), .ref (b + 195), .int 0, .int 0, .int 0, .ref (b + 196), .ref (b + 197), .int 0, .int 0, .int 0, .int 0, .int 0, .int 0, .int 0, .int (-1), .ref (b + 198), .ref (b + 199), .ref (b + 200), .ref (b + 201), .ref (b + 202), .ref (b + 203), .ref (b + 204), .ref (b + 205), .ref (b + 206), .ref (b + 207), .ref (b + 208), .int 0, .ref (b + 209), .ref (b + 210), .ref (b + 211), .ref (b + 212), .ref (b + 213), .ref (b + 214), .ref (b + 215), .int 0, .int 0, .int 0, .int 0, .ref (b + 216), .ref (b + 217), .ref (b + 218), .ref (b + 219)])) : mMi l yX13_unasked cX13_unasked 3 .int 2 0 0 D kc b 220 f [.ref (b + 192), .int a0, .int a1] (fun r u => r = (-1)) := by
  refine m_start (by decide) (Nat.le_of_ble_eq_true rfl) ?_
  intro p e s m below meth c C hr hlk hnm hM ls hl
  obtain ⟨hx, hb, hml, hown, hts, hE, hbs⟩ := id C
  have hl : lv_has ls 3 [(0, .ref (b + 192)), (1, .int a0), (2, .int a1)] := hl
  refine lv_iload_n hx hb dX13_unasked_0 rfl (lv_at hl 1 rfl) ?_
  refine lv_i2l hx hb dX13_unasked_1 rfl ?_
  refine lv_lconst (v := 0) hx hb dX13_unasked_2 (by decide) ?_
  refine lv_aload_n hx hb dX13_unasked_3 rfl (lv_at hl 0 rfl) ?_
  refine m_get fl_X13_335_X13 C hM (i := 192) (by decide) h192 (v := .int 0) rfl dX13_unasked_4 ?_
  refine lv_i2l (v := 0) hx hb dX13_unasked_7 (by decide) ?_
  refine lv_lconst (v := 1) hx hb dX13_unasked_8 (by decide) ?_
  refine lv_lsub hx hb dX13_unasked_9 ?_
  refine m_vl (y := (-1)) (by decide) ?_
  refine m_goi (m_runS calS_X13_in wd_1221 (k_in0 l D kc b 220 f a0.toInt64 0 (-1) (by rw [m_inI (a := 0) (b := (-1)) (by decide) (by decide)]; omega)) C hM hl.1 rfl rfl (Nat.le_of_ble_eq_true rfl) dX13_unasked_10 ⟨Nat.le_of_ble_eq_true rfl, Nat.le_of_ble_eq_true rfl⟩ ⟨Nat.le_of_ble_eq_true rfl, Nat.le_of_ble_eq_true rfl⟩) hM (fun r1 n2 f1 H locs hp hM => ?_)
  obtain ⟨rfl, rfl, ef1⟩ : r1 = 0 ∧ n2 = 220 ∧ f1 = f := hp
  refine lv_if_ne (tgt := 20) hx hb dX13_unasked_13 (by decide) (fun h => absurd (by decide) h) (fun _ => ?_)
  refine lv_iconst (v := (-1)) hx hb dX13_unasked_16 (by decide) ?_
  refine lv_goto (tgt := 62) hx hb dX13_unasked_17 (by decide) ?_
  exact m_iret C hr hlk hM (rfl) dX13_unasked_62
set_option maxHeartbeats 4000000 in
set_option maxRecDepth 100000 in
theorem a_X13_isText_5 (l : Launch) (D : va_G) (kc : Nat → ClassId) (b : Nat) (f : Nat → va_E) (a1 : Int32) (z1 : a1 < 0) : mMi l yX13_isText cX13_isText 1 .boolean 2 0 0 D kc b 220 f [.int a1] (fun r u => r = 0 ∧ u.1 = 220 ∧ u.2 = f) := by
  refine m_start (by decide) (Nat.le_of_ble_eq_true rfl) ?_
  intro p e s m below meth c C hr hlk hnm hM ls hl
  obtain ⟨hx, hb, hml, hown, hts, hE, hbs⟩ := id C
  have hl : lv_has ls 1 [(0, .int a1)] := hl
  refine lv_iload_n hx hb dX13_isText_0 rfl (lv_at hl 0 rfl) ?_
  refine lv_i2l hx hb dX13_isText_1 rfl ?_
  refine lv_lconst (v := 0) hx hb dX13_isText_2 (by decide) ?_
  refine lv_ldc2 (v := 2) hx hb hown (hts _ wd_1368) dX13_isText_3 ?_
  refine m_goi (m_runS calS_X13_in wd_1221 (k_in0 l D kc b 220 f a1.toInt64 0 2 (by revert z1; rw [m_inI (a := 0) (b := 2) (by decide) (by decide)]; simp only [Int32.lt_iff_toInt_lt, Int32.le_iff_toInt_le, m_lits]; omega)) C hM hl.1 rfl rfl (Nat.le_of_ble_eq_true rfl) dX13_isText_6 ⟨Nat.le_of_ble_eq_true rfl, Nat.le_of_ble_eq_true rfl⟩ ⟨Nat.le_of_ble_eq_true rfl, Nat.le_of_ble_eq_true rfl⟩) hM (fun r1 n2 f1 H locs hp hM => ?_)
  obtain ⟨rfl, rfl, ef1⟩ : r1 = 0 ∧ n2 = 220 ∧ f1 = f := hp
  exact m_zret C hr hlk hM rfl (⟨rfl, rfl, by rw [ef1]⟩) dX13_isText_9
set_option maxHeartbeats 4000000 in
set_option maxRecDepth 100000 in
theorem a_X13_isText_6 (l : Launch) (D : va_G) (kc : Nat → ClassId) (b : Nat) (f : Nat → va_E) (a1 : Int32) (z1 : ¬ a1 < 0) (z2 : 2 < a1) : mMi l yX13_isText cX13_isText 1 .boolean 2 0 0 D kc b 220 f [.int a1] (fun r u => r = 0 ∧ u.1 = 220 ∧ u.2 = f) := by
  refine m_start (by decide) (Nat.le_of_ble_eq_true rfl) ?_
  intro p e s m below meth c C hr hlk hnm hM ls hl
  obtain ⟨hx, hb, hml, hown, hts, hE, hbs⟩ := id C
  have hl : lv_has ls 1 [(0, .int a1)] := hl
  refine lv_iload_n hx hb dX13_isText_0 rfl (lv_at hl 0 rfl) ?_
  refine lv_i2l hx hb dX13_isText_1 rfl ?_
  refine lv_lconst (v := 0) hx hb dX13_isText_2 (by decide) ?_
  refine lv_ldc2 (v := 2) hx hb hown (hts _ wd_1368) dX13_isText_3 ?_
  refine m_goi (m_runS calS_X13_in wd_1221 (k_in0 l D kc b 220 f a1.toInt64 0 2 (by revert z1 z2; rw [m_inI (a := 0) (b := 2) (by decide) (by decide)]; simp only [Int32.lt_iff_toInt_lt, Int32.le_iff_toInt_le, m_lits]; omega)) C hM hl.1 rfl rfl (Nat.le_of_ble_eq_true rfl) dX13_isText_6 ⟨Nat.le_of_ble_eq_true rfl, Nat.le_of_ble_eq_true rfl⟩ ⟨Nat.le_of_ble_eq_true rfl, Nat.le_of_ble_eq_true rfl⟩) hM (fun r1 n2 f1 H locs hp hM => ?_)
  obtain ⟨rfl, rfl, ef1⟩ : r1 = 0 ∧ n2 = 220 ∧ f1 = f := hp
  exact m_zret C hr hlk hM rfl (⟨rfl, rfl, by rw [ef1]⟩) dX13_isText_9
set_option maxHeartbeats 4000000 in
set_option maxRecDepth 100000 in
theorem a_X13_apart_2 (l : Launch) (D : va_G) (kc : Nat → ClassId) (b : Nat) (f : Nat → va_E) (h192 : f 192 = .inr (13, [.ref (b + 193), .ref (b + 194), .ref (b + 195), .int 0, .int 0, .int 0, .ref (b + 196), .ref (b + 197), .int 0, .int 0, .int 0, .int 0, .int 0, .int 0, .int 0, .int (-1), .ref (b + 198), .ref (b + 199), .ref (b + 200), .ref (b + 201), .ref (b + 202), .ref (b + 203), .ref (b + 204), .ref (b + 205), .ref (b + 206), .ref (b + 207), .ref (b + 208), .int 0, .ref (b + 209), .ref (b + 210), .ref (b + 211), .ref (b + 212), .ref (b + 213), .ref (b + 214), .ref (b + 215), .int 0, .int 0, .int 0, .int 0, .ref (b + 216), .ref (b + 217), .ref (b + 218), .ref (b + 219)])) (h215 : f 215 = .inl (kc 1, 103041, .inl (fun _ => 0))) : mMi l yX13_apart cX13_apart 8 .int 2 0 0 D kc b 220 f [.ref (b + 192), .int 0, .int 0, .int 0, .int 0] (fun r u => r = 0 ∧ u.1 = 220 ∧ u.2 = va_up f 215 (.inl (kc 1, 103041, .inl (upd (fun _ => 0) 0 0)))) := by
  refine m_start (by decide) (Nat.le_of_ble_eq_true rfl) ?_
  intro p e s m below meth c C hr hlk hnm hM ls hl
  obtain ⟨hx, hb, hml, hown, hts, hE, hbs⟩ := id C
  have hl : lv_has ls 8 [(0, .ref (b + 192)), (1, .int 0), (2, .int 0), (3, .int 0), (4, .int 0)] := hl
  refine lv_iload_n hx hb dX13_apart_0 rfl (lv_at hl 2 rfl) ?_
  refine lv_istore (lv' := [(5, .int 0), (0, .ref (b + 192)), (1, .int 0), (2, .int 0), (3, .int 0), (4, .int 0)]) hx hb dX13_apart_1 hl (by decide) rfl (fun ls hl => ?_)
  refine lv_iload hx hb dX13_apart_3 (lv_at hl 0 rfl) ?_
  refine lv_if_lt (tgt := 166) hx hb dX13_apart_5 (by decide) (fun h => absurd h (by decide)) (fun _ => ?_)
  refine lv_iload hx hb dX13_apart_8 (lv_at hl 5 rfl) ?_
  refine lv_istore (lv' := [(6, .int 0), (5, .int 0), (0, .ref (b + 192)), (1, .int 0), (2, .int 0), (3, .int 0), (4, .int 0)]) hx hb dX13_apart_10 hl (by decide) rfl (fun ls hl => ?_)
  refine lv_iload hx hb dX13_apart_12 (lv_at hl 0 rfl) ?_
  refine lv_if_lt (tgt := 160) hx hb dX13_apart_14 (by decide) (fun h => absurd h (by decide)) (fun _ => ?_)
  refine lv_iload hx hb dX13_apart_17 (lv_at hl 1 rfl) ?_
  refine lv_iload_n hx hb dX13_apart_19 rfl (lv_at hl 4 rfl) ?_
  refine lv_icmp_ne (tgt := 31) hx hb dX13_apart_20 (by decide) (fun h => absurd (by decide) h) (fun _ => ?_)
  refine lv_iload hx hb dX13_apart_23 (lv_at hl 6 rfl) ?_
  refine lv_iload hx hb dX13_apart_25 (lv_at hl 0 rfl) ?_
  refine lv_isub hx hb dX13_apart_27 ?_
  refine m_vi (y := 0) (by decide) ?_
  refine lv_goto (tgt := 85) hx hb dX13_apart_28 (by decide) ?_
  refine lv_istore (lv' := [(7, .int 0), (6, .int 0), (5, .int 0), (0, .ref (b + 192)), (1, .int 0), (2, .int 0), (3, .int 0), (4, .int 0)]) hx hb dX13_apart_85 hl (by decide) rfl (fun ls hl => ?_)
  refine lv_iload hx hb dX13_apart_87 (lv_at hl 2 rfl) ?_
  refine lv_iload_n hx hb dX13_apart_89 rfl (lv_at hl 5 rfl) ?_
  refine lv_icmp_ge (tgt := 140) hx hb dX13_apart_90 (by decide) (fun _ => ?_) (fun h => absurd (by decide) h)
  refine lv_aload_n hx hb dX13_apart_140 rfl (lv_at hl 3 rfl) ?_
  refine m_get fl_X13_121_X13 C hM (i := 192) (by decide) h192 (v := .ref (b + 215)) rfl dX13_apart_141 ?_
  refine lv_iload hx hb dX13_apart_144 (lv_at hl 2 rfl) ?_
  refine lv_iload hx hb dX13_apart_146 (lv_at hl 1 rfl) ?_
  refine m_goi (m_runS calS_X13_at wd_1432 (a_X13_at_0 l D kc b f) C hM hl.1 rfl rfl (Nat.le_of_ble_eq_true rfl) dX13_apart_148 ⟨Nat.le_of_ble_eq_true rfl, Nat.le_of_ble_eq_true rfl⟩ ⟨Nat.le_of_ble_eq_true rfl, Nat.le_of_ble_eq_true rfl⟩) hM (fun r1 n2 f1 H locs hp hM => ?_)
  have hp : r1 = 0 ∧ n2 = 220 ∧ f1 = f := hp
  obtain ⟨rfl, rfl, ef1⟩ := hp
  refine lv_iload hx hb dX13_apart_151 (lv_at hl 0 rfl) ?_
  have h215_1 : f1 215 = .inl (kc 1, 103041, .inl (fun _ => 0)) := m_sm ef1 h215
  refine m_iast C hM (j := 215) (by decide) h215_1 (m_in (by decide)) dX13_apart_153 (fun H locs f2 ef2 hM => ?_)
  have ef2 : f2 = va_up f1 215 (.inl (kc 1, 103041, .inl (upd (fun _ => 0) 0 0))) := ef2
  refine lv_iinc (v := (-1)) (lv' := [(6, .int (-1)), (7, .int 0), (5, .int 0), (0, .ref (b + 192)), (1, .int 0), (2, .int 0), (3, .int 0), (4, .int 0)]) hx hb dX13_apart_154 hl (k := 1) rfl (by decide) (by decide) rfl (fun ls hl => ?_)
  refine lv_goto (tgt := 12) hx hb dX13_apart_157 (by decide) ?_
  refine lv_iload hx hb dX13_apart_12 (lv_at hl 0 rfl) ?_
  refine lv_if_lt (tgt := 160) hx hb dX13_apart_14 (by decide) (fun _ => ?_) (fun h => absurd (by decide) h)
  refine lv_iinc (v := (-1)) (lv' := [(5, .int (-1)), (6, .int (-1)), (7, .int 0), (0, .ref (b + 192)), (1, .int 0), (2, .int 0), (3, .int 0), (4, .int 0)]) hx hb dX13_apart_160 hl (k := 2) rfl (by decide) (by decide) rfl (fun ls hl => ?_)
  refine lv_goto (tgt := 3) hx hb dX13_apart_163 (by decide) ?_
  refine lv_iload hx hb dX13_apart_3 (lv_at hl 0 rfl) ?_
  refine lv_if_lt (tgt := 166) hx hb dX13_apart_5 (by decide) (fun _ => ?_) (fun h => absurd (by decide) h)
  refine lv_aload_n hx hb dX13_apart_166 rfl (lv_at hl 3 rfl) ?_
  have h192_1 : f1 192 = .inr (13, [.ref (b + 193), .ref (b + 194), .ref (b + 195), .int 0, .int 0, .int 0, .ref (b + 196), .ref (b + 197), .int 0, .int 0, .int 0, .int 0, .int 0, .int 0, .int 0, .int (-1), .ref (b + 198), .ref (b + 199), .ref (b + 200), .ref (b + 201), .ref (b + 202), .ref (b + 203), .ref (b + 204), .ref (b + 205), .ref (b + 206), .ref (b + 207), .ref (b + 208), .int 0, .ref (b + 209), .ref (b + 210), .ref (b + 211), .ref (b + 212), .ref (b + 213), .ref (b + 214), .ref (b + 215), .int 0, .int 0, .int 0, .int 0, .ref (b + 216), .ref (b + 217), .ref (b + 218), .ref (b + 219)]) := m_sm ef1 h192
  have h192_2 : f2 192 = .inr (13, [.ref (b + 193), .ref (b + 194), .ref (b + 195), .int 0, .int 0, .int 0, .ref (b + 196), .ref (b + 197), .int 0, .int 0, .int 0, .int 0, .int 0, .int 0, .int 0, .int (-1), .ref (b + 198), .ref (b + 199), .ref (b + 200), .ref (b + 201), .ref (b + 202), .ref (b + 203), .ref (b + 204), .ref (b + 205), .ref (b + 206), .ref (b + 207), .ref (b + 208), .int 0, .ref (b + 209), .ref (b + 210), .ref (b + 211), .ref (b + 212), .ref (b + 213), .ref (b + 214), .ref (b + 215), .int 0, .int 0, .int 0, .int 0, .ref (b + 216), .ref (b + 217), .ref (b + 218), .ref (b + 219)]) := m_ne ef2 h192_1 (by decide)
  refine m_get fl_X13_121_X13 C hM (i := 192) (by decide) h192_2 (v := .ref (b + 215)) rfl dX13_apart_167 ?_
  refine lv_iconst (v := 0) hx hb dX13_apart_170 (by decide) ?_
  have h215_2 : f2 215 = .inl (kc 1, 103041, .inl (upd (fun _ => 0) 0 0)) := m_eq ef2
  refine m_iald C hM (j := 215) (by decide) h215_2 (m_in (by decide)) dX13_apart_171 ?_
  refine m_vi (y := 0) (by decide) ?_
  exact m_iret C hr hlk hM (⟨rfl, rfl, by rw [ef2, ef1]⟩) dX13_apart_172
set_option maxHeartbeats 4000000 in
set_option maxRecDepth 100000 in
theorem a_X13_apart_3 (l : Launch) (D : va_G) (kc : Nat → ClassId) (b : Nat) (f : Nat → va_E) (h192 : f 192 = .inr (13, [.ref (b + 193), .ref (b + 194), .ref (b + 195), .int 0, .int 0, .int 0, .ref (b + 196), .ref (b + 197), .int 0, .int 0, .int 0, .int 0, .int 0, .int 0, .int 0, .int (-1), .ref (b + 198), .ref (b + 199), .ref (b + 200), .ref (b + 201), .ref (b + 202), .ref (b + 203), .ref (b + 204), .ref (b + 205), .ref (b + 206), .ref (b + 207), .ref (b + 208), .int 0, .ref (b + 209), .ref (b + 210), .ref (b + 211), .ref (b + 212), .ref (b + 213), .ref (b + 214), .ref (b + 215), .int 0, .int 0, .int 0, .int 0, .ref (b + 216), .ref (b + 217), .ref (b + 218), .ref (b + 219)])) (h215 : f 215 = .inl (kc 1, 103041, .inl (fun _ => 0))) : mMi l yX13_apart cX13_apart 8 .int 2 0 0 D kc b 220 f [.ref (b + 192), .int 0, .int 0, .int 1, .int 0] (fun r u => r = 0 ∧ u.1 = 220 ∧ u.2 = va_up f 215 (.inl (kc 1, 103041, .inl (upd (fun _ => 0) 0 0)))) := by
  refine m_start (by decide) (Nat.le_of_ble_eq_true rfl) ?_
  intro p e s m below meth c C hr hlk hnm hM ls hl
  obtain ⟨hx, hb, hml, hown, hts, hE, hbs⟩ := id C
  have hl : lv_has ls 8 [(0, .ref (b + 192)), (1, .int 0), (2, .int 0), (3, .int 1), (4, .int 0)] := hl
  refine lv_iload_n hx hb dX13_apart_0 rfl (lv_at hl 2 rfl) ?_
  refine lv_istore (lv' := [(5, .int 0), (0, .ref (b + 192)), (1, .int 0), (2, .int 0), (3, .int 1), (4, .int 0)]) hx hb dX13_apart_1 hl (by decide) rfl (fun ls hl => ?_)
  refine lv_iload hx hb dX13_apart_3 (lv_at hl 0 rfl) ?_
  refine lv_if_lt (tgt := 166) hx hb dX13_apart_5 (by decide) (fun h => absurd h (by decide)) (fun _ => ?_)
  refine lv_iload hx hb dX13_apart_8 (lv_at hl 5 rfl) ?_
  refine lv_istore (lv' := [(6, .int 0), (5, .int 0), (0, .ref (b + 192)), (1, .int 0), (2, .int 0), (3, .int 1), (4, .int 0)]) hx hb dX13_apart_10 hl (by decide) rfl (fun ls hl => ?_)
  refine lv_iload hx hb dX13_apart_12 (lv_at hl 0 rfl) ?_
  refine lv_if_lt (tgt := 160) hx hb dX13_apart_14 (by decide) (fun h => absurd h (by decide)) (fun _ => ?_)
  refine lv_iload hx hb dX13_apart_17 (lv_at hl 1 rfl) ?_
  refine lv_iload_n hx hb dX13_apart_19 rfl (lv_at hl 4 rfl) ?_
  refine lv_icmp_ne (tgt := 31) hx hb dX13_apart_20 (by decide) (fun h => absurd (by decide) h) (fun _ => ?_)
  refine lv_iload hx hb dX13_apart_23 (lv_at hl 6 rfl) ?_
  refine lv_iload hx hb dX13_apart_25 (lv_at hl 0 rfl) ?_
  refine lv_isub hx hb dX13_apart_27 ?_
  refine m_vi (y := 0) (by decide) ?_
  refine lv_goto (tgt := 85) hx hb dX13_apart_28 (by decide) ?_
  refine lv_istore (lv' := [(7, .int 0), (6, .int 0), (5, .int 0), (0, .ref (b + 192)), (1, .int 0), (2, .int 0), (3, .int 1), (4, .int 0)]) hx hb dX13_apart_85 hl (by decide) rfl (fun ls hl => ?_)
  refine lv_iload hx hb dX13_apart_87 (lv_at hl 2 rfl) ?_
  refine lv_iload_n hx hb dX13_apart_89 rfl (lv_at hl 5 rfl) ?_
  refine lv_icmp_ge (tgt := 140) hx hb dX13_apart_90 (by decide) (fun _ => ?_) (fun h => absurd (by decide) h)
  refine lv_aload_n hx hb dX13_apart_140 rfl (lv_at hl 3 rfl) ?_
  refine m_get fl_X13_121_X13 C hM (i := 192) (by decide) h192 (v := .ref (b + 215)) rfl dX13_apart_141 ?_
  refine lv_iload hx hb dX13_apart_144 (lv_at hl 2 rfl) ?_
  refine lv_iload hx hb dX13_apart_146 (lv_at hl 1 rfl) ?_
  refine m_goi (m_runS calS_X13_at wd_1432 (a_X13_at_0 l D kc b f) C hM hl.1 rfl rfl (Nat.le_of_ble_eq_true rfl) dX13_apart_148 ⟨Nat.le_of_ble_eq_true rfl, Nat.le_of_ble_eq_true rfl⟩ ⟨Nat.le_of_ble_eq_true rfl, Nat.le_of_ble_eq_true rfl⟩) hM (fun r1 n2 f1 H locs hp hM => ?_)
  have hp : r1 = 0 ∧ n2 = 220 ∧ f1 = f := hp
  obtain ⟨rfl, rfl, ef1⟩ := hp
  refine lv_iload hx hb dX13_apart_151 (lv_at hl 0 rfl) ?_
  have h215_1 : f1 215 = .inl (kc 1, 103041, .inl (fun _ => 0)) := m_sm ef1 h215
  refine m_iast C hM (j := 215) (by decide) h215_1 (m_in (by decide)) dX13_apart_153 (fun H locs f2 ef2 hM => ?_)
  have ef2 : f2 = va_up f1 215 (.inl (kc 1, 103041, .inl (upd (fun _ => 0) 0 0))) := ef2
  refine lv_iinc (v := (-1)) (lv' := [(6, .int (-1)), (7, .int 0), (5, .int 0), (0, .ref (b + 192)), (1, .int 0), (2, .int 0), (3, .int 1), (4, .int 0)]) hx hb dX13_apart_154 hl (k := 1) rfl (by decide) (by decide) rfl (fun ls hl => ?_)
  refine lv_goto (tgt := 12) hx hb dX13_apart_157 (by decide) ?_
  refine lv_iload hx hb dX13_apart_12 (lv_at hl 0 rfl) ?_
  refine lv_if_lt (tgt := 160) hx hb dX13_apart_14 (by decide) (fun _ => ?_) (fun h => absurd (by decide) h)
  refine lv_iinc (v := (-1)) (lv' := [(5, .int (-1)), (6, .int (-1)), (7, .int 0), (0, .ref (b + 192)), (1, .int 0), (2, .int 0), (3, .int 1), (4, .int 0)]) hx hb dX13_apart_160 hl (k := 2) rfl (by decide) (by decide) rfl (fun ls hl => ?_)
  refine lv_goto (tgt := 3) hx hb dX13_apart_163 (by decide) ?_
  refine lv_iload hx hb dX13_apart_3 (lv_at hl 0 rfl) ?_
  refine lv_if_lt (tgt := 166) hx hb dX13_apart_5 (by decide) (fun _ => ?_) (fun h => absurd (by decide) h)
  refine lv_aload_n hx hb dX13_apart_166 rfl (lv_at hl 3 rfl) ?_
  have h192_1 : f1 192 = .inr (13, [.ref (b + 193), .ref (b + 194), .ref (b + 195), .int 0, .int 0, .int 0, .ref (b + 196), .ref (b + 197), .int 0, .int 0, .int 0, .int 0, .int 0, .int 0, .int 0, .int (-1), .ref (b + 198), .ref (b + 199), .ref (b + 200), .ref (b + 201), .ref (b + 202), .ref (b + 203), .ref (b + 204), .ref (b + 205), .ref (b + 206), .ref (b + 207), .ref (b + 208), .int 0, .ref (b + 209), .ref (b + 210), .ref (b + 211), .ref (b + 212), .ref (b + 213), .ref (b + 214), .ref (b + 215), .int 0, .int 0, .int 0, .int 0, .ref (b + 216), .ref (b + 217), .ref (b + 218), .ref (b + 219)]) := m_sm ef1 h192
  have h192_2 : f2 192 = .inr (13, [.ref (b + 193), .ref (b + 194), .ref (b + 195), .int 0, .int 0, .int 0, .ref (b + 196), .ref (b + 197), .int 0, .int 0, .int 0, .int 0, .int 0, .int 0, .int 0, .int (-1), .ref (b + 198), .ref (b + 199), .ref (b + 200), .ref (b + 201), .ref (b + 202), .ref (b + 203), .ref (b + 204), .ref (b + 205), .ref (b + 206), .ref (b + 207), .ref (b + 208), .int 0, .ref (b + 209), .ref (b + 210), .ref (b + 211), .ref (b + 212), .ref (b + 213), .ref (b + 214), .ref (b + 215), .int 0, .int 0, .int 0, .int 0, .ref (b + 216), .ref (b + 217), .ref (b + 218), .ref (b + 219)]) := m_ne ef2 h192_1 (by decide)
  refine m_get fl_X13_121_X13 C hM (i := 192) (by decide) h192_2 (v := .ref (b + 215)) rfl dX13_apart_167 ?_
  refine lv_iconst (v := 0) hx hb dX13_apart_170 (by decide) ?_
  have h215_2 : f2 215 = .inl (kc 1, 103041, .inl (upd (fun _ => 0) 0 0)) := m_eq ef2
  refine m_iald C hM (j := 215) (by decide) h215_2 (m_in (by decide)) dX13_apart_171 ?_
  refine m_vi (y := 0) (by decide) ?_
  exact m_iret C hr hlk hM (⟨rfl, rfl, by rw [ef2, ef1]⟩) dX13_apart_172
set_option maxHeartbeats 4000000 in
set_option maxRecDepth 100000 in
theorem a_X13_apart_4 (l : Launch) (D : va_G) (kc : Nat → ClassId) (b : Nat) (f : Nat → va_E) (h192 : f 192 = .inr (13, [.ref (b + 193), .ref (b + 194), .ref (b + 195), .int 0, .int 0, .int 0, .ref (b + 196), .ref (b + 197), .int 0, .int 0, .int 0, .int 0, .int 0, .int 0, .int 0, .int (-1), .ref (b + 198), .ref (b + 199), .ref (b + 200), .ref (b + 201), .ref (b + 202), .ref (b + 203), .ref (b + 204), .ref (b + 205), .ref (b + 206), .ref (b + 207), .ref (b + 208), .int 0, .ref (b + 209), .ref (b + 210), .ref (b + 211), .ref (b + 212), .ref (b + 213), .ref (b + 214), .ref (b + 215), .int 0, .int 0, .int 0, .int 0, .ref (b + 216), .ref (b + 217), .ref (b + 218), .ref (b + 219)])) (h215 : f 215 = .inl (kc 1, 103041, .inl (fun _ => 0))) : mMi l yX13_apart cX13_apart 8 .int 2 0 0 D kc b 220 f [.ref (b + 192), .int 0, .int 0, .int 2, .int 0] (fun r u => r = 0 ∧ u.1 = 220 ∧ u.2 = va_up f 215 (.inl (kc 1, 103041, .inl (upd (fun _ => 0) 0 0)))) := by
  refine m_start (by decide) (Nat.le_of_ble_eq_true rfl) ?_
  intro p e s m below meth c C hr hlk hnm hM ls hl
  obtain ⟨hx, hb, hml, hown, hts, hE, hbs⟩ := id C
  have hl : lv_has ls 8 [(0, .ref (b + 192)), (1, .int 0), (2, .int 0), (3, .int 2), (4, .int 0)] := hl
  refine lv_iload_n hx hb dX13_apart_0 rfl (lv_at hl 2 rfl) ?_
  refine lv_istore (lv' := [(5, .int 0), (0, .ref (b + 192)), (1, .int 0), (2, .int 0), (3, .int 2), (4, .int 0)]) hx hb dX13_apart_1 hl (by decide) rfl (fun ls hl => ?_)
  refine lv_iload hx hb dX13_apart_3 (lv_at hl 0 rfl) ?_
  refine lv_if_lt (tgt := 166) hx hb dX13_apart_5 (by decide) (fun h => absurd h (by decide)) (fun _ => ?_)
  refine lv_iload hx hb dX13_apart_8 (lv_at hl 5 rfl) ?_
  refine lv_istore (lv' := [(6, .int 0), (5, .int 0), (0, .ref (b + 192)), (1, .int 0), (2, .int 0), (3, .int 2), (4, .int 0)]) hx hb dX13_apart_10 hl (by decide) rfl (fun ls hl => ?_)
  refine lv_iload hx hb dX13_apart_12 (lv_at hl 0 rfl) ?_
  refine lv_if_lt (tgt := 160) hx hb dX13_apart_14 (by decide) (fun h => absurd h (by decide)) (fun _ => ?_)
  refine lv_iload hx hb dX13_apart_17 (lv_at hl 1 rfl) ?_
  refine lv_iload_n hx hb dX13_apart_19 rfl (lv_at hl 4 rfl) ?_
  refine lv_icmp_ne (tgt := 31) hx hb dX13_apart_20 (by decide) (fun h => absurd (by decide) h) (fun _ => ?_)
  refine lv_iload hx hb dX13_apart_23 (lv_at hl 6 rfl) ?_
  refine lv_iload hx hb dX13_apart_25 (lv_at hl 0 rfl) ?_
  refine lv_isub hx hb dX13_apart_27 ?_
  refine m_vi (y := 0) (by decide) ?_
  refine lv_goto (tgt := 85) hx hb dX13_apart_28 (by decide) ?_
  refine lv_istore (lv' := [(7, .int 0), (6, .int 0), (5, .int 0), (0, .ref (b + 192)), (1, .int 0), (2, .int 0), (3, .int 2), (4, .int 0)]) hx hb dX13_apart_85 hl (by decide) rfl (fun ls hl => ?_)
  refine lv_iload hx hb dX13_apart_87 (lv_at hl 2 rfl) ?_
  refine lv_iload_n hx hb dX13_apart_89 rfl (lv_at hl 5 rfl) ?_
  refine lv_icmp_ge (tgt := 140) hx hb dX13_apart_90 (by decide) (fun _ => ?_) (fun h => absurd (by decide) h)
  refine lv_aload_n hx hb dX13_apart_140 rfl (lv_at hl 3 rfl) ?_
  refine m_get fl_X13_121_X13 C hM (i := 192) (by decide) h192 (v := .ref (b + 215)) rfl dX13_apart_141 ?_
  refine lv_iload hx hb dX13_apart_144 (lv_at hl 2 rfl) ?_
  refine lv_iload hx hb dX13_apart_146 (lv_at hl 1 rfl) ?_
  refine m_goi (m_runS calS_X13_at wd_1432 (a_X13_at_0 l D kc b f) C hM hl.1 rfl rfl (Nat.le_of_ble_eq_true rfl) dX13_apart_148 ⟨Nat.le_of_ble_eq_true rfl, Nat.le_of_ble_eq_true rfl⟩ ⟨Nat.le_of_ble_eq_true rfl, Nat.le_of_ble_eq_true rfl⟩) hM (fun r1 n2 f1 H locs hp hM => ?_)
  have hp : r1 = 0 ∧ n2 = 220 ∧ f1 = f := hp
  obtain ⟨rfl, rfl, ef1⟩ := hp
  refine lv_iload hx hb dX13_apart_151 (lv_at hl 0 rfl) ?_
  have h215_1 : f1 215 = .inl (kc 1, 103041, .inl (fun _ => 0)) := m_sm ef1 h215
  refine m_iast C hM (j := 215) (by decide) h215_1 (m_in (by decide)) dX13_apart_153 (fun H locs f2 ef2 hM => ?_)
  have ef2 : f2 = va_up f1 215 (.inl (kc 1, 103041, .inl (upd (fun _ => 0) 0 0))) := ef2
  refine lv_iinc (v := (-1)) (lv' := [(6, .int (-1)), (7, .int 0), (5, .int 0), (0, .ref (b + 192)), (1, .int 0), (2, .int 0), (3, .int 2), (4, .int 0)]) hx hb dX13_apart_154 hl (k := 1) rfl (by decide) (by decide) rfl (fun ls hl => ?_)
  refine lv_goto (tgt := 12) hx hb dX13_apart_157 (by decide) ?_
  refine lv_iload hx hb dX13_apart_12 (lv_at hl 0 rfl) ?_
  refine lv_if_lt (tgt := 160) hx hb dX13_apart_14 (by decide) (fun _ => ?_) (fun h => absurd (by decide) h)
  refine lv_iinc (v := (-1)) (lv' := [(5, .int (-1)), (6, .int (-1)), (7, .int 0), (0, .ref (b + 192)), (1, .int 0), (2, .int 0), (3, .int 2), (4, .int 0)]) hx hb dX13_apart_160 hl (k := 2) rfl (by decide) (by decide) rfl (fun ls hl => ?_)
  refine lv_goto (tgt := 3) hx hb dX13_apart_163 (by decide) ?_
  refine lv_iload hx hb dX13_apart_3 (lv_at hl 0 rfl) ?_
  refine lv_if_lt (tgt := 166) hx hb dX13_apart_5 (by decide) (fun _ => ?_) (fun h => absurd (by decide) h)
  refine lv_aload_n hx hb dX13_apart_166 rfl (lv_at hl 3 rfl) ?_
  have h192_1 : f1 192 = .inr (13, [.ref (b + 193), .ref (b + 194), .ref (b + 195), .int 0, .int 0, .int 0, .ref (b + 196), .ref (b + 197), .int 0, .int 0, .int 0, .int 0, .int 0, .int 0, .int 0, .int (-1), .ref (b + 198), .ref (b + 199), .ref (b + 200), .ref (b + 201), .ref (b + 202), .ref (b + 203), .ref (b + 204), .ref (b + 205), .ref (b + 206), .ref (b + 207), .ref (b + 208), .int 0, .ref (b + 209), .ref (b + 210), .ref (b + 211), .ref (b + 212), .ref (b + 213), .ref (b + 214), .ref (b + 215), .int 0, .int 0, .int 0, .int 0, .ref (b + 216), .ref (b + 217), .ref (b + 218), .ref (b + 219)]) := m_sm ef1 h192
  have h192_2 : f2 192 = .inr (13, [.ref (b + 193), .ref (b + 194), .ref (b + 195), .int 0, .int 0, .int 0, .ref (b + 196), .ref (b + 197), .int 0, .int 0, .int 0, .int 0, .int 0, .int 0, .int 0, .int (-1), .ref (b + 198), .ref (b + 199), .ref (b + 200), .ref (b + 201), .ref (b + 202), .ref (b + 203), .ref (b + 204), .ref (b + 205), .ref (b + 206), .ref (b + 207), .ref (b + 208), .int 0, .ref (b + 209), .ref (b + 210), .ref (b + 211), .ref (b + 212), .ref (b + 213), .ref (b + 214), .ref (b + 215), .int 0, .int 0, .int 0, .int 0, .ref (b + 216), .ref (b + 217), .ref (b + 218), .ref (b + 219)]) := m_ne ef2 h192_1 (by decide)
  refine m_get fl_X13_121_X13 C hM (i := 192) (by decide) h192_2 (v := .ref (b + 215)) rfl dX13_apart_167 ?_
  refine lv_iconst (v := 0) hx hb dX13_apart_170 (by decide) ?_
  have h215_2 : f2 215 = .inl (kc 1, 103041, .inl (upd (fun _ => 0) 0 0)) := m_eq ef2
  refine m_iald C hM (j := 215) (by decide) h215_2 (m_in (by decide)) dX13_apart_171 ?_
  refine m_vi (y := 0) (by decide) ?_
  exact m_iret C hr hlk hM (⟨rfl, rfl, by rw [ef2, ef1]⟩) dX13_apart_172
set_option maxHeartbeats 4000000 in
set_option maxRecDepth 100000 in
theorem a_X13_apart_5 (l : Launch) (D : va_G) (kc : Nat → ClassId) (b : Nat) (f : Nat → va_E) (h192 : f 192 = .inr (13, [.ref (b + 193), .ref (b + 194), .ref (b + 195), .int 0, .int 0, .int 0, .ref (b + 196), .ref (b + 197), .int 0, .int 0, .int 0, .int 0, .int 0, .int 0, .int 0, .int (-1), .ref (b + 198), .ref (b + 199), .ref (b + 200), .ref (b + 201), .ref (b + 202), .ref (b + 203), .ref (b + 204), .ref (b + 205), .ref (b + 206), .ref (b + 207), .ref (b + 208), .int 0, .ref (b + 209), .ref (b + 210), .ref (b + 211), .ref (b + 212), .ref (b + 213), .ref (b + 214), .ref (b + 215), .int 0, .int 0, .int 0, .int 0, .ref (b + 216), .ref (b + 217), .ref (b + 218), .ref (b + 219)])) (h215 : f 215 = .inl (kc 1, 103041, .inl (fun _ => 0))) : mMi l yX13_apart cX13_apart 8 .int 2 0 0 D kc b 220 f [.ref (b + 192), .int 1, .int 0, .int 0, .int 0] (fun r u => r = 0 ∧ u.1 = 220 ∧ u.2 = va_up f 215 (.inl (kc 1, 103041, .inl (upd (fun _ => 0) 0 0)))) := by
  refine m_start (by decide) (Nat.le_of_ble_eq_true rfl) ?_
  intro p e s m below meth c C hr hlk hnm hM ls hl
  obtain ⟨hx, hb, hml, hown, hts, hE, hbs⟩ := id C
  have hl : lv_has ls 8 [(0, .ref (b + 192)), (1, .int 1), (2, .int 0), (3, .int 0), (4, .int 0)] := hl
  refine lv_iload_n hx hb dX13_apart_0 rfl (lv_at hl 2 rfl) ?_
  refine lv_istore (lv' := [(5, .int 0), (0, .ref (b + 192)), (1, .int 1), (2, .int 0), (3, .int 0), (4, .int 0)]) hx hb dX13_apart_1 hl (by decide) rfl (fun ls hl => ?_)
  refine lv_iload hx hb dX13_apart_3 (lv_at hl 0 rfl) ?_
  refine lv_if_lt (tgt := 166) hx hb dX13_apart_5 (by decide) (fun h => absurd h (by decide)) (fun _ => ?_)
  refine lv_iload hx hb dX13_apart_8 (lv_at hl 5 rfl) ?_
  refine lv_istore (lv' := [(6, .int 0), (5, .int 0), (0, .ref (b + 192)), (1, .int 1), (2, .int 0), (3, .int 0), (4, .int 0)]) hx hb dX13_apart_10 hl (by decide) rfl (fun ls hl => ?_)
  refine lv_iload hx hb dX13_apart_12 (lv_at hl 0 rfl) ?_
  refine lv_if_lt (tgt := 160) hx hb dX13_apart_14 (by decide) (fun h => absurd h (by decide)) (fun _ => ?_)
  refine lv_iload hx hb dX13_apart_17 (lv_at hl 1 rfl) ?_
  refine lv_iload_n hx hb dX13_apart_19 rfl (lv_at hl 4 rfl) ?_
  refine lv_icmp_ne (tgt := 31) hx hb dX13_apart_20 (by decide) (fun h => absurd (by decide) h) (fun _ => ?_)
  refine lv_iload hx hb dX13_apart_23 (lv_at hl 6 rfl) ?_
  refine lv_iload hx hb dX13_apart_25 (lv_at hl 0 rfl) ?_
  refine lv_isub hx hb dX13_apart_27 ?_
  refine m_vi (y := 0) (by decide) ?_
  refine lv_goto (tgt := 85) hx hb dX13_apart_28 (by decide) ?_
  refine lv_istore (lv' := [(7, .int 0), (6, .int 0), (5, .int 0), (0, .ref (b + 192)), (1, .int 1), (2, .int 0), (3, .int 0), (4, .int 0)]) hx hb dX13_apart_85 hl (by decide) rfl (fun ls hl => ?_)
  refine lv_iload hx hb dX13_apart_87 (lv_at hl 2 rfl) ?_
  refine lv_iload_n hx hb dX13_apart_89 rfl (lv_at hl 5 rfl) ?_
  refine lv_icmp_ge (tgt := 140) hx hb dX13_apart_90 (by decide) (fun _ => ?_) (fun h => absurd (by decide) h)
  refine lv_aload_n hx hb dX13_apart_140 rfl (lv_at hl 3 rfl) ?_
  refine m_get fl_X13_121_X13 C hM (i := 192) (by decide) h192 (v := .ref (b + 215)) rfl dX13_apart_141 ?_
  refine lv_iload hx hb dX13_apart_144 (lv_at hl 2 rfl) ?_
  refine lv_iload hx hb dX13_apart_146 (lv_at hl 1 rfl) ?_
  refine m_goi (m_runS calS_X13_at wd_1432 (a_X13_at_0 l D kc b f) C hM hl.1 rfl rfl (Nat.le_of_ble_eq_true rfl) dX13_apart_148 ⟨Nat.le_of_ble_eq_true rfl, Nat.le_of_ble_eq_true rfl⟩ ⟨Nat.le_of_ble_eq_true rfl, Nat.le_of_ble_eq_true rfl⟩) hM (fun r1 n2 f1 H locs hp hM => ?_)
  have hp : r1 = 0 ∧ n2 = 220 ∧ f1 = f := hp
  obtain ⟨rfl, rfl, ef1⟩ := hp
  refine lv_iload hx hb dX13_apart_151 (lv_at hl 0 rfl) ?_
  have h215_1 : f1 215 = .inl (kc 1, 103041, .inl (fun _ => 0)) := m_sm ef1 h215
  refine m_iast C hM (j := 215) (by decide) h215_1 (m_in (by decide)) dX13_apart_153 (fun H locs f2 ef2 hM => ?_)
  have ef2 : f2 = va_up f1 215 (.inl (kc 1, 103041, .inl (upd (fun _ => 0) 0 0))) := ef2
  refine lv_iinc (v := (-1)) (lv' := [(6, .int (-1)), (7, .int 0), (5, .int 0), (0, .ref (b + 192)), (1, .int 1), (2, .int 0), (3, .int 0), (4, .int 0)]) hx hb dX13_apart_154 hl (k := 1) rfl (by decide) (by decide) rfl (fun ls hl => ?_)
  refine lv_goto (tgt := 12) hx hb dX13_apart_157 (by decide) ?_
  refine lv_iload hx hb dX13_apart_12 (lv_at hl 0 rfl) ?_
  refine lv_if_lt (tgt := 160) hx hb dX13_apart_14 (by decide) (fun _ => ?_) (fun h => absurd (by decide) h)
  refine lv_iinc (v := (-1)) (lv' := [(5, .int (-1)), (6, .int (-1)), (7, .int 0), (0, .ref (b + 192)), (1, .int 1), (2, .int 0), (3, .int 0), (4, .int 0)]) hx hb dX13_apart_160 hl (k := 2) rfl (by decide) (by decide) rfl (fun ls hl => ?_)
  refine lv_goto (tgt := 3) hx hb dX13_apart_163 (by decide) ?_
  refine lv_iload hx hb dX13_apart_3 (lv_at hl 0 rfl) ?_
  refine lv_if_lt (tgt := 166) hx hb dX13_apart_5 (by decide) (fun _ => ?_) (fun h => absurd (by decide) h)
  refine lv_aload_n hx hb dX13_apart_166 rfl (lv_at hl 3 rfl) ?_
  have h192_1 : f1 192 = .inr (13, [.ref (b + 193), .ref (b + 194), .ref (b + 195), .int 0, .int 0, .int 0, .ref (b + 196), .ref (b + 197), .int 0, .int 0, .int 0, .int 0, .int 0, .int 0, .int 0, .int (-1), .ref (b + 198), .ref (b + 199), .ref (b + 200), .ref (b + 201), .ref (b + 202), .ref (b + 203), .ref (b + 204), .ref (b + 205), .ref (b + 206), .ref (b + 207), .ref (b + 208), .int 0, .ref (b + 209), .ref (b + 210), .ref (b + 211), .ref (b + 212), .ref (b + 213), .ref (b + 214), .ref (b + 215), .int 0, .int 0, .int 0, .int 0, .ref (b + 216), .ref (b + 217), .ref (b + 218), .ref (b + 219)]) := m_sm ef1 h192
  have h192_2 : f2 192 = .inr (13, [.ref (b + 193), .ref (b + 194), .ref (b + 195), .int 0, .int 0, .int 0, .ref (b + 196), .ref (b + 197), .int 0, .int 0, .int 0, .int 0, .int 0, .int 0, .int 0, .int (-1), .ref (b + 198), .ref (b + 199), .ref (b + 200), .ref (b + 201), .ref (b + 202), .ref (b + 203), .ref (b + 204), .ref (b + 205), .ref (b + 206), .ref (b + 207), .ref (b + 208), .int 0, .ref (b + 209), .ref (b + 210), .ref (b + 211), .ref (b + 212), .ref (b + 213), .ref (b + 214), .ref (b + 215), .int 0, .int 0, .int 0, .int 0, .ref (b + 216), .ref (b + 217), .ref (b + 218), .ref (b + 219)]) := m_ne ef2 h192_1 (by decide)
  refine m_get fl_X13_121_X13 C hM (i := 192) (by decide) h192_2 (v := .ref (b + 215)) rfl dX13_apart_167 ?_
  refine lv_iconst (v := 0) hx hb dX13_apart_170 (by decide) ?_
  have h215_2 : f2 215 = .inl (kc 1, 103041, .inl (upd (fun _ => 0) 0 0)) := m_eq ef2
  refine m_iald C hM (j := 215) (by decide) h215_2 (m_in (by decide)) dX13_apart_171 ?_
  refine m_vi (y := 0) (by decide) ?_
  exact m_iret C hr hlk hM (⟨rfl, rfl, by rw [ef2, ef1]⟩) dX13_apart_172
set_option maxHeartbeats 4000000 in
set_option maxRecDepth 100000 in
theorem a_X13_apart_6 (l : Launch) (D : va_G) (kc : Nat → ClassId) (b : Nat) (f : Nat → va_E) (h192 : f 192 = .inr (13, [.ref (b + 193), .ref (b + 194), .ref (b + 195), .int 0, .int 0, .int 0, .ref (b + 196), .ref (b + 197), .int 0, .int 0, .int 0, .int 0, .int 0, .int 0, .int 0, .int (-1), .ref (b + 198), .ref (b + 199), .ref (b + 200), .ref (b + 201), .ref (b + 202), .ref (b + 203), .ref (b + 204), .ref (b + 205), .ref (b + 206), .ref (b + 207), .ref (b + 208), .int 0, .ref (b + 209), .ref (b + 210), .ref (b + 211), .ref (b + 212), .ref (b + 213), .ref (b + 214), .ref (b + 215), .int 0, .int 0, .int 0, .int 0, .ref (b + 216), .ref (b + 217), .ref (b + 218), .ref (b + 219)])) (h215 : f 215 = .inl (kc 1, 103041, .inl (fun _ => 0))) : mMi l yX13_apart cX13_apart 8 .int 2 0 0 D kc b 220 f [.ref (b + 192), .int 1, .int 0, .int 1, .int 0] (fun r u => r = 0 ∧ u.1 = 220 ∧ u.2 = va_up f 215 (.inl (kc 1, 103041, .inl (upd (fun _ => 0) 0 0)))) := by
  refine m_start (by decide) (Nat.le_of_ble_eq_true rfl) ?_
  intro p e s m below meth c C hr hlk hnm hM ls hl
  obtain ⟨hx, hb, hml, hown, hts, hE, hbs⟩ := id C
  have hl : lv_has ls 8 [(0, .ref (b + 192)), (1, .int 1), (2, .int 0), (3, .int 1), (4, .int 0)] := hl
  refine lv_iload_n hx hb dX13_apart_0 rfl (lv_at hl 2 rfl) ?_
  refine lv_istore (lv' := [(5, .int 0), (0, .ref (b + 192)), (1, .int 1), (2, .int 0), (3, .int 1), (4, .int 0)]) hx hb dX13_apart_1 hl (by decide) rfl (fun ls hl => ?_)
  refine lv_iload hx hb dX13_apart_3 (lv_at hl 0 rfl) ?_
  refine lv_if_lt (tgt := 166) hx hb dX13_apart_5 (by decide) (fun h => absurd h (by decide)) (fun _ => ?_)
  refine lv_iload hx hb dX13_apart_8 (lv_at hl 5 rfl) ?_
  refine lv_istore (lv' := [(6, .int 0), (5, .int 0), (0, .ref (b + 192)), (1, .int 1), (2, .int 0), (3, .int 1), (4, .int 0)]) hx hb dX13_apart_10 hl (by decide) rfl (fun ls hl => ?_)
  refine lv_iload hx hb dX13_apart_12 (lv_at hl 0 rfl) ?_
  refine lv_if_lt (tgt := 160) hx hb dX13_apart_14 (by decide) (fun h => absurd h (by decide)) (fun _ => ?_)
  refine lv_iload hx hb dX13_apart_17 (lv_at hl 1 rfl) ?_
  refine lv_iload_n hx hb dX13_apart_19 rfl (lv_at hl 4 rfl) ?_
  refine lv_icmp_ne (tgt := 31) hx hb dX13_apart_20 (by decide) (fun h => absurd (by decide) h) (fun _ => ?_)
  refine lv_iload hx hb dX13_apart_23 (lv_at hl 6 rfl) ?_
  refine lv_iload hx hb dX13_apart_25 (lv_at hl 0 rfl) ?_
  refine lv_isub hx hb dX13_apart_27 ?_
  refine m_vi (y := 0) (by decide) ?_
  refine lv_goto (tgt := 85) hx hb dX13_apart_28 (by decide) ?_
  refine lv_istore (lv' := [(7, .int 0), (6, .int 0), (5, .int 0), (0, .ref (b + 192)), (1, .int 1), (2, .int 0), (3, .int 1), (4, .int 0)]) hx hb dX13_apart_85 hl (by decide) rfl (fun ls hl => ?_)
  refine lv_iload hx hb dX13_apart_87 (lv_at hl 2 rfl) ?_
  refine lv_iload_n hx hb dX13_apart_89 rfl (lv_at hl 5 rfl) ?_
  refine lv_icmp_ge (tgt := 140) hx hb dX13_apart_90 (by decide) (fun _ => ?_) (fun h => absurd (by decide) h)
  refine lv_aload_n hx hb dX13_apart_140 rfl (lv_at hl 3 rfl) ?_
  refine m_get fl_X13_121_X13 C hM (i := 192) (by decide) h192 (v := .ref (b + 215)) rfl dX13_apart_141 ?_
  refine lv_iload hx hb dX13_apart_144 (lv_at hl 2 rfl) ?_
  refine lv_iload hx hb dX13_apart_146 (lv_at hl 1 rfl) ?_
  refine m_goi (m_runS calS_X13_at wd_1432 (a_X13_at_0 l D kc b f) C hM hl.1 rfl rfl (Nat.le_of_ble_eq_true rfl) dX13_apart_148 ⟨Nat.le_of_ble_eq_true rfl, Nat.le_of_ble_eq_true rfl⟩ ⟨Nat.le_of_ble_eq_true rfl, Nat.le_of_ble_eq_true rfl⟩) hM (fun r1 n2 f1 H locs hp hM => ?_)
  have hp : r1 = 0 ∧ n2 = 220 ∧ f1 = f := hp
  obtain ⟨rfl, rfl, ef1⟩ := hp
  refine lv_iload hx hb dX13_apart_151 (lv_at hl 0 rfl) ?_
  have h215_1 : f1 215 = .inl (kc 1, 103041, .inl (fun _ => 0)) := m_sm ef1 h215
  refine m_iast C hM (j := 215) (by decide) h215_1 (m_in (by decide)) dX13_apart_153 (fun H locs f2 ef2 hM => ?_)
  have ef2 : f2 = va_up f1 215 (.inl (kc 1, 103041, .inl (upd (fun _ => 0) 0 0))) := ef2
  refine lv_iinc (v := (-1)) (lv' := [(6, .int (-1)), (7, .int 0), (5, .int 0), (0, .ref (b + 192)), (1, .int 1), (2, .int 0), (3, .int 1), (4, .int 0)]) hx hb dX13_apart_154 hl (k := 1) rfl (by decide) (by decide) rfl (fun ls hl => ?_)
  refine lv_goto (tgt := 12) hx hb dX13_apart_157 (by decide) ?_
  refine lv_iload hx hb dX13_apart_12 (lv_at hl 0 rfl) ?_
  refine lv_if_lt (tgt := 160) hx hb dX13_apart_14 (by decide) (fun _ => ?_) (fun h => absurd (by decide) h)
  refine lv_iinc (v := (-1)) (lv' := [(5, .int (-1)), (6, .int (-1)), (7, .int 0), (0, .ref (b + 192)), (1, .int 1), (2, .int 0), (3, .int 1), (4, .int 0)]) hx hb dX13_apart_160 hl (k := 2) rfl (by decide) (by decide) rfl (fun ls hl => ?_)
  refine lv_goto (tgt := 3) hx hb dX13_apart_163 (by decide) ?_
  refine lv_iload hx hb dX13_apart_3 (lv_at hl 0 rfl) ?_
  refine lv_if_lt (tgt := 166) hx hb dX13_apart_5 (by decide) (fun _ => ?_) (fun h => absurd (by decide) h)
  refine lv_aload_n hx hb dX13_apart_166 rfl (lv_at hl 3 rfl) ?_
  have h192_1 : f1 192 = .inr (13, [.ref (b + 193), .ref (b + 194), .ref (b + 195), .int 0, .int 0, .int 0, .ref (b + 196), .ref (b + 197), .int 0, .int 0, .int 0, .int 0, .int 0, .int 0, .int 0, .int (-1), .ref (b + 198), .ref (b + 199), .ref (b + 200), .ref (b + 201), .ref (b + 202), .ref (b + 203), .ref (b + 204), .ref (b + 205), .ref (b + 206), .ref (b + 207), .ref (b + 208), .int 0, .ref (b + 209), .ref (b + 210), .ref (b + 211), .ref (b + 212), .ref (b + 213), .ref (b + 214), .ref (b + 215), .int 0, .int 0, .int 0, .int 0, .ref (b + 216), .ref (b + 217), .ref (b + 218), .ref (b + 219)]) := m_sm ef1 h192
  have h192_2 : f2 192 = .inr (13, [.ref (b + 193), .ref (b + 194), .ref (b + 195), .int 0, .int 0, .int 0, .ref (b + 196), .ref (b + 197), .int 0, .int 0, .int 0, .int 0, .int 0, .int 0, .int 0, .int (-1), .ref (b + 198), .ref (b + 199), .ref (b + 200), .ref (b + 201), .ref (b + 202), .ref (b + 203), .ref (b + 204), .ref (b + 205), .ref (b + 206), .ref (b + 207), .ref (b + 208), .int 0, .ref (b + 209), .ref (b + 210), .ref (b + 211), .ref (b + 212), .ref (b + 213), .ref (b + 214), .ref (b + 215), .int 0, .int 0, .int 0, .int 0, .ref (b + 216), .ref (b + 217), .ref (b + 218), .ref (b + 219)]) := m_ne ef2 h192_1 (by decide)
  refine m_get fl_X13_121_X13 C hM (i := 192) (by decide) h192_2 (v := .ref (b + 215)) rfl dX13_apart_167 ?_
  refine lv_iconst (v := 0) hx hb dX13_apart_170 (by decide) ?_
  have h215_2 : f2 215 = .inl (kc 1, 103041, .inl (upd (fun _ => 0) 0 0)) := m_eq ef2
  refine m_iald C hM (j := 215) (by decide) h215_2 (m_in (by decide)) dX13_apart_171 ?_
  refine m_vi (y := 0) (by decide) ?_
  exact m_iret C hr hlk hM (⟨rfl, rfl, by rw [ef2, ef1]⟩) dX13_apart_172
