set_option maxHeartbeats 4000000 in
set_option maxRecDepth 100000 in
theorem a_X13_judge_0 (l : Launch) (D : va_G) (kc : Nat → ClassId) (b : Nat) (f : Nat → va_E) (h192 : f 192 = .inr (13, [.ref (b + 193), .ref (b + 194), .ref (b + 195), .int 0, .int 0, .int 0, .ref (b + 196), .ref (b + 197), .int 0, .int 0, .int 0, .int 0, .int 0, .int 0, .int 0, .int (-1), .ref (b + 198), .ref (b + 199), .ref (b + 200), .ref (b + 201), .ref (b + 202), .ref (b + 203), .ref (b + 204), .ref (b + 205), .ref (b + 206), .ref (b + 207), .ref (b + 208), .int 0, .ref (b + 209), .ref (b + 210), .ref (b + 211), .ref (b + 212), .ref (b + 213), .ref (b + 214), .ref (b + 215), .int 0, .int 0, .int 0, .int 0, .ref (b + 216), .ref (b + 217), .ref (b + 218), .ref (b + 219)])) : mMv l yX13_judge cX13_judge 3 1 0 0 D kc b 220 f [.ref (b + 192)] (fun u => u.1 = 220 ∧ u.2 = f) := by
  refine m_start (by decide) (Nat.le_of_ble_eq_true rfl) ?_
  intro p e s m below meth c C hr hlk hnm hM ls hl
  obtain ⟨hx, hb, hml, hown, hts, hE, hbs⟩ := id C
  have hl : lv_has ls 3 [(0, .ref (b + 192))] := hl
  refine lv_iconst (v := 0) hx hb dX13_judge_0 (by decide) ?_
  refine lv_istore_n (lv' := [(1, .int 0), (0, .ref (b + 192))]) hx hb dX13_judge_1 rfl hl (by decide) rfl (fun ls hl => ?_)
  refine lv_iload_n hx hb dX13_judge_2 rfl (lv_at hl 0 rfl) ?_
  refine lv_aload_n hx hb dX13_judge_3 rfl (lv_at hl 1 rfl) ?_
  refine m_get fl_X13_153_X13 C hM (i := 192) (by decide) h192 (v := .int 0) rfl dX13_judge_4 ?_
  refine lv_icmp_ge (tgt := 144) hx hb dX13_judge_7 (by decide) (fun _ => ?_) (fun h => absurd (by decide) h)
  refine lv_iconst (v := 0) hx hb dX13_judge_144 (by decide) ?_
  refine lv_istore_n (lv' := [(1, .int 0), (0, .ref (b + 192))]) hx hb dX13_judge_145 rfl hl (by decide) rfl (fun ls hl => ?_)
  refine lv_iload_n hx hb dX13_judge_146 rfl (lv_at hl 0 rfl) ?_
  refine lv_bipush (v := 10) hx hb dX13_judge_147 (by decide) ?_
  refine lv_icmp_ge (tgt := 204) hx hb dX13_judge_149 (by decide) (fun h => absurd h (by decide)) (fun _ => ?_)
  refine lv_iconst (v := 0) hx hb dX13_judge_152 (by decide) ?_
  refine lv_istore_n (lv' := [(2, .int 0), (1, .int 0), (0, .ref (b + 192))]) hx hb dX13_judge_153 rfl hl (by decide) rfl (fun ls hl => ?_)
  refine lv_iload_n hx hb dX13_judge_154 rfl (lv_at hl 0 rfl) ?_
  refine lv_aload_n hx hb dX13_judge_155 rfl (lv_at hl 2 rfl) ?_
  refine m_get fl_X13_153_X13 C hM (i := 192) (by decide) h192 (v := .int 0) rfl dX13_judge_156 ?_
  refine lv_icmp_ge (tgt := 198) hx hb dX13_judge_159 (by decide) (fun _ => ?_) (fun h => absurd (by decide) h)
  refine lv_iinc (v := 1) (lv' := [(1, .int 1), (2, .int 0), (0, .ref (b + 192))]) hx hb dX13_judge_198 hl (k := 1) rfl (by decide) (by decide) rfl (fun ls hl => ?_)
  refine lv_goto (tgt := 146) hx hb dX13_judge_201 (by decide) ?_
  refine lv_iload_n hx hb dX13_judge_146 rfl (lv_at hl 0 rfl) ?_
  refine lv_bipush (v := 10) hx hb dX13_judge_147 (by decide) ?_
  refine lv_icmp_ge (tgt := 204) hx hb dX13_judge_149 (by decide) (fun h => absurd h (by decide)) (fun _ => ?_)
  refine lv_iconst (v := 0) hx hb dX13_judge_152 (by decide) ?_
  refine lv_istore_n (lv' := [(2, .int 0), (1, .int 1), (0, .ref (b + 192))]) hx hb dX13_judge_153 rfl hl (by decide) rfl (fun ls hl => ?_)
  refine lv_iload_n hx hb dX13_judge_154 rfl (lv_at hl 0 rfl) ?_
  refine lv_aload_n hx hb dX13_judge_155 rfl (lv_at hl 2 rfl) ?_
  refine m_get fl_X13_153_X13 C hM (i := 192) (by decide) h192 (v := .int 0) rfl dX13_judge_156 ?_
  refine lv_icmp_ge (tgt := 198) hx hb dX13_judge_159 (by decide) (fun _ => ?_) (fun h => absurd (by decide) h)
  refine lv_iinc (v := 2) (lv' := [(1, .int 2), (2, .int 0), (0, .ref (b + 192))]) hx hb dX13_judge_198 hl (k := 1) rfl (by decide) (by decide) rfl (fun ls hl => ?_)
  refine lv_goto (tgt := 146) hx hb dX13_judge_201 (by decide) ?_
  refine lv_iload_n hx hb dX13_judge_146 rfl (lv_at hl 0 rfl) ?_
  refine lv_bipush (v := 10) hx hb dX13_judge_147 (by decide) ?_
  refine lv_icmp_ge (tgt := 204) hx hb dX13_judge_149 (by decide) (fun h => absurd h (by decide)) (fun _ => ?_)
  refine lv_iconst (v := 0) hx hb dX13_judge_152 (by decide) ?_
  refine lv_istore_n (lv' := [(2, .int 0), (1, .int 2), (0, .ref (b + 192))]) hx hb dX13_judge_153 rfl hl (by decide) rfl (fun ls hl => ?_)
  refine lv_iload_n hx hb dX13_judge_154 rfl (lv_at hl 0 rfl) ?_
  refine lv_aload_n hx hb dX13_judge_155 rfl (lv_at hl 2 rfl) ?_
  refine m_get fl_X13_153_X13 C hM (i := 192) (by decide) h192 (v := .int 0) rfl dX13_judge_156 ?_
  refine lv_icmp_ge (tgt := 198) hx hb dX13_judge_159 (by decide) (fun _ => ?_) (fun h => absurd (by decide) h)
  refine lv_iinc (v := 3) (lv' := [(1, .int 3), (2, .int 0), (0, .ref (b + 192))]) hx hb dX13_judge_198 hl (k := 1) rfl (by decide) (by decide) rfl (fun ls hl => ?_)
  refine lv_goto (tgt := 146) hx hb dX13_judge_201 (by decide) ?_
  refine lv_iload_n hx hb dX13_judge_146 rfl (lv_at hl 0 rfl) ?_
  refine lv_bipush (v := 10) hx hb dX13_judge_147 (by decide) ?_
  refine lv_icmp_ge (tgt := 204) hx hb dX13_judge_149 (by decide) (fun h => absurd h (by decide)) (fun _ => ?_)
  refine lv_iconst (v := 0) hx hb dX13_judge_152 (by decide) ?_
  refine lv_istore_n (lv' := [(2, .int 0), (1, .int 3), (0, .ref (b + 192))]) hx hb dX13_judge_153 rfl hl (by decide) rfl (fun ls hl => ?_)
  refine lv_iload_n hx hb dX13_judge_154 rfl (lv_at hl 0 rfl) ?_
  refine lv_aload_n hx hb dX13_judge_155 rfl (lv_at hl 2 rfl) ?_
  refine m_get fl_X13_153_X13 C hM (i := 192) (by decide) h192 (v := .int 0) rfl dX13_judge_156 ?_
  refine lv_icmp_ge (tgt := 198) hx hb dX13_judge_159 (by decide) (fun _ => ?_) (fun h => absurd (by decide) h)
  refine lv_iinc (v := 4) (lv' := [(1, .int 4), (2, .int 0), (0, .ref (b + 192))]) hx hb dX13_judge_198 hl (k := 1) rfl (by decide) (by decide) rfl (fun ls hl => ?_)
  refine lv_goto (tgt := 146) hx hb dX13_judge_201 (by decide) ?_
  refine lv_iload_n hx hb dX13_judge_146 rfl (lv_at hl 0 rfl) ?_
  refine lv_bipush (v := 10) hx hb dX13_judge_147 (by decide) ?_
  refine lv_icmp_ge (tgt := 204) hx hb dX13_judge_149 (by decide) (fun h => absurd h (by decide)) (fun _ => ?_)
  refine lv_iconst (v := 0) hx hb dX13_judge_152 (by decide) ?_
  refine lv_istore_n (lv' := [(2, .int 0), (1, .int 4), (0, .ref (b + 192))]) hx hb dX13_judge_153 rfl hl (by decide) rfl (fun ls hl => ?_)
  refine lv_iload_n hx hb dX13_judge_154 rfl (lv_at hl 0 rfl) ?_
  refine lv_aload_n hx hb dX13_judge_155 rfl (lv_at hl 2 rfl) ?_
  refine m_get fl_X13_153_X13 C hM (i := 192) (by decide) h192 (v := .int 0) rfl dX13_judge_156 ?_
  refine lv_icmp_ge (tgt := 198) hx hb dX13_judge_159 (by decide) (fun _ => ?_) (fun h => absurd (by decide) h)
  refine lv_iinc (v := 5) (lv' := [(1, .int 5), (2, .int 0), (0, .ref (b + 192))]) hx hb dX13_judge_198 hl (k := 1) rfl (by decide) (by decide) rfl (fun ls hl => ?_)
  refine lv_goto (tgt := 146) hx hb dX13_judge_201 (by decide) ?_
  refine lv_iload_n hx hb dX13_judge_146 rfl (lv_at hl 0 rfl) ?_
  refine lv_bipush (v := 10) hx hb dX13_judge_147 (by decide) ?_
  refine lv_icmp_ge (tgt := 204) hx hb dX13_judge_149 (by decide) (fun h => absurd h (by decide)) (fun _ => ?_)
  refine lv_iconst (v := 0) hx hb dX13_judge_152 (by decide) ?_
  refine lv_istore_n (lv' := [(2, .int 0), (1, .int 5), (0, .ref (b + 192))]) hx hb dX13_judge_153 rfl hl (by decide) rfl (fun ls hl => ?_)
  refine lv_iload_n hx hb dX13_judge_154 rfl (lv_at hl 0 rfl) ?_
  refine lv_aload_n hx hb dX13_judge_155 rfl (lv_at hl 2 rfl) ?_
  refine m_get fl_X13_153_X13 C hM (i := 192) (by decide) h192 (v := .int 0) rfl dX13_judge_156 ?_
  refine lv_icmp_ge (tgt := 198) hx hb dX13_judge_159 (by decide) (fun _ => ?_) (fun h => absurd (by decide) h)
  refine lv_iinc (v := 6) (lv' := [(1, .int 6), (2, .int 0), (0, .ref (b + 192))]) hx hb dX13_judge_198 hl (k := 1) rfl (by decide) (by decide) rfl (fun ls hl => ?_)
  refine lv_goto (tgt := 146) hx hb dX13_judge_201 (by decide) ?_
  refine lv_iload_n hx hb dX13_judge_146 rfl (lv_at hl 0 rfl) ?_
  refine lv_bipush (v := 10) hx hb dX13_judge_147 (by decide) ?_
  refine lv_icmp_ge (tgt := 204) hx hb dX13_judge_149 (by decide) (fun h => absurd h (by decide)) (fun _ => ?_)
  refine lv_iconst (v := 0) hx hb dX13_judge_152 (by decide) ?_
  refine lv_istore_n (lv' := [(2, .int 0), (1, .int 6), (0, .ref (b + 192))]) hx hb dX13_judge_153 rfl hl (by decide) rfl (fun ls hl => ?_)
  refine lv_iload_n hx hb dX13_judge_154 rfl (lv_at hl 0 rfl) ?_
  refine lv_aload_n hx hb dX13_judge_155 rfl (lv_at hl 2 rfl) ?_
  refine m_get fl_X13_153_X13 C hM (i := 192) (by decide) h192 (v := .int 0) rfl dX13_judge_156 ?_
  refine lv_icmp_ge (tgt := 198) hx hb dX13_judge_159 (by decide) (fun _ => ?_) (fun h => absurd (by decide) h)
  refine lv_iinc (v := 7) (lv' := [(1, .int 7), (2, .int 0), (0, .ref (b + 192))]) hx hb dX13_judge_198 hl (k := 1) rfl (by decide) (by decide) rfl (fun ls hl => ?_)
  refine lv_goto (tgt := 146) hx hb dX13_judge_201 (by decide) ?_
  refine lv_iload_n hx hb dX13_judge_146 rfl (lv_at hl 0 rfl) ?_
  refine lv_bipush (v := 10) hx hb dX13_judge_147 (by decide) ?_
  refine lv_icmp_ge (tgt := 204) hx hb dX13_judge_149 (by decide) (fun h => absurd h (by decide)) (fun _ => ?_)
  refine lv_iconst (v := 0) hx hb dX13_judge_152 (by decide) ?_
  refine lv_istore_n (lv' := [(2, .int 0), (1, .int 7), (0, .ref (b + 192))]) hx hb dX13_judge_153 rfl hl (by decide) rfl (fun ls hl => ?_)
  refine lv_iload_n hx hb dX13_judge_154 rfl (lv_at hl 0 rfl) ?_
  refine lv_aload_n hx hb dX13_judge_155 rfl (lv_at hl 2 rfl) ?_
  refine m_get fl_X13_153_X13 C hM (i := 192) (by decide) h192 (v := .int 0) rfl dX13_judge_156 ?_
  refine lv_icmp_ge (tgt := 198) hx hb dX13_judge_159 (by decide) (fun _ => ?_) (fun h => absurd (by decide) h)
  refine lv_iinc (v := 8) (lv' := [(1, .int 8), (2, .int 0), (0, .ref (b + 192))]) hx hb dX13_judge_198 hl (k := 1) rfl (by decide) (by decide) rfl (fun ls hl => ?_)
  refine lv_goto (tgt := 146) hx hb dX13_judge_201 (by decide) ?_
  refine lv_iload_n hx hb dX13_judge_146 rfl (lv_at hl 0 rfl) ?_
  refine lv_bipush (v := 10) hx hb dX13_judge_147 (by decide) ?_
  refine lv_icmp_ge (tgt := 204) hx hb dX13_judge_149 (by decide) (fun h => absurd h (by decide)) (fun _ => ?_)
  refine lv_iconst (v := 0) hx hb dX13_judge_152 (by decide) ?_
  refine lv_istore_n (lv' := [(2, .int 0), (1, .int 8), (0, .ref (b + 192))]) hx hb dX13_judge_153 rfl hl (by decide) rfl (fun ls hl => ?_)
  refine lv_iload_n hx hb dX13_judge_154 rfl (lv_at hl 0 rfl) ?_
  refine lv_aload_n hx hb dX13_judge_155 rfl (lv_at hl 2 rfl) ?_
  refine m_get fl_X13_153_X13 C hM (i := 192) (by decide) h192 (v := .int 0) rfl dX13_judge_156 ?_
  refine lv_icmp_ge (tgt := 198) hx hb dX13_judge_159 (by decide) (fun _ => ?_) (fun h => absurd (by decide) h)
  refine lv_iinc (v := 9) (lv' := [(1, .int 9), (2, .int 0), (0, .ref (b + 192))]) hx hb dX13_judge_198 hl (k := 1) rfl (by decide) (by decide) rfl (fun ls hl => ?_)
  refine lv_goto (tgt := 146) hx hb dX13_judge_201 (by decide) ?_
  refine lv_iload_n hx hb dX13_judge_146 rfl (lv_at hl 0 rfl) ?_
  refine lv_bipush (v := 10) hx hb dX13_judge_147 (by decide) ?_
  refine lv_icmp_ge (tgt := 204) hx hb dX13_judge_149 (by decide) (fun h => absurd h (by decide)) (fun _ => ?_)
  refine lv_iconst (v := 0) hx hb dX13_judge_152 (by decide) ?_
  refine lv_istore_n (lv' := [(2, .int 0), (1, .int 9), (0, .ref (b + 192))]) hx hb dX13_judge_153 rfl hl (by decide) rfl (fun ls hl => ?_)
  refine lv_iload_n hx hb dX13_judge_154 rfl (lv_at hl 0 rfl) ?_
  refine lv_aload_n hx hb dX13_judge_155 rfl (lv_at hl 2 rfl) ?_
  refine m_get fl_X13_153_X13 C hM (i := 192) (by decide) h192 (v := .int 0) rfl dX13_judge_156 ?_
  refine lv_icmp_ge (tgt := 198) hx hb dX13_judge_159 (by decide) (fun _ => ?_) (fun h => absurd (by decide) h)
  refine lv_iinc (v := 10) (lv' := [(1, .int 10), (2, .int 0), (0, .ref (b + 192))]) hx hb dX13_judge_198 hl (k := 1) rfl (by decide) (by decide) rfl (fun ls hl => ?_)
  refine lv_goto (tgt := 146) hx hb dX13_judge_201 (by decide) ?_
  refine lv_iload_n hx hb dX13_judge_146 rfl (lv_at hl 0 rfl) ?_
  refine lv_bipush (v := 10) hx hb dX13_judge_147 (by decide) ?_
  refine lv_icmp_ge (tgt := 204) hx hb dX13_judge_149 (by decide) (fun _ => ?_) (fun h => absurd (by decide) h)
  exact m_vret C hr hlk hM (⟨rfl, rfl⟩) dX13_judge_204
set_option maxHeartbeats 4000000 in
set_option maxRecDepth 100000 in
theorem a_X13_use_0 (l : Launch) (D : va_G) (kc : Nat → ClassId) (b : Nat) (f : Nat → va_E) (h192 : f 192 = .inr (13, [.ref (b + 193), .ref (b + 194), .ref (b + 195), .int 0, .int 0, .int 0, .ref (b + 196), .ref (b + 197), .int 0, .int 0, .int 0, .int 0, .int 0, .int 0, .int 0, .int (-1), .ref (b + 198), .ref (b + 199), .ref (b + 200), .ref (b + 201), .ref (b + 202), .ref (b + 203), .ref (b + 204), .ref (b + 205), .ref (b + 206), .ref (b + 207), .ref (b + 208), .int 0, .ref (b + 209), .ref (b + 210), .ref (b + 211), .ref (b + 212), .ref (b + 213), .ref (b + 214), .ref (b + 215), .int 0, .int 0, .int 0, .int 0, .ref (b + 216), .ref (b + 217), .ref (b + 218), .ref (b + 219)])) : mMv l yX13_use cX13_use 4 2 0 0 D kc b 220 f [.ref (b + 192), .int 0] (fun u => u.1 = 220 ∧ u.2 = f) := by
  refine m_start (by decide) (Nat.le_of_ble_eq_true rfl) ?_
  intro p e s m below meth c C hr hlk hnm hM ls hl
  obtain ⟨hx, hb, hml, hown, hts, hE, hbs⟩ := id C
  have hl : lv_has ls 4 [(0, .ref (b + 192)), (1, .int 0)] := hl
  refine lv_aload_n hx hb dX13_use_0 rfl (lv_at hl 0 rfl) ?_
  refine m_gov (m_runV calV_X13_judge wd_1352 (a_X13_judge_0 l D kc b f h192) C hM (by decide) h192 rfl hl.1 rfl rfl (Nat.le_of_ble_eq_true rfl) dX13_use_1 ⟨Nat.le_of_ble_eq_true rfl, Nat.le_of_ble_eq_true rfl⟩ ⟨Nat.le_of_ble_eq_true rfl, Nat.le_of_ble_eq_true rfl⟩) hM (fun n2 f1 H locs hp hM => ?_)
  have hp : n2 = 220 ∧ f1 = f := hp
  obtain ⟨rfl, ef1⟩ := hp
  refine lv_iconst (v := 0) hx hb dX13_use_4 (by decide) ?_
  refine lv_istore_n (lv' := [(2, .int 0), (0, .ref (b + 192)), (1, .int 0)]) hx hb dX13_use_5 rfl hl (by decide) rfl (fun ls hl => ?_)
  refine lv_iconst (v := 0) hx hb dX13_use_6 (by decide) ?_
  refine lv_istore_n (lv' := [(3, .int 0), (2, .int 0), (0, .ref (b + 192)), (1, .int 0)]) hx hb dX13_use_7 rfl hl (by decide) rfl (fun ls hl => ?_)
  refine lv_iload_n hx hb dX13_use_8 rfl (lv_at hl 0 rfl) ?_
  refine lv_aload_n hx hb dX13_use_9 rfl (lv_at hl 2 rfl) ?_
  have h192_1 : f1 192 = .inr (13, [.ref (b + 193), .ref (b + 194), .ref (b + 195), .int 0, .int 0, .int 0, .ref (b + 196), .ref (b + 197), .int 0, .int 0, .int 0, .int 0, .int 0, .int 0, .int 0, .int (-1), .ref (b + 198), .ref (b + 199), .ref (b + 200), .ref (b + 201), .ref (b + 202), .ref (b + 203), .ref (b + 204), .ref (b + 205), .ref (b + 206), .ref (b + 207), .ref (b + 208), .int 0, .ref (b + 209), .ref (b + 210), .ref (b + 211), .ref (b + 212), .ref (b + 213), .ref (b + 214), .ref (b + 215), .int 0, .int 0, .int 0, .int 0, .ref (b + 216), .ref (b + 217), .ref (b + 218), .ref (b + 219)]) := m_sm ef1 h192
  refine m_get fl_X13_153_X13 C hM (i := 192) (by decide) h192_1 (v := .int 0) rfl dX13_use_10 ?_
  refine lv_icmp_ge (tgt := 79) hx hb dX13_use_13 (by decide) (fun _ => ?_) (fun h => absurd (by decide) h)
  exact m_vret C hr hlk hM (⟨rfl, by rw [ef1]⟩) dX13_use_79
set_option maxHeartbeats 4000000 in
set_option maxRecDepth 100000 in
theorem a_X13_layGap_0 (l : Launch) (D : va_G) (kc : Nat → ClassId) (b : Nat) (f : Nat → va_E) (h192 : f 192 = .inr (13, [.ref (b + 193), .ref (b + 194), .ref (b + 195), .int 0, .int 0, .int 0, .ref (b + 196), .ref (b + 197), .int 0, .int 0, .int 0, .int 0, .int 0, .int 0, .int 0, .int (-1), .ref (b + 198), .ref (b + 199), .ref (b + 200), .ref (b + 201), .ref (b + 202), .ref (b + 203), .ref (b + 204), .ref (b + 205), .ref (b + 206), .ref (b + 207), .ref (b + 208), .int 0, .ref (b + 209), .ref (b + 210), .ref (b + 211), .ref (b + 212), .ref (b + 213), .ref (b + 214), .ref (b + 215), .int 0, .int 0, .int 0, .int 0, .ref (b + 216), .ref (b + 217), .ref (b + 218), .ref (b + 219)])) : mMv l yX13_layGap cX13_layGap 3 1 0 0 D kc b 220 f [.ref (b + 192), .int 0] (fun u => u.1 = 220 ∧ u.2 = f) := by
  refine m_start (by decide) (Nat.le_of_ble_eq_true rfl) ?_
  intro p e s m below meth c C hr hlk hnm hM ls hl
  obtain ⟨hx, hb, hml, hown, hts, hE, hbs⟩ := id C
  have hl : lv_has ls 3 [(0, .ref (b + 192)), (1, .int 0)] := hl
  refine lv_iconst (v := 0) hx hb dX13_layGap_0 (by decide) ?_
  refine lv_istore_n (lv' := [(2, .int 0), (0, .ref (b + 192)), (1, .int 0)]) hx hb dX13_layGap_1 rfl hl (by decide) rfl (fun ls hl => ?_)
  refine lv_iload_n hx hb dX13_layGap_2 rfl (lv_at hl 0 rfl) ?_
  refine lv_aload_n hx hb dX13_layGap_3 rfl (lv_at hl 1 rfl) ?_
  refine m_get fl_X13_153_X13 C hM (i := 192) (by decide) h192 (v := .int 0) rfl dX13_layGap_4 ?_
  refine lv_icmp_ge (tgt := 72) hx hb dX13_layGap_7 (by decide) (fun _ => ?_) (fun h => absurd (by decide) h)
  exact m_vret C hr hlk hM (⟨rfl, rfl⟩) dX13_layGap_72
set_option maxHeartbeats 4000000 in
set_option maxRecDepth 100000 in
theorem a_X13_make_0 (l : Launch) (D : va_G) (kc : Nat → ClassId) (b : Nat) (f : Nat → va_E) (h192 : f 192 = .inr (13, [.ref (b + 193), .ref (b + 194), .ref (b + 195), .int 0, .int 0, .int 0, .ref (b + 196), .ref (b + 197), .int 0, .int 0, .int 0, .int 0, .int 0, .int 0, .int 0, .int (-1), .ref (b + 198), .ref (b + 199), .ref (b + 200), .ref (b + 201), .ref (b + 202), .ref (b + 203), .ref (b + 204), .ref (b + 205), .ref (b + 206), .ref (b + 207), .ref (b + 208), .int 0, .ref (b + 209), .ref (b + 210), .ref (b + 211), .ref (b + 212), .ref (b + 213), .ref (b + 214), .ref (b + 215), .int 0, .int 0, .int 0, .int 0, .ref (b + 216), .ref (b + 217), .ref (b + 218), .ref (b + 219)])) : mMv l yX13_make cX13_make 2 3 0 0 D kc b 220 f [.ref (b + 192), .int 0] (fun u => u.1 = 220 ∧ u.2 = va_up f 192 (.inr (13, [.ref (b + 193), .ref (b + 194), .ref (b + 195), .int 0, .int 0, .int 0, .ref (b + 196), .ref (b + 197), .int 0, .int 0, .int 0, .int 0, .int 0, .int 0, .int 0, .int (-1), .ref (b + 198), .ref (b + 199), .ref (b + 200), .ref (b + 201), .ref (b + 202), .ref (b + 203), .ref (b + 204), .ref (b + 205), .ref (b + 206), .ref (b + 207), .ref (b + 208), .int 0, .ref (b + 209), .ref (b + 210), .ref (b + 211), .ref (b + 212), .ref (b + 213), .ref (b + 214), .ref (b + 215), .int 0, .int 0, .int 0, .int 0, .ref (b + 216), .ref (b + 217), .ref (b + 218), .ref (b + 219)]))) := by
  refine m_start (by decide) (Nat.le_of_ble_eq_true rfl) ?_
  intro p e s m below meth c C hr hlk hnm hM ls hl
  obtain ⟨hx, hb, hml, hown, hts, hE, hbs⟩ := id C
  have hl : lv_has ls 2 [(0, .ref (b + 192)), (1, .int 0)] := hl
  refine lv_aload_n hx hb dX13_make_0 rfl (lv_at hl 0 rfl) ?_
  refine lv_iload_n hx hb dX13_make_1 rfl (lv_at hl 1 rfl) ?_
  refine m_gov (m_runV calV_X13_use wd_1384 (a_X13_use_0 l D kc b f h192) C hM (by decide) h192 rfl hl.1 rfl rfl (Nat.le_of_ble_eq_true rfl) dX13_make_2 ⟨Nat.le_of_ble_eq_true rfl, Nat.le_of_ble_eq_true rfl⟩ ⟨Nat.le_of_ble_eq_true rfl, Nat.le_of_ble_eq_true rfl⟩) hM (fun n2 f1 H locs hp hM => ?_)
  have hp : n2 = 220 ∧ f1 = f := hp
  obtain ⟨rfl, ef1⟩ := hp
  refine lv_aload_n hx hb dX13_make_5 rfl (lv_at hl 0 rfl) ?_
  refine lv_iconst (v := 0) hx hb dX13_make_6 (by decide) ?_
  have h192_1 : f1 192 = .inr (13, [.ref (b + 193), .ref (b + 194), .ref (b + 195), .int 0, .int 0, .int 0, .ref (b + 196), .ref (b + 197), .int 0, .int 0, .int 0, .int 0, .int 0, .int 0, .int 0, .int (-1), .ref (b + 198), .ref (b + 199), .ref (b + 200), .ref (b + 201), .ref (b + 202), .ref (b + 203), .ref (b + 204), .ref (b + 205), .ref (b + 206), .ref (b + 207), .ref (b + 208), .int 0, .ref (b + 209), .ref (b + 210), .ref (b + 211), .ref (b + 212), .ref (b + 213), .ref (b + 214), .ref (b + 215), .int 0, .int 0, .int 0, .int 0, .ref (b + 216), .ref (b + 217), .ref (b + 218), .ref (b + 219)]) := m_sm ef1 h192
  refine m_put fl_X13_260_X13 C hM (i := 192) (by decide) h192_1 rfl rfl (Nat.le_of_ble_eq_true rfl) (fs1 := [.ref (b + 193), .ref (b + 194), .ref (b + 195), .int 0, .int 0, .int 0, .ref (b + 196), .ref (b + 197), .int 0, .int 0, .int 0, .int 0, .int 0, .int 0, .int 0, .int (-1), .ref (b + 198), .ref (b + 199), .ref (b + 200), .ref (b + 201), .ref (b + 202), .ref (b + 203), .ref (b + 204), .ref (b + 205), .ref (b + 206), .ref (b + 207), .ref (b + 208), .int 0, .ref (b + 209), .ref (b + 210), .ref (b + 211), .ref (b + 212), .ref (b + 213), .ref (b + 214), .ref (b + 215), .int 0, .int 0, .int 0, .int 0, .ref (b + 216), .ref (b + 217), .ref (b + 218), .ref (b + 219)]) rfl dX13_make_7 (fun H locs f2 ef2 hM => ?_)
  refine lv_aload_n hx hb dX13_make_10 rfl (lv_at hl 0 rfl) ?_
  have h192_2 : f2 192 = .inr (13, [.ref (b + 193), .ref (b + 194), .ref (b + 195), .int 0, .int 0, .int 0, .ref (b + 196), .ref (b + 197), .int 0, .int 0, .int 0, .int 0, .int 0, .int 0, .int 0, .int (-1), .ref (b + 198), .ref (b + 199), .ref (b + 200), .ref (b + 201), .ref (b + 202), .ref (b + 203), .ref (b + 204), .ref (b + 205), .ref (b + 206), .ref (b + 207), .ref (b + 208), .int 0, .ref (b + 209), .ref (b + 210), .ref (b + 211), .ref (b + 212), .ref (b + 213), .ref (b + 214), .ref (b + 215), .int 0, .int 0, .int 0, .int 0, .ref (b + 216), .ref (b + 217), .ref (b + 218), .ref (b + 219)]) := m_eq ef2
  refine m_get fl_X13_150_X13 C hM (i := 192) (by decide) h192_2 (v := .int 0) rfl dX13_make_11 ?_
  refine lv_if_ne (tgt := 23) hx hb dX13_make_14 (by decide) (fun h => absurd (by decide) h) (fun _ => ?_)
  refine lv_aload_n hx hb dX13_make_17 rfl (lv_at hl 0 rfl) ?_
  refine lv_iconst (v := 0) hx hb dX13_make_18 (by decide) ?_
  refine m_gov (m_runV calV_X13_layGap wd_1388 (a_X13_layGap_0 l D kc b f2 h192_2) C hM (by decide) h192_2 rfl hl.1 rfl rfl (Nat.le_of_ble_eq_true rfl) dX13_make_19 ⟨Nat.le_of_ble_eq_true rfl, Nat.le_of_ble_eq_true rfl⟩ ⟨Nat.le_of_ble_eq_true rfl, Nat.le_of_ble_eq_true rfl⟩) hM (fun n4 f3 H locs hp hM => ?_)
  have hp : n4 = 220 ∧ f3 = f2 := hp
  obtain ⟨rfl, ef3⟩ := hp
  exact m_vret C hr hlk hM (⟨rfl, by rw [ef3, ef2, ef1]⟩) dX13_make_22
set_option maxHeartbeats 4000000 in
set_option maxRecDepth 100000 in
theorem a_X13_wordsOf_2 (l : Launch) (D : va_G) (kc : Nat → ClassId) (b : Nat) (f : Nat → va_E) (h192 : f 192 = .inr (13, [.ref (b + 193), .ref (b + 194), .ref (b + 195), .int 0, .int 0, .int 0, .ref (b + 196), .ref (b + 197), .int 0, .int 0, .int 0, .int 0, .int 0, .int 0, .int 0, .int (-1), .ref (b + 198), .ref (b + 199), .ref (b + 200), .ref (b + 201), .ref (b + 202), .ref (b + 203), .ref (b + 204), .ref (b + 205), .ref (b + 206), .ref (b + 207), .ref (b + 208), .int 0, .ref (b + 209), .ref (b + 210), .ref (b + 211), .ref (b + 212), .ref (b + 213), .ref (b + 214), .ref (b + 215), .int 0, .int 0, .int 0, .int 0, .ref (b + 216), .ref (b + 217), .ref (b + 218), .ref (b + 219)])) : mMi l yX13_wordsOf cX13_wordsOf 2 .int 4 0 0 D kc b 220 f [.ref (b + 192), .int 2] (fun r u => r = 0 ∧ u.1 = 220 ∧ u.2 = va_up f 192 (.inr (13, [.ref (b + 193), .ref (b + 194), .ref (b + 195), .int 0, .int 0, .int 0, .ref (b + 196), .ref (b + 197), .int 0, .int 0, .int 0, .int 0, .int 0, .int 0, .int 0, .int (-1), .ref (b + 198), .ref (b + 199), .ref (b + 200), .ref (b + 201), .ref (b + 202), .ref (b + 203), .ref (b + 204), .ref (b + 205), .ref (b + 206), .ref (b + 207), .ref (b + 208), .int 0, .ref (b + 209), .ref (b + 210), .ref (b + 211), .ref (b + 212), .ref (b + 213), .ref (b + 214), .ref (b + 215), .int 0, .int 0, .int 0, .int 0, .ref (b + 216), .ref (b + 217), .ref (b + 218), .ref (b + 219)]))) := by
  refine m_start (by decide) (Nat.le_of_ble_eq_true rfl) ?_
  intro p e s m below meth c C hr hlk hnm hM ls hl
  obtain ⟨hx, hb, hml, hown, hts, hE, hbs⟩ := id C
  have hl : lv_has ls 2 [(0, .ref (b + 192)), (1, .int 2)] := hl
  refine lv_iload_n hx hb dX13_wordsOf_0 rfl (lv_at hl 1 rfl) ?_
  refine lv_iconst (v := 2) hx hb dX13_wordsOf_1 (by decide) ?_
  refine lv_icmp_ne (tgt := 10) hx hb dX13_wordsOf_2 (by decide) (fun h => absurd (by decide) h) (fun _ => ?_)
  refine lv_aload_n hx hb dX13_wordsOf_5 rfl (lv_at hl 0 rfl) ?_
  refine lv_iconst (v := 0) hx hb dX13_wordsOf_6 (by decide) ?_
  refine m_gov (m_runV calV_X13_make wd_1380 (a_X13_make_0 l D kc b f h192) C hM (by decide) h192 rfl hl.1 rfl rfl (Nat.le_of_ble_eq_true rfl) dX13_wordsOf_7 ⟨Nat.le_of_ble_eq_true rfl, Nat.le_of_ble_eq_true rfl⟩ ⟨Nat.le_of_ble_eq_true rfl, Nat.le_of_ble_eq_true rfl⟩) hM (fun n2 f1 H locs hp hM => ?_)
  have hp : n2 = 220 ∧ f1 = va_up f 192 (.inr (13, [.ref (b + 193), .ref (b + 194), .ref (b + 195), .int 0, .int 0, .int 0, .ref (b + 196), .ref (b + 197), .int 0, .int 0, .int 0, .int 0, .int 0, .int 0, .int 0, .int (-1), .ref (b + 198), .ref (b + 199), .ref (b + 200), .ref (b + 201), .ref (b + 202), .ref (b + 203), .ref (b + 204), .ref (b + 205), .ref (b + 206), .ref (b + 207), .ref (b + 208), .int 0, .ref (b + 209), .ref (b + 210), .ref (b + 211), .ref (b + 212), .ref (b + 213), .ref (b + 214), .ref (b + 215), .int 0, .int 0, .int 0, .int 0, .ref (b + 216), .ref (b + 217), .ref (b + 218), .ref (b + 219)])) := hp
  obtain ⟨rfl, ef1⟩ := hp
  refine lv_iload_n hx hb dX13_wordsOf_10 rfl (lv_at hl 1 rfl) ?_
  refine lv_if_ne (tgt := 21) hx hb dX13_wordsOf_11 (by decide) (fun _ => ?_) (fun h => absurd h (by decide))
  refine lv_iload_n hx hb dX13_wordsOf_21 rfl (lv_at hl 1 rfl) ?_
  refine lv_iconst (v := 1) hx hb dX13_wordsOf_22 (by decide) ?_
  refine lv_icmp_ne (tgt := 33) hx hb dX13_wordsOf_23 (by decide) (fun _ => ?_) (fun h => absurd h (by decide))
  refine lv_aload_n hx hb dX13_wordsOf_33 rfl (lv_at hl 0 rfl) ?_
  have h192_1 : f1 192 = .inr (13, [.ref (b + 193), .ref (b + 194), .ref (b + 195), .int 0, .int 0, .int 0, .ref (b + 196), .ref (b + 197), .int 0, .int 0, .int 0, .int 0, .int 0, .int 0, .int 0, .int (-1), .ref (b + 198), .ref (b + 199), .ref (b + 200), .ref (b + 201), .ref (b + 202), .ref (b + 203), .ref (b + 204), .ref (b + 205), .ref (b + 206), .ref (b + 207), .ref (b + 208), .int 0, .ref (b + 209), .ref (b + 210), .ref (b + 211), .ref (b + 212), .ref (b + 213), .ref (b + 214), .ref (b + 215), .int 0, .int 0, .int 0, .int 0, .ref (b + 216), .ref (b + 217), .ref (b + 218), .ref (b + 219)]) := m_eq ef1
  refine m_get fl_X13_260_X13 C hM (i := 192) (by decide) h192_1 (v := .int 0) rfl dX13_wordsOf_34 ?_
  exact m_iret C hr hlk hM (⟨rfl, rfl, by rw [ef1]⟩) dX13_wordsOf_37
set_option maxHeartbeats 4000000 in
set_option maxRecDepth 100000 in
theorem k_m_word (l : Launch) (D : va_G) (kc : Nat → ClassId) (b : Nat) (f : Nat → va_E) (a0 : Int32) (a1 : Int32) (h192 : f 192 = .inr (13, [.ref (b + 193), .ref (b + 194), .ref (b + 195), .int 0, .int 0, .int 0, .ref (b + 196), .ref (b + 197), .int 0, .int 0, .int 0, .int 0, .int 0, .int 0, .int 0, .int (-1), .ref (b + 198), .ref (b + 199), .ref (b + 200), .ref (b + 201), .ref (b + 202), .ref (b + 203), .ref (b + 204), .ref (b + 205), .ref (b + 206), .ref (b + 207), .ref (b + 208), .int 0, .ref (b + 209), .ref (b + 210), .ref (b + 211), .ref (b + 212), .ref (b + 213), .ref (b + 214), .ref (b + 215), .int 0, .int 0, .int 0, .int 0, .ref (b + 216), .ref (b + 217), .ref (b + 218), .ref (b + 219)])) : mMl l yX13_word cX13_word 3 .long 5 0 0 D kc b 220 f [.ref (b + 192), .int a0, .int a1] (fun r u => r = 0) := by
  refine m_start (by decide) (Nat.le_of_ble_eq_true rfl) ?_
  intro p e s m below meth c C hr hlk hnm hM ls hl
  obtain ⟨hx, hb, hml, hown, hts, hE, hbs⟩ := id C
  have hl : lv_has ls 3 [(0, .ref (b + 192)), (1, .int a0), (2, .int a1)] := hl
  by_cases q1 : a0 < 0
  · refine lv_iload_n hx hb dX13_word_0 rfl (lv_at hl 1 rfl) ?_
    refine m_goi (m_runS calS_X13_isText wd_1373 (a_X13_isText_0 l D kc b f a0 q1) C hM hl.1 rfl rfl (Nat.le_of_ble_eq_true rfl) dX13_word_1 ⟨Nat.le_of_ble_eq_true rfl, Nat.le_of_ble_eq_true rfl⟩ ⟨Nat.le_of_ble_eq_true rfl, Nat.le_of_ble_eq_true rfl⟩) hM (fun r2 n3 f1 H locs hp hM => ?_)
    have hp : r2 = 0 ∧ n3 = 220 ∧ f1 = f := hp
    obtain ⟨rfl, rfl, ef1⟩ := hp
    refine lv_if_eq (tgt := 33) hx hb dX13_word_4 (by decide) (fun _ => ?_) (fun h => absurd (by decide) h)
    refine lv_lconst (v := 0) hx hb dX13_word_33 (by decide) ?_
    exact m_lret C hr hlk hM (rfl) dX13_word_34
  by_cases q4 : 2 < a0
  · refine lv_iload_n hx hb dX13_word_0 rfl (lv_at hl 1 rfl) ?_
    refine m_goi (m_runS calS_X13_isText wd_1373 (a_X13_isText_1 l D kc b f a0 q1 q4) C hM hl.1 rfl rfl (Nat.le_of_ble_eq_true rfl) dX13_word_1 ⟨Nat.le_of_ble_eq_true rfl, Nat.le_of_ble_eq_true rfl⟩ ⟨Nat.le_of_ble_eq_true rfl, Nat.le_of_ble_eq_true rfl⟩) hM (fun r5 n6 f1 H locs hp hM => ?_)
    have hp : r5 = 0 ∧ n6 = 220 ∧ f1 = f := hp
    obtain ⟨rfl, rfl, ef1⟩ := hp
    refine lv_if_eq (tgt := 33) hx hb dX13_word_4 (by decide) (fun _ => ?_) (fun h => absurd (by decide) h)
    refine lv_lconst (v := 0) hx hb dX13_word_33 (by decide) ?_
    exact m_lret C hr hlk hM (rfl) dX13_word_34
  by_cases s7 : a0 = 0
  · subst s7
    refine lv_iload_n hx hb dX13_word_0 rfl (lv_at hl 1 rfl) ?_
    refine m_goi (m_runS calS_X13_isText wd_1373 (a_X13_isText_2 l D kc b f) C hM hl.1 rfl rfl (Nat.le_of_ble_eq_true rfl) dX13_word_1 ⟨Nat.le_of_ble_eq_true rfl, Nat.le_of_ble_eq_true rfl⟩ ⟨Nat.le_of_ble_eq_true rfl, Nat.le_of_ble_eq_true rfl⟩) hM (fun r8 n9 f1 H locs hp hM => ?_)
    have hp : r8 = 1 ∧ n9 = 220 ∧ f1 = f := hp
    obtain ⟨rfl, rfl, ef1⟩ := hp
    refine lv_if_eq (tgt := 33) hx hb dX13_word_4 (by decide) (fun h => absurd h (by decide)) (fun _ => ?_)
    refine lv_iload_n hx hb dX13_word_7 rfl (lv_at hl 2 rfl) ?_
    refine lv_i2l hx hb dX13_word_8 rfl ?_
    refine lv_lconst (v := 0) hx hb dX13_word_9 (by decide) ?_
    refine lv_aload_n hx hb dX13_word_10 rfl (lv_at hl 0 rfl) ?_
    refine lv_iload_n hx hb dX13_word_11 rfl (lv_at hl 1 rfl) ?_
    have h192_1 : f1 192 = .inr (13, [.ref (b + 193), .ref (b + 194), .ref (b + 195), .int 0, .int 0, .int 0, .ref (b + 196), .ref (b + 197), .int 0, .int 0, .int 0, .int 0, .int 0, .int 0, .int 0, .int (-1), .ref (b + 198), .ref (b + 199), .ref (b + 200), .ref (b + 201), .ref (b + 202), .ref (b + 203), .ref (b + 204), .ref (b + 205), .ref (b + 206), .ref (b + 207), .ref (b + 208), .int 0, .ref (b + 209), .ref (b + 210), .ref (b + 211), .ref (b + 212), .ref (b + 213), .ref (b + 214), .ref (b + 215), .int 0, .int 0, .int 0, .int 0, .ref (b + 216), .ref (b + 217), .ref (b + 218), .ref (b + 219)]) := m_sm ef1 h192
    refine m_goi (m_runV calV_X13_wordsOf wd_1376 (a_X13_wordsOf_0 l D kc b f1 h192_1) C hM (by decide) h192_1 rfl hl.1 rfl rfl (Nat.le_of_ble_eq_true rfl) dX13_word_12 ⟨Nat.le_of_ble_eq_true rfl, Nat.le_of_ble_eq_true rfl⟩ ⟨Nat.le_of_ble_eq_true rfl, Nat.le_of_ble_eq_true rfl⟩) hM (fun r10 n11 f2 H locs hp hM => ?_)
    have hp : r10 = 0 ∧ n11 = 220 ∧ f2 = f1 := hp
    obtain ⟨rfl, rfl, ef2⟩ := hp
    refine lv_i2l (v := 0) hx hb dX13_word_15 (by decide) ?_
    refine lv_lconst (v := 1) hx hb dX13_word_16 (by decide) ?_
    refine lv_lsub hx hb dX13_word_17 ?_
    refine m_vl (y := (-1)) (by decide) ?_
    refine m_goi (m_runS calS_X13_in wd_1221 (k_in0 l D kc b 220 f2 a1.toInt64 0 (-1) (by rw [m_inI (a := 0) (b := (-1)) (by decide) (by decide)]; omega)) C hM hl.1 rfl rfl (Nat.le_of_ble_eq_true rfl) dX13_word_18 ⟨Nat.le_of_ble_eq_true rfl, Nat.le_of_ble_eq_true rfl⟩ ⟨Nat.le_of_ble_eq_true rfl, Nat.le_of_ble_eq_true rfl⟩) hM (fun r12 n13 f3 H locs hp hM => ?_)
    obtain ⟨rfl, rfl, ef3⟩ : r12 = 0 ∧ n13 = 220 ∧ f3 = f2 := hp
    refine lv_if_eq (tgt := 33) hx hb dX13_word_21 (by decide) (fun _ => ?_) (fun h => absurd (by decide) h)
    refine lv_lconst (v := 0) hx hb dX13_word_33 (by decide) ?_
    exact m_lret C hr hlk hM (rfl) dX13_word_34
  by_cases s14 : a0 = 1
  · subst s14
    refine lv_iload_n hx hb dX13_word_0 rfl (lv_at hl 1 rfl) ?_
    refine m_goi (m_runS calS_X13_isText wd_1373 (a_X13_isText_3 l D kc b f) C hM hl.1 rfl rfl (Nat.le_of_ble_eq_true rfl) dX13_word_1 ⟨Nat.le_of_ble_eq_true rfl, Nat.le_of_ble_eq_true rfl⟩ ⟨Nat.le_of_ble_eq_true rfl, Nat.le_of_ble_eq_true rfl⟩) hM (fun r15 n16 f1 H locs hp hM => ?_)
    have hp : r15 = 1 ∧ n16 = 220 ∧ f1 = f := hp
    obtain ⟨rfl, rfl, ef1⟩ := hp
    refine lv_if_eq (tgt := 33) hx hb dX13_word_4 (by decide) (fun h => absurd h (by decide)) (fun _ => ?_)
    refine lv_iload_n hx hb dX13_word_7 rfl (lv_at hl 2 rfl) ?_
    refine lv_i2l hx hb dX13_word_8 rfl ?_
    refine lv_lconst (v := 0) hx hb dX13_word_9 (by decide) ?_
    refine lv_aload_n hx hb dX13_word_10 rfl (lv_at hl 0 rfl) ?_
    refine lv_iload_n hx hb dX13_word_11 rfl (lv_at hl 1 rfl) ?_
    have h192_1 : f1 192 = .inr (13, [.ref (b + 193), .ref (b + 194), .ref (b + 195), .int 0, .int 0, .int 0, .ref (b + 196), .ref (b + 197), .int 0, .int 0, .int 0, .int 0, .int 0, .int 0, .int 0, .int (-1), .ref (b + 198), .ref (b + 199), .ref (b + 200), .ref (b + 201), .ref (b + 202), .ref (b + 203), .ref (b + 204), .ref (b + 205), .ref (b + 206), .ref (b + 207), .ref (b + 208), .int 0, .ref (b + 209), .ref (b + 210), .ref (b + 211), .ref (b + 212), .ref (b + 213), .ref (b + 214), .ref (b + 215), .int 0, .int 0, .int 0, .int 0, .ref (b + 216), .ref (b + 217), .ref (b + 218), .ref (b + 219)]) := m_sm ef1 h192
    refine m_goi (m_runV calV_X13_wordsOf wd_1376 (a_X13_wordsOf_1 l D kc b f1 h192_1) C hM (by decide) h192_1 rfl hl.1 rfl rfl (Nat.le_of_ble_eq_true rfl) dX13_word_12 ⟨Nat.le_of_ble_eq_true rfl, Nat.le_of_ble_eq_true rfl⟩ ⟨Nat.le_of_ble_eq_true rfl, Nat.le_of_ble_eq_true rfl⟩) hM (fun r17 n18 f2 H locs hp hM => ?_)
    have hp : r17 = 0 ∧ n18 = 220 ∧ f2 = f1 := hp
    obtain ⟨rfl, rfl, ef2⟩ := hp
    refine lv_i2l (v := 0) hx hb dX13_word_15 (by decide) ?_
    refine lv_lconst (v := 1) hx hb dX13_word_16 (by decide) ?_
    refine lv_lsub hx hb dX13_word_17 ?_
    refine m_vl (y := (-1)) (by decide) ?_
    refine m_goi (m_runS calS_X13_in wd_1221 (k_in0 l D kc b 220 f2 a1.toInt64 0 (-1) (by rw [m_inI (a := 0) (b := (-1)) (by decide) (by decide)]; omega)) C hM hl.1 rfl rfl (Nat.le_of_ble_eq_true rfl) dX13_word_18 ⟨Nat.le_of_ble_eq_true rfl, Nat.le_of_ble_eq_true rfl⟩ ⟨Nat.le_of_ble_eq_true rfl, Nat.le_of_ble_eq_true rfl⟩) hM (fun r19 n20 f3 H locs hp hM => ?_)
    obtain ⟨rfl, rfl, ef3⟩ : r19 = 0 ∧ n20 = 220 ∧ f3 = f2 := hp
    refine lv_if_eq (tgt := 33) hx hb dX13_word_21 (by decide) (fun _ => ?_) (fun h => absurd (by decide) h)
    refine lv_lconst (v := 0) hx hb dX13_word_33 (by decide) ?_
    exact m_lret C hr hlk hM (rfl) dX13_word_34
  by_cases s21 : a0 = 2
  · subst s21
    refine lv_iload_n hx hb dX13_word_0 rfl (lv_at hl 1 rfl) ?_
    refine m_goi (m_runS calS_X13_isText wd_1373 (a_X13_isText_4 l D kc b f) C hM hl.1 rfl rfl (Nat.le_of_ble_eq_true rfl) dX13_word_1 ⟨Nat.le_of_ble_eq_true rfl, Nat.le_of_ble_eq_true rfl⟩ ⟨Nat.le_of_ble_eq_true rfl, Nat.le_of_ble_eq_true rfl⟩) hM (fun r22 n23 f1 H locs hp hM => ?_)
    have hp : r22 = 1 ∧ n23 = 220 ∧ f1 = f := hp
    obtain ⟨rfl, rfl, ef1⟩ := hp
    refine lv_if_eq (tgt := 33) hx hb dX13_word_4 (by decide) (fun h => absurd h (by decide)) (fun _ => ?_)
    refine lv_iload_n hx hb dX13_word_7 rfl (lv_at hl 2 rfl) ?_
    refine lv_i2l hx hb dX13_word_8 rfl ?_
    refine lv_lconst (v := 0) hx hb dX13_word_9 (by decide) ?_
    refine lv_aload_n hx hb dX13_word_10 rfl (lv_at hl 0 rfl) ?_
    refine lv_iload_n hx hb dX13_word_11 rfl (lv_at hl 1 rfl) ?_
    have h192_1 : f1 192 = .inr (13, [.ref (b + 193), .ref (b + 194), .ref (b + 195), .int 0, .int 0, .int 0, .ref (b + 196), .ref (b + 197), .int 0, .int 0, .int 0, .int 0, .int 0, .int 0, .int 0, .int (-1), .ref (b + 198), .ref (b + 199), .ref (b + 200), .ref (b + 201), .ref (b + 202), .ref (b + 203), .ref (b + 204), .ref (b + 205), .ref (b + 206), .ref (b + 207), .ref (b + 208), .int 0, .ref (b + 209), .ref (b + 210), .ref (b + 211), .ref (b + 212), .ref (b + 213), .ref (b + 214), .ref (b + 215), .int 0, .int 0, .int 0, .int 0, .ref (b + 216), .ref (b + 217), .ref (b + 218), .ref (b + 219)]) := m_sm ef1 h192
    refine m_goi (m_runV calV_X13_wordsOf wd_1376 (a_X13_wordsOf_2 l D kc b f1 h192_1) C hM (by decide) h192_1 rfl hl.1 rfl rfl (Nat.le_of_ble_eq_true rfl) dX13_word_12 ⟨Nat.le_of_ble_eq_true rfl, Nat.le_of_ble_eq_true rfl⟩ ⟨Nat.le_of_ble_eq_true rfl, Nat.le_of_ble_eq_true rfl⟩) hM (fun r24 n25 f2 H locs hp hM => ?_)
    have hp : r24 = 0 ∧ n25 = 220 ∧ f2 = va_up f1 192 (.inr (13, [.ref (b + 193), .ref (b + 194), .ref (b + 195), .int 0, .int 0, .int 0, .ref (b + 196), .ref (b + 197), .int 0, .int 0, .int 0, .int 0, .int 0, .int 0, .int 0, .int (-1), .ref (b + 198), .ref (b + 199), .ref (b + 200), .ref (b + 201), .ref (b + 202), .ref (b + 203), .ref (b + 204), .ref (b + 205), .ref (b + 206), .ref (b + 207), .ref (b + 208), .int 0, .ref (b + 209), .ref (b + 210), .ref (b + 211), .ref (b + 212), .ref (b + 213), .ref (b + 214), .ref (b + 215), .int 0, .int 0, .int 0, .int 0, .ref (b + 216), .ref (b + 217), .ref (b + 218), .ref (b + 219)])) := hp
    obtain ⟨rfl, rfl, ef2⟩ := hp
    refine lv_i2l (v := 0) hx hb dX13_word_15 (by decide) ?_
    refine lv_lconst (v := 1) hx hb dX13_word_16 (by decide) ?_
    refine lv_lsub hx hb dX13_word_17 ?_
    refine m_vl (y := (-1)) (by decide) ?_
    refine m_goi (m_runS calS_X13_in wd_1221 (k_in0 l D kc b 220 f2 a1.toInt64 0 (-1) (by rw [m_inI (a := 0) (b := (-1)) (by decide) (by decide)]; omega)) C hM hl.1 rfl rfl (Nat.le_of_ble_eq_true rfl) dX13_word_18 ⟨Nat.le_of_ble_eq_true rfl, Nat.le_of_ble_eq_true rfl⟩ ⟨Nat.le_of_ble_eq_true rfl, Nat.le_of_ble_eq_true rfl⟩) hM (fun r26 n27 f3 H locs hp hM => ?_)
    obtain ⟨rfl, rfl, ef3⟩ : r26 = 0 ∧ n27 = 220 ∧ f3 = f2 := hp
    refine lv_if_eq (tgt := 33) hx hb dX13_word_21 (by decide) (fun _ => ?_) (fun h => absurd (by decide) h)
    refine lv_lconst (v := 0) hx hb dX13_word_33 (by decide) ?_
    exact m_lret C hr hlk hM (rfl) dX13_word_34
  exfalso; revert q1 q4 s7 s14 s21; simp only [← Int32.toInt_inj, Int32.lt_iff_toInt_lt, Int32.le_iff_toInt_le, m_lits]; omega
set_option maxHeartbeats 4000000 in
set_option maxRecDepth 100000 in
theorem a_X13_isMark_0 (l : Launch) (D : va_G) (kc : Nat → ClassId) (b : Nat) (f : Nat → va_E) (a0 : Int32) (h192 : f 192 = .inr (13, [.ref (b + 193), .ref (b + 194), .ref (b + 195), .int 0, .int 0, .int 0, .ref (b + 196), .ref (b + 197), .int 0, .int 0, .int 0, .int 0, .int 0, .int 0, .int 0, .int (-1), .ref (b + 198), .ref (b + 199), .ref (b + 200), .ref (b + 201), .ref (b + 202), .ref (b + 203), .ref (b + 204), .ref (b + 205), .ref (b + 206), .ref (b + 207), .ref (b + 208), .int 0, .ref (b + 209), .ref (b + 210), .ref (b + 211), .ref (b + 212), .ref (b + 213), .ref (b + 214), .ref (b + 215), .int 0, .int 0, .int 0, .int 0, .ref (b + 216), .ref (b + 217), .ref (b + 218), .ref (b + 219)])) : mMi l yX13_isMark cX13_isMark 2 .boolean 2 0 0 D kc b 220 f [.ref (b + 192), .int a0] (fun r u => r = 0 ∧ u.1 = 220 ∧ u.2 = f) := by
  refine m_start (by decide) (Nat.le_of_ble_eq_true rfl) ?_
  intro p e s m below meth c C hr hlk hnm hM ls hl
  obtain ⟨hx, hb, hml, hown, hts, hE, hbs⟩ := id C
  have hl : lv_has ls 2 [(0, .ref (b + 192)), (1, .int a0)] := hl
  refine lv_iload_n hx hb dX13_isMark_0 rfl (lv_at hl 1 rfl) ?_
  refine lv_i2l hx hb dX13_isMark_1 rfl ?_
  refine lv_lconst (v := 0) hx hb dX13_isMark_2 (by decide) ?_
  refine lv_aload_n hx hb dX13_isMark_3 rfl (lv_at hl 0 rfl) ?_
  refine m_get fl_X13_153_X13 C hM (i := 192) (by decide) h192 (v := .int 0) rfl dX13_isMark_4 ?_
  refine lv_i2l (v := 0) hx hb dX13_isMark_7 (by decide) ?_
  refine lv_lconst (v := 1) hx hb dX13_isMark_8 (by decide) ?_
  refine lv_lsub hx hb dX13_isMark_9 ?_
  refine m_vl (y := (-1)) (by decide) ?_
  refine m_goi (m_runS calS_X13_in wd_1221 (k_in0 l D kc b 220 f a0.toInt64 0 (-1) (by rw [m_inI (a := 0) (b := (-1)) (by decide) (by decide)]; omega)) C hM hl.1 rfl rfl (Nat.le_of_ble_eq_true rfl) dX13_isMark_10 ⟨Nat.le_of_ble_eq_true rfl, Nat.le_of_ble_eq_true rfl⟩ ⟨Nat.le_of_ble_eq_true rfl, Nat.le_of_ble_eq_true rfl⟩) hM (fun r1 n2 f1 H locs hp hM => ?_)
  obtain ⟨rfl, rfl, ef1⟩ : r1 = 0 ∧ n2 = 220 ∧ f1 = f := hp
  exact m_zret C hr hlk hM rfl (⟨rfl, rfl, by rw [ef1]⟩) dX13_isMark_13
set_option maxHeartbeats 4000000 in
set_option maxRecDepth 100000 in
theorem k_m_mark (l : Launch) (D : va_G) (kc : Nat → ClassId) (b : Nat) (f : Nat → va_E) (a0 : Int32) (a1 : Int32) (h192 : f 192 = .inr (13, [.ref (b + 193), .ref (b + 194), .ref (b + 195), .int 0, .int 0, .int 0, .ref (b + 196), .ref (b + 197), .int 0, .int 0, .int 0, .int 0, .int 0, .int 0, .int 0, .int (-1), .ref (b + 198), .ref (b + 199), .ref (b + 200), .ref (b + 201), .ref (b + 202), .ref (b + 203), .ref (b + 204), .ref (b + 205), .ref (b + 206), .ref (b + 207), .ref (b + 208), .int 0, .ref (b + 209), .ref (b + 210), .ref (b + 211), .ref (b + 212), .ref (b + 213), .ref (b + 214), .ref (b + 215), .int 0, .int 0, .int 0, .int 0, .ref (b + 216), .ref (b + 217), .ref (b + 218), .ref (b + 219)])) : mMi l yX13_mark cX13_mark 3 .int 3 0 0 D kc b 220 f [.ref (b + 192), .int a0, .int a1] (fun r u => r = (-9)) := by
  refine m_start (by decide) (Nat.le_of_ble_eq_true rfl) ?_
  intro p e s m below meth c C hr hlk hnm hM ls hl
  obtain ⟨hx, hb, hml, hown, hts, hE, hbs⟩ := id C
  have hl : lv_has ls 3 [(0, .ref (b + 192)), (1, .int a0), (2, .int a1)] := hl
  refine lv_aload_n hx hb dX13_mark_0 rfl (lv_at hl 0 rfl) ?_
  refine lv_iload_n hx hb dX13_mark_1 rfl (lv_at hl 1 rfl) ?_
  refine m_goi (m_runV calV_X13_isMark wd_1310 (a_X13_isMark_0 l D kc b f a0 h192) C hM (by decide) h192 rfl hl.1 rfl rfl (Nat.le_of_ble_eq_true rfl) dX13_mark_2 ⟨Nat.le_of_ble_eq_true rfl, Nat.le_of_ble_eq_true rfl⟩ ⟨Nat.le_of_ble_eq_true rfl, Nat.le_of_ble_eq_true rfl⟩) hM (fun r1 n2 f1 H locs hp hM => ?_)
  have hp : r1 = 0 ∧ n2 = 220 ∧ f1 = f := hp
  obtain ⟨rfl, rfl, ef1⟩ := hp
  refine lv_if_ne (tgt := 11) hx hb dX13_mark_5 (by decide) (fun h => absurd (by decide) h) (fun _ => ?_)
  refine lv_bipush (v := (-9)) hx hb dX13_mark_8 (by decide) ?_
  exact m_iret C hr hlk hM (rfl) dX13_mark_10
set_option maxHeartbeats 4000000 in
set_option maxRecDepth 100000 in
theorem k_m_answer (l : Launch) (D : va_G) (kc : Nat → ClassId) (b : Nat) (f : Nat → va_E) (a0 : Int32) (a1 : Int32) (h192 : f 192 = .inr (13, [.ref (b + 193), .ref (b + 194), .ref (b + 195), .int 0, .int 0, .int 0, .ref (b + 196), .ref (b + 197), .int 0, .int 0, .int 0, .int 0, .int 0, .int 0, .int 0, .int (-1), .ref (b + 198), .ref (b + 199), .ref (b + 200), .ref (b + 201), .ref (b + 202), .ref (b + 203), .ref (b + 204), .ref (b + 205), .ref (b + 206), .ref (b + 207), .ref (b + 208), .int 0, .ref (b + 209), .ref (b + 210), .ref (b + 211), .ref (b + 212), .ref (b + 213), .ref (b + 214), .ref (b + 215), .int 0, .int 0, .int 0, .int 0, .ref (b + 216), .ref (b + 217), .ref (b + 218), .ref (b + 219)])) : mMi l yX13_answer cX13_answer 3 .int 3 0 0 D kc b 220 f [.ref (b + 192), .int a0, .int a1] (fun r u => r = (-2)) := by
  refine m_start (by decide) (Nat.le_of_ble_eq_true rfl) ?_
  intro p e s m below meth c C hr hlk hnm hM ls hl
  obtain ⟨hx, hb, hml, hown, hts, hE, hbs⟩ := id C
  have hl : lv_has ls 3 [(0, .ref (b + 192)), (1, .int a0), (2, .int a1)] := hl
  refine lv_aload_n hx hb dX13_answer_0 rfl (lv_at hl 0 rfl) ?_
  refine lv_iload_n hx hb dX13_answer_1 rfl (lv_at hl 1 rfl) ?_
  refine m_goi (m_runV calV_X13_isMark wd_1310 (a_X13_isMark_0 l D kc b f a0 h192) C hM (by decide) h192 rfl hl.1 rfl rfl (Nat.le_of_ble_eq_true rfl) dX13_answer_2 ⟨Nat.le_of_ble_eq_true rfl, Nat.le_of_ble_eq_true rfl⟩ ⟨Nat.le_of_ble_eq_true rfl, Nat.le_of_ble_eq_true rfl⟩) hM (fun r1 n2 f1 H locs hp hM => ?_)
  have hp : r1 = 0 ∧ n2 = 220 ∧ f1 = f := hp
  obtain ⟨rfl, rfl, ef1⟩ := hp
  refine lv_if_ne (tgt := 11) hx hb dX13_answer_5 (by decide) (fun h => absurd (by decide) h) (fun _ => ?_)
  refine lv_bipush (v := (-2)) hx hb dX13_answer_8 (by decide) ?_
  exact m_iret C hr hlk hM (rfl) dX13_answer_10
set_option maxHeartbeats 4000000 in
set_option maxRecDepth 100000 in
theorem k_m_rank (l : Launch) (D : va_G) (kc : Nat → ClassId) (b : Nat) (f : Nat → va_E) (a0 : Int32) (a1 : Int32) (h192 : f 192 = .inr (13, [.ref (b + 193), .ref (b + 194), .ref (b + 195), .int 0, .int 0, .int 0, .ref (b + 196), .ref (b + 197), .int 0, .int 0, .int 0, .int 0, .int 0, .int 0, .int 0, .int (-1), .ref (b + 198), .ref (b + 199), .ref (b + 200), .ref (b + 201), .ref (b + 202), .ref (b + 203), .ref (b + 204), .ref (b + 205), .ref (b + 206), .ref (b + 207), .ref (b + 208), .int 0, .ref (b + 209), .ref (b + 210), .ref (b + 211), .ref (b + 212), .ref (b + 213), .ref (b + 214), .ref (b + 215), .int 0, .int 0, .int 0, .int 0, .ref (b + 216), .ref (b + 217), .ref (b + 218), .ref (b + 219)])) (h209 : f 209 = .inl (kc 1, 3, .inl (mRk))) : mMi l yX13_rank cX13_rank 4 .int 2 0 0 D kc b 220 f [.ref (b + 192), .int a0, .int a1] (fun r u => r = p_rank a0 a1) := by
  refine m_start (by decide) (Nat.le_of_ble_eq_true rfl) ?_
  intro p e s m below meth c C hr hlk hnm hM ls hl
  obtain ⟨hx, hb, hml, hown, hts, hE, hbs⟩ := id C
  have hl : lv_has ls 4 [(0, .ref (b + 192)), (1, .int a0), (2, .int a1)] := hl
  refine lv_iload_n hx hb dX13_rank_0 rfl (lv_at hl 1 rfl) ?_
  refine lv_i2l hx hb dX13_rank_1 rfl ?_
  refine lv_lconst (v := 0) hx hb dX13_rank_2 (by decide) ?_
  refine lv_ldc2 (v := 2) hx hb hown (hts _ wd_1368) dX13_rank_3 ?_
  by_cases q1 : a0 < 0
  · refine m_goi (m_runS calS_X13_in wd_1221 (k_in0 l D kc b 220 f a0.toInt64 0 2 (by revert q1; rw [m_inI (a := 0) (b := 2) (by decide) (by decide)]; simp only [Int32.lt_iff_toInt_lt, Int32.le_iff_toInt_le, m_lits]; omega)) C hM hl.1 rfl rfl (Nat.le_of_ble_eq_true rfl) dX13_rank_6 ⟨Nat.le_of_ble_eq_true rfl, Nat.le_of_ble_eq_true rfl⟩ ⟨Nat.le_of_ble_eq_true rfl, Nat.le_of_ble_eq_true rfl⟩) hM (fun r2 n3 f1 H locs hp hM => ?_)
    obtain ⟨rfl, rfl, ef1⟩ : r2 = 0 ∧ n3 = 220 ∧ f1 = f := hp
    refine lv_if_eq (tgt := 24) hx hb dX13_rank_9 (by decide) (fun _ => ?_) (fun h => absurd (by decide) h)
    refine lv_bipush (v := (-2)) hx hb dX13_rank_24 (by decide) ?_
    exact m_iret C hr hlk hM (by unfold p_rank; rw [if_neg (by revert q1; simp only [Int32.lt_iff_toInt_lt, Int32.le_iff_toInt_le, m_lits]; omega)]) dX13_rank_26
  by_cases q4 : 2 < a0
  · refine m_goi (m_runS calS_X13_in wd_1221 (k_in0 l D kc b 220 f a0.toInt64 0 2 (by revert q4; rw [m_inI (a := 0) (b := 2) (by decide) (by decide)]; simp only [Int32.lt_iff_toInt_lt, Int32.le_iff_toInt_le, m_lits]; omega)) C hM hl.1 rfl rfl (Nat.le_of_ble_eq_true rfl) dX13_rank_6 ⟨Nat.le_of_ble_eq_true rfl, Nat.le_of_ble_eq_true rfl⟩ ⟨Nat.le_of_ble_eq_true rfl, Nat.le_of_ble_eq_true rfl⟩) hM (fun r5 n6 f1 H locs hp hM => ?_)
    obtain ⟨rfl, rfl, ef1⟩ : r5 = 0 ∧ n6 = 220 ∧ f1 = f := hp
    refine lv_if_eq (tgt := 24) hx hb dX13_rank_9 (by decide) (fun _ => ?_) (fun h => absurd (by decide) h)
    refine lv_bipush (v := (-2)) hx hb dX13_rank_24 (by decide) ?_
    exact m_iret C hr hlk hM (by unfold p_rank; rw [if_neg (by revert q1 q4; simp only [Int32.lt_iff_toInt_lt, Int32.le_iff_toInt_le, m_lits]; omega)]) dX13_rank_26
  refine m_goi (m_runS calS_X13_in wd_1221 (k_in1 l D kc b 220 f a0.toInt64 0 2 (by revert q1 q4; rw [m_inI (a := 0) (b := 2) (by decide) (by decide)]; simp only [Int32.lt_iff_toInt_lt, Int32.le_iff_toInt_le, m_lits]; omega)) C hM hl.1 rfl rfl (Nat.le_of_ble_eq_true rfl) dX13_rank_6 ⟨Nat.le_of_ble_eq_true rfl, Nat.le_of_ble_eq_true rfl⟩ ⟨Nat.le_of_ble_eq_true rfl, Nat.le_of_ble_eq_true rfl⟩) hM (fun r7 n8 f1 H locs hp hM => ?_)
  obtain ⟨rfl, rfl, ef1⟩ : r7 = 1 ∧ n8 = 220 ∧ f1 = f := hp
  refine lv_if_eq (tgt := 24) hx hb dX13_rank_9 (by decide) (fun h => absurd h (by decide)) (fun _ => ?_)
  refine lv_iload_n hx hb dX13_rank_12 rfl (lv_at hl 2 rfl) ?_
  refine lv_i2l hx hb dX13_rank_13 rfl ?_
  refine lv_lconst (v := 0) hx hb dX13_rank_14 (by decide) ?_
  refine lv_ldc2 (v := 9) hx hb hown (hts _ wd_1351) dX13_rank_15 ?_
  by_cases q9 : a1 < 0
  · refine m_goi (m_runS calS_X13_in wd_1221 (k_in0 l D kc b 220 f1 a1.toInt64 0 9 (by revert q9; rw [m_inI (a := 0) (b := 9) (by decide) (by decide)]; simp only [Int32.lt_iff_toInt_lt, Int32.le_iff_toInt_le, m_lits]; omega)) C hM hl.1 rfl rfl (Nat.le_of_ble_eq_true rfl) dX13_rank_18 ⟨Nat.le_of_ble_eq_true rfl, Nat.le_of_ble_eq_true rfl⟩ ⟨Nat.le_of_ble_eq_true rfl, Nat.le_of_ble_eq_true rfl⟩) hM (fun r10 n11 f2 H locs hp hM => ?_)
    obtain ⟨rfl, rfl, ef2⟩ : r10 = 0 ∧ n11 = 220 ∧ f2 = f1 := hp
    refine lv_if_ne (tgt := 27) hx hb dX13_rank_21 (by decide) (fun h => absurd (by decide) h) (fun _ => ?_)
    refine lv_bipush (v := (-2)) hx hb dX13_rank_24 (by decide) ?_
    exact m_iret C hr hlk hM (by unfold p_rank; rw [if_neg (by revert q1 q4 q9; simp only [Int32.lt_iff_toInt_lt, Int32.le_iff_toInt_le, m_lits]; omega)]) dX13_rank_26
  by_cases q12 : 9 < a1
  · refine m_goi (m_runS calS_X13_in wd_1221 (k_in0 l D kc b 220 f1 a1.toInt64 0 9 (by revert q12; rw [m_inI (a := 0) (b := 9) (by decide) (by decide)]; simp only [Int32.lt_iff_toInt_lt, Int32.le_iff_toInt_le, m_lits]; omega)) C hM hl.1 rfl rfl (Nat.le_of_ble_eq_true rfl) dX13_rank_18 ⟨Nat.le_of_ble_eq_true rfl, Nat.le_of_ble_eq_true rfl⟩ ⟨Nat.le_of_ble_eq_true rfl, Nat.le_of_ble_eq_true rfl⟩) hM (fun r13 n14 f2 H locs hp hM => ?_)
    obtain ⟨rfl, rfl, ef2⟩ : r13 = 0 ∧ n14 = 220 ∧ f2 = f1 := hp
    refine lv_if_ne (tgt := 27) hx hb dX13_rank_21 (by decide) (fun h => absurd (by decide) h) (fun _ => ?_)
    refine lv_bipush (v := (-2)) hx hb dX13_rank_24 (by decide) ?_
    exact m_iret C hr hlk hM (by unfold p_rank; rw [if_neg (by revert q1 q4 q9 q12; simp only [Int32.lt_iff_toInt_lt, Int32.le_iff_toInt_le, m_lits]; omega)]) dX13_rank_26
  refine m_goi (m_runS calS_X13_in wd_1221 (k_in1 l D kc b 220 f1 a1.toInt64 0 9 (by revert q9 q12; rw [m_inI (a := 0) (b := 9) (by decide) (by decide)]; simp only [Int32.lt_iff_toInt_lt, Int32.le_iff_toInt_le, m_lits]; omega)) C hM hl.1 rfl rfl (Nat.le_of_ble_eq_true rfl) dX13_rank_18 ⟨Nat.le_of_ble_eq_true rfl, Nat.le_of_ble_eq_true rfl⟩ ⟨Nat.le_of_ble_eq_true rfl, Nat.le_of_ble_eq_true rfl⟩) hM (fun r15 n16 f2 H locs hp hM => ?_)
  obtain ⟨rfl, rfl, ef2⟩ : r15 = 1 ∧ n16 = 220 ∧ f2 = f1 := hp
  refine lv_if_ne (tgt := 27) hx hb dX13_rank_21 (by decide) (fun _ => ?_) (fun h => absurd h (by decide))
  refine lv_aload_n hx hb dX13_rank_27 rfl (lv_at hl 0 rfl) ?_
  have h192_1 : f1 192 = .inr (13, [.ref (b + 193), .ref (b + 194), .ref (b + 195), .int 0, .int 0, .int 0, .ref (b + 196), .ref (b + 197), .int 0, .int 0, .int 0, .int 0, .int 0, .int 0, .int 0, .int (-1), .ref (b + 198), .ref (b + 199), .ref (b + 200), .ref (b + 201), .ref (b + 202), .ref (b + 203), .ref (b + 204), .ref (b + 205), .ref (b + 206), .ref (b + 207), .ref (b + 208), .int 0, .ref (b + 209), .ref (b + 210), .ref (b + 211), .ref (b + 212), .ref (b + 213), .ref (b + 214), .ref (b + 215), .int 0, .int 0, .int 0, .int 0, .ref (b + 216), .ref (b + 217), .ref (b + 218), .ref (b + 219)]) := m_sm ef1 h192
  have h192_2 : f2 192 = .inr (13, [.ref (b + 193), .ref (b + 194), .ref (b + 195), .int 0, .int 0, .int 0, .ref (b + 196), .ref (b + 197), .int 0, .int 0, .int 0, .int 0, .int 0, .int 0, .int 0, .int (-1), .ref (b + 198), .ref (b + 199), .ref (b + 200), .ref (b + 201), .ref (b + 202), .ref (b + 203), .ref (b + 204), .ref (b + 205), .ref (b + 206), .ref (b + 207), .ref (b + 208), .int 0, .ref (b + 209), .ref (b + 210), .ref (b + 211), .ref (b + 212), .ref (b + 213), .ref (b + 214), .ref (b + 215), .int 0, .int 0, .int 0, .int 0, .ref (b + 216), .ref (b + 217), .ref (b + 218), .ref (b + 219)]) := m_sm ef2 h192_1
  refine m_get fl_X13_102_X13 C hM (i := 192) (by decide) h192_2 (v := .ref (b + 209)) rfl dX13_rank_28 ?_
  refine lv_iload_n hx hb dX13_rank_31 rfl (lv_at hl 1 rfl) ?_
  have h209_1 : f1 209 = .inl (kc 1, 3, .inl (mRk)) := m_sm ef1 h209
  have h209_2 : f2 209 = .inl (kc 1, 3, .inl (mRk)) := m_sm ef2 h209_1
  refine m_iald C hM (j := 209) (by decide) h209_2 (by revert q1 q4; rw [vp_in_iff]; simp only [Int32.lt_iff_toInt_lt, Int32.le_iff_toInt_le, m_lits]; omega) dX13_rank_32 ?_
  refine lv_topi (fun x17 ex17 => ?_)
  refine lv_istore_n (lv' := [(3, .int x17), (0, .ref (b + 192)), (1, .int a0), (2, .int a1)]) hx hb dX13_rank_33 rfl hl (by decide) rfl (fun ls hl => ?_)
  refine lv_aload_n hx hb dX13_rank_34 rfl (lv_at hl 1 rfl) ?_
  refine m_get fl_X13_102_X13 C hM (i := 192) (by decide) h192_2 (v := .ref (b + 209)) rfl dX13_rank_35 ?_
  refine lv_iload_n hx hb dX13_rank_38 rfl (lv_at hl 2 rfl) ?_
  refine lv_iload_n hx hb dX13_rank_39 rfl (lv_at hl 3 rfl) ?_
  refine m_iast C hM (j := 209) (by decide) h209_2 (by revert q1 q4; rw [vp_in_iff]; simp only [Int32.lt_iff_toInt_lt, Int32.le_iff_toInt_le, m_lits]; omega) dX13_rank_40 (fun H locs f3 ef3 hM => ?_)
  have ef3 : f3 = va_up f2 209 (.inl (kc 1, 3, .inl (upd mRk a0.toNatClampNeg a1))) := ef3
  refine lv_iload_n hx hb dX13_rank_41 rfl (lv_at hl 0 rfl) ?_
  exact m_iret C hr hlk hM (by rw [ex17]; unfold p_rank; rw [if_pos (by revert q1 q4 q9 q12; simp only [Int32.lt_iff_toInt_lt, Int32.le_iff_toInt_le, m_lits]; omega)]) dX13_rank_42
set_option maxHeartbeats 4000000 in
set_option maxRecDepth 100000 in
theorem k_m_meet (l : Launch) (D : va_G) (kc : Nat → ClassId) (b : Nat) (f : Nat → va_E) (a0 : Int32) (a1 : Int32) (h192 : f 192 = .inr (13, [.ref (b + 193), .ref (b + 194), .ref (b + 195), .int 0, .int 0, .int 0, .ref (b + 196), .ref (b + 197), .int 0, .int 0, .int 0, .int 0, .int 0, .int 0, .int 0, .int (-1), .ref (b + 198), .ref (b + 199), .ref (b + 200), .ref (b + 201), .ref (b + 202), .ref (b + 203), .ref (b + 204), .ref (b + 205), .ref (b + 206), .ref (b + 207), .ref (b + 208), .int 0, .ref (b + 209), .ref (b + 210), .ref (b + 211), .ref (b + 212), .ref (b + 213), .ref (b + 214), .ref (b + 215), .int 0, .int 0, .int 0, .int 0, .ref (b + 216), .ref (b + 217), .ref (b + 218), .ref (b + 219)])) : mMi l yX13_meet cX13_meet 3 .int 3 0 0 D kc b 220 f [.ref (b + 192), .int a0, .int a1] (fun r u => r = (-2)) := by
  refine m_start (by decide) (Nat.le_of_ble_eq_true rfl) ?_
  intro p e s m below meth c C hr hlk hnm hM ls hl
  obtain ⟨hx, hb, hml, hown, hts, hE, hbs⟩ := id C
  have hl : lv_has ls 3 [(0, .ref (b + 192)), (1, .int a0), (2, .int a1)] := hl
  refine lv_aload_n hx hb dX13_meet_0 rfl (lv_at hl 0 rfl) ?_
  refine lv_iload_n hx hb dX13_meet_1 rfl (lv_at hl 1 rfl) ?_
  refine m_goi (m_runV calV_X13_isMark wd_1310 (a_X13_isMark_0 l D kc b f a0 h192) C hM (by decide) h192 rfl hl.1 rfl rfl (Nat.le_of_ble_eq_true rfl) dX13_meet_2 ⟨Nat.le_of_ble_eq_true rfl, Nat.le_of_ble_eq_true rfl⟩ ⟨Nat.le_of_ble_eq_true rfl, Nat.le_of_ble_eq_true rfl⟩) hM (fun r1 n2 f1 H locs hp hM => ?_)
  have hp : r1 = 0 ∧ n2 = 220 ∧ f1 = f := hp
  obtain ⟨rfl, rfl, ef1⟩ := hp
  refine lv_if_eq (tgt := 41) hx hb dX13_meet_5 (by decide) (fun _ => ?_) (fun h => absurd (by decide) h)
  refine lv_bipush (v := (-2)) hx hb dX13_meet_41 (by decide) ?_
  refine lv_goto (tgt := 60) hx hb dX13_meet_43 (by decide) ?_
  exact m_iret C hr hlk hM (rfl) dX13_meet_60
set_option maxHeartbeats 4000000 in
set_option maxRecDepth 100000 in
theorem k_m_within (l : Launch) (D : va_G) (kc : Nat → ClassId) (b : Nat) (f : Nat → va_E) (a0 : Int32) (a1 : Int32) (h192 : f 192 = .inr (13, [.ref (b + 193), .ref (b + 194), .ref (b + 195), .int 0, .int 0, .int 0, .ref (b + 196), .ref (b + 197), .int 0, .int 0, .int 0, .int 0, .int 0, .int 0, .int 0, .int (-1), .ref (b + 198), .ref (b + 199), .ref (b + 200), .ref (b + 201), .ref (b + 202), .ref (b + 203), .ref (b + 204), .ref (b + 205), .ref (b + 206), .ref (b + 207), .ref (b + 208), .int 0, .ref (b + 209), .ref (b + 210), .ref (b + 211), .ref (b + 212), .ref (b + 213), .ref (b + 214), .ref (b + 215), .int 0, .int 0, .int 0, .int 0, .ref (b + 216), .ref (b + 217), .ref (b + 218), .ref (b + 219)])) : mMi l yX13_within cX13_within 3 .int 3 0 0 D kc b 220 f [.ref (b + 192), .int a0, .int a1] (fun r u => r = (-2)) := by
  refine m_start (by decide) (Nat.le_of_ble_eq_true rfl) ?_
  intro p e s m below meth c C hr hlk hnm hM ls hl
  obtain ⟨hx, hb, hml, hown, hts, hE, hbs⟩ := id C
  have hl : lv_has ls 3 [(0, .ref (b + 192)), (1, .int a0), (2, .int a1)] := hl
  refine lv_aload_n hx hb dX13_within_0 rfl (lv_at hl 0 rfl) ?_
  refine lv_iload_n hx hb dX13_within_1 rfl (lv_at hl 1 rfl) ?_
  refine m_goi (m_runV calV_X13_isMark wd_1310 (a_X13_isMark_0 l D kc b f a0 h192) C hM (by decide) h192 rfl hl.1 rfl rfl (Nat.le_of_ble_eq_true rfl) dX13_within_2 ⟨Nat.le_of_ble_eq_true rfl, Nat.le_of_ble_eq_true rfl⟩ ⟨Nat.le_of_ble_eq_true rfl, Nat.le_of_ble_eq_true rfl⟩) hM (fun r1 n2 f1 H locs hp hM => ?_)
  have hp : r1 = 0 ∧ n2 = 220 ∧ f1 = f := hp
  obtain ⟨rfl, rfl, ef1⟩ := hp
  refine lv_if_eq (tgt := 41) hx hb dX13_within_5 (by decide) (fun _ => ?_) (fun h => absurd (by decide) h)
  refine lv_bipush (v := (-2)) hx hb dX13_within_41 (by decide) ?_
  refine lv_goto (tgt := 60) hx hb dX13_within_43 (by decide) ?_
  exact m_iret C hr hlk hM (rfl) dX13_within_60
set_option maxHeartbeats 4000000 in
set_option maxRecDepth 100000 in
theorem k_m_costs (l : Launch) (D : va_G) (kc : Nat → ClassId) (b : Nat) (f : Nat → va_E) (a0 : Int32) (a1 : Int32) (h192 : f 192 = .inr (13, [.ref (b + 193), .ref (b + 194), .ref (b + 195), .int 0, .int 0, .int 0, .ref (b + 196), .ref (b + 197), .int 0, .int 0, .int 0, .int 0, .int 0, .int 0, .int 0, .int (-1), .ref (b + 198), .ref (b + 199), .ref (b + 200), .ref (b + 201), .ref (b + 202), .ref (b + 203), .ref (b + 204), .ref (b + 205), .ref (b + 206), .ref (b + 207), .ref (b + 208), .int 0, .ref (b + 209), .ref (b + 210), .ref (b + 211), .ref (b + 212), .ref (b + 213), .ref (b + 214), .ref (b + 215), .int 0, .int 0, .int 0, .int 0, .ref (b + 216), .ref (b + 217), .ref (b + 218), .ref (b + 219)])) (h211 : f 211 = .inl (kc 1, 2, .inl (upd (upd (fun _ => 0) 0 2) 1 3))) : mMi l yX13_costs cX13_costs 3 .int 2 0 0 D kc b 220 f [.ref (b + 192), .int a0, .int a1] (fun r u => r = p_costs a0 a1) := by
  refine m_start (by decide) (Nat.le_of_ble_eq_true rfl) ?_
  intro p e s m below meth c C hr hlk hnm hM ls hl
  obtain ⟨hx, hb, hml, hown, hts, hE, hbs⟩ := id C
  have hl : lv_has ls 3 [(0, .ref (b + 192)), (1, .int a0), (2, .int a1)] := hl
  refine lv_iload_n hx hb dX13_costs_0 rfl (lv_at hl 1 rfl) ?_
  refine lv_i2l hx hb dX13_costs_1 rfl ?_
  refine lv_lconst (v := 1) hx hb dX13_costs_2 (by decide) ?_
  refine lv_ldc2 (v := 9) hx hb hown (hts _ wd_1351) dX13_costs_3 ?_
  by_cases q1 : a0 < 1
  · refine m_goi (m_runS calS_X13_in wd_1221 (k_in0 l D kc b 220 f a0.toInt64 1 9 (by revert q1; rw [m_inI (a := 1) (b := 9) (by decide) (by decide)]; simp only [Int32.lt_iff_toInt_lt, Int32.le_iff_toInt_le, m_lits]; omega)) C hM hl.1 rfl rfl (Nat.le_of_ble_eq_true rfl) dX13_costs_6 ⟨Nat.le_of_ble_eq_true rfl, Nat.le_of_ble_eq_true rfl⟩ ⟨Nat.le_of_ble_eq_true rfl, Nat.le_of_ble_eq_true rfl⟩) hM (fun r2 n3 f1 H locs hp hM => ?_)
    obtain ⟨rfl, rfl, ef1⟩ : r2 = 0 ∧ n3 = 220 ∧ f1 = f := hp
    refine lv_if_eq (tgt := 24) hx hb dX13_costs_9 (by decide) (fun _ => ?_) (fun h => absurd (by decide) h)
    refine lv_bipush (v := (-2)) hx hb dX13_costs_24 (by decide) ?_
    exact m_iret C hr hlk hM (by unfold p_costs; rw [if_neg (by revert q1; simp only [Int32.lt_iff_toInt_lt, Int32.le_iff_toInt_le, m_lits]; omega)]) dX13_costs_26
  by_cases q4 : 9 < a0
  · refine m_goi (m_runS calS_X13_in wd_1221 (k_in0 l D kc b 220 f a0.toInt64 1 9 (by revert q4; rw [m_inI (a := 1) (b := 9) (by decide) (by decide)]; simp only [Int32.lt_iff_toInt_lt, Int32.le_iff_toInt_le, m_lits]; omega)) C hM hl.1 rfl rfl (Nat.le_of_ble_eq_true rfl) dX13_costs_6 ⟨Nat.le_of_ble_eq_true rfl, Nat.le_of_ble_eq_true rfl⟩ ⟨Nat.le_of_ble_eq_true rfl, Nat.le_of_ble_eq_true rfl⟩) hM (fun r5 n6 f1 H locs hp hM => ?_)
    obtain ⟨rfl, rfl, ef1⟩ : r5 = 0 ∧ n6 = 220 ∧ f1 = f := hp
    refine lv_if_eq (tgt := 24) hx hb dX13_costs_9 (by decide) (fun _ => ?_) (fun h => absurd (by decide) h)
    refine lv_bipush (v := (-2)) hx hb dX13_costs_24 (by decide) ?_
    exact m_iret C hr hlk hM (by unfold p_costs; rw [if_neg (by revert q1 q4; simp only [Int32.lt_iff_toInt_lt, Int32.le_iff_toInt_le, m_lits]; omega)]) dX13_costs_26
  refine m_goi (m_runS calS_X13_in wd_1221 (k_in1 l D kc b 220 f a0.toInt64 1 9 (by revert q1 q4; rw [m_inI (a := 1) (b := 9) (by decide) (by decide)]; simp only [Int32.lt_iff_toInt_lt, Int32.le_iff_toInt_le, m_lits]; omega)) C hM hl.1 rfl rfl (Nat.le_of_ble_eq_true rfl) dX13_costs_6 ⟨Nat.le_of_ble_eq_true rfl, Nat.le_of_ble_eq_true rfl⟩ ⟨Nat.le_of_ble_eq_true rfl, Nat.le_of_ble_eq_true rfl⟩) hM (fun r7 n8 f1 H locs hp hM => ?_)
  obtain ⟨rfl, rfl, ef1⟩ : r7 = 1 ∧ n8 = 220 ∧ f1 = f := hp
  refine lv_if_eq (tgt := 24) hx hb dX13_costs_9 (by decide) (fun h => absurd h (by decide)) (fun _ => ?_)
  refine lv_iload_n hx hb dX13_costs_12 rfl (lv_at hl 2 rfl) ?_
  refine lv_i2l hx hb dX13_costs_13 rfl ?_
  refine lv_lconst (v := 1) hx hb dX13_costs_14 (by decide) ?_
  refine lv_ldc2 (v := 9) hx hb hown (hts _ wd_1351) dX13_costs_15 ?_
  by_cases q9 : a1 < 1
  · refine m_goi (m_runS calS_X13_in wd_1221 (k_in0 l D kc b 220 f1 a1.toInt64 1 9 (by revert q9; rw [m_inI (a := 1) (b := 9) (by decide) (by decide)]; simp only [Int32.lt_iff_toInt_lt, Int32.le_iff_toInt_le, m_lits]; omega)) C hM hl.1 rfl rfl (Nat.le_of_ble_eq_true rfl) dX13_costs_18 ⟨Nat.le_of_ble_eq_true rfl, Nat.le_of_ble_eq_true rfl⟩ ⟨Nat.le_of_ble_eq_true rfl, Nat.le_of_ble_eq_true rfl⟩) hM (fun r10 n11 f2 H locs hp hM => ?_)
    obtain ⟨rfl, rfl, ef2⟩ : r10 = 0 ∧ n11 = 220 ∧ f2 = f1 := hp
    refine lv_if_ne (tgt := 27) hx hb dX13_costs_21 (by decide) (fun h => absurd (by decide) h) (fun _ => ?_)
    refine lv_bipush (v := (-2)) hx hb dX13_costs_24 (by decide) ?_
    exact m_iret C hr hlk hM (by unfold p_costs; rw [if_neg (by revert q1 q4 q9; simp only [Int32.lt_iff_toInt_lt, Int32.le_iff_toInt_le, m_lits]; omega)]) dX13_costs_26
  by_cases q12 : 9 < a1
  · refine m_goi (m_runS calS_X13_in wd_1221 (k_in0 l D kc b 220 f1 a1.toInt64 1 9 (by revert q12; rw [m_inI (a := 1) (b := 9) (by decide) (by decide)]; simp only [Int32.lt_iff_toInt_lt, Int32.le_iff_toInt_le, m_lits]; omega)) C hM hl.1 rfl rfl (Nat.le_of_ble_eq_true rfl) dX13_costs_18 ⟨Nat.le_of_ble_eq_true rfl, Nat.le_of_ble_eq_true rfl⟩ ⟨Nat.le_of_ble_eq_true rfl, Nat.le_of_ble_eq_true rfl⟩) hM (fun r13 n14 f2 H locs hp hM => ?_)
    obtain ⟨rfl, rfl, ef2⟩ : r13 = 0 ∧ n14 = 220 ∧ f2 = f1 := hp
    refine lv_if_ne (tgt := 27) hx hb dX13_costs_21 (by decide) (fun h => absurd (by decide) h) (fun _ => ?_)
    refine lv_bipush (v := (-2)) hx hb dX13_costs_24 (by decide) ?_
    exact m_iret C hr hlk hM (by unfold p_costs; rw [if_neg (by revert q1 q4 q9 q12; simp only [Int32.lt_iff_toInt_lt, Int32.le_iff_toInt_le, m_lits]; omega)]) dX13_costs_26
  refine m_goi (m_runS calS_X13_in wd_1221 (k_in1 l D kc b 220 f1 a1.toInt64 1 9 (by revert q9 q12; rw [m_inI (a := 1) (b := 9) (by decide) (by decide)]; simp only [Int32.lt_iff_toInt_lt, Int32.le_iff_toInt_le, m_lits]; omega)) C hM hl.1 rfl rfl (Nat.le_of_ble_eq_true rfl) dX13_costs_18 ⟨Nat.le_of_ble_eq_true rfl, Nat.le_of_ble_eq_true rfl⟩ ⟨Nat.le_of_ble_eq_true rfl, Nat.le_of_ble_eq_true rfl⟩) hM (fun r15 n16 f2 H locs hp hM => ?_)
  obtain ⟨rfl, rfl, ef2⟩ : r15 = 1 ∧ n16 = 220 ∧ f2 = f1 := hp
  refine lv_if_ne (tgt := 27) hx hb dX13_costs_21 (by decide) (fun _ => ?_) (fun h => absurd h (by decide))
  refine lv_aload_n hx hb dX13_costs_27 rfl (lv_at hl 0 rfl) ?_
  have h192_1 : f1 192 = .inr (13, [.ref (b + 193), .ref (b + 194), .ref (b + 195), .int 0, .int 0, .int 0, .ref (b + 196), .ref (b + 197), .int 0, .int 0, .int 0, .int 0, .int 0, .int 0, .int 0, .int (-1), .ref (b + 198), .ref (b + 199), .ref (b + 200), .ref (b + 201), .ref (b + 202), .ref (b + 203), .ref (b + 204), .ref (b + 205), .ref (b + 206), .ref (b + 207), .ref (b + 208), .int 0, .ref (b + 209), .ref (b + 210), .ref (b + 211), .ref (b + 212), .ref (b + 213), .ref (b + 214), .ref (b + 215), .int 0, .int 0, .int 0, .int 0, .ref (b + 216), .ref (b + 217), .ref (b + 218), .ref (b + 219)]) := m_sm ef1 h192
  have h192_2 : f2 192 = .inr (13, [.ref (b + 193), .ref (b + 194), .ref (b + 195), .int 0, .int 0, .int 0, .ref (b + 196), .ref (b + 197), .int 0, .int 0, .int 0, .int 0, .int 0, .int 0, .int 0, .int (-1), .ref (b + 198), .ref (b + 199), .ref (b + 200), .ref (b + 201), .ref (b + 202), .ref (b + 203), .ref (b + 204), .ref (b + 205), .ref (b + 206), .ref (b + 207), .ref (b + 208), .int 0, .ref (b + 209), .ref (b + 210), .ref (b + 211), .ref (b + 212), .ref (b + 213), .ref (b + 214), .ref (b + 215), .int 0, .int 0, .int 0, .int 0, .ref (b + 216), .ref (b + 217), .ref (b + 218), .ref (b + 219)]) := m_sm ef2 h192_1
  refine m_get fl_X13_108_X13 C hM (i := 192) (by decide) h192_2 (v := .ref (b + 211)) rfl dX13_costs_28 ?_
  refine lv_iconst (v := 0) hx hb dX13_costs_31 (by decide) ?_
  refine lv_iload_n hx hb dX13_costs_32 rfl (lv_at hl 1 rfl) ?_
  have h211_1 : f1 211 = .inl (kc 1, 2, .inl (upd (upd (fun _ => 0) 0 2) 1 3)) := m_sm ef1 h211
  have h211_2 : f2 211 = .inl (kc 1, 2, .inl (upd (upd (fun _ => 0) 0 2) 1 3)) := m_sm ef2 h211_1
  refine m_iast C hM (j := 211) (by decide) h211_2 (m_in (by decide)) dX13_costs_33 (fun H locs f3 ef3 hM => ?_)
  have ef3 : f3 = va_up f2 211 (.inl (kc 1, 2, .inl (upd (upd (upd (fun _ => 0) 0 2) 1 3) 0 a0))) := ef3
  refine lv_aload_n hx hb dX13_costs_34 rfl (lv_at hl 0 rfl) ?_
  have h192_3 : f3 192 = .inr (13, [.ref (b + 193), .ref (b + 194), .ref (b + 195), .int 0, .int 0, .int 0, .ref (b + 196), .ref (b + 197), .int 0, .int 0, .int 0, .int 0, .int 0, .int 0, .int 0, .int (-1), .ref (b + 198), .ref (b + 199), .ref (b + 200), .ref (b + 201), .ref (b + 202), .ref (b + 203), .ref (b + 204), .ref (b + 205), .ref (b + 206), .ref (b + 207), .ref (b + 208), .int 0, .ref (b + 209), .ref (b + 210), .ref (b + 211), .ref (b + 212), .ref (b + 213), .ref (b + 214), .ref (b + 215), .int 0, .int 0, .int 0, .int 0, .ref (b + 216), .ref (b + 217), .ref (b + 218), .ref (b + 219)]) := m_ne ef3 h192_2 (by decide)
  refine m_get fl_X13_108_X13 C hM (i := 192) (by decide) h192_3 (v := .ref (b + 211)) rfl dX13_costs_35 ?_
  refine lv_iconst (v := 1) hx hb dX13_costs_38 (by decide) ?_
  refine lv_iload_n hx hb dX13_costs_39 rfl (lv_at hl 2 rfl) ?_
  have h211_3 : f3 211 = .inl (kc 1, 2, .inl (upd (upd (upd (fun _ => 0) 0 2) 1 3) 0 a0)) := m_eq ef3
  refine m_iast C hM (j := 211) (by decide) h211_3 (m_in (by decide)) dX13_costs_40 (fun H locs f4 ef4 hM => ?_)
  have ef4 : f4 = va_up f3 211 (.inl (kc 1, 2, .inl (upd (upd (upd (upd (fun _ => 0) 0 2) 1 3) 0 a0) 1 a1))) := ef4
  refine lv_iconst (v := 1) hx hb dX13_costs_41 (by decide) ?_
  exact m_iret C hr hlk hM (by unfold p_costs; rw [if_pos (by revert q1 q4 q9 q12; simp only [Int32.lt_iff_toInt_lt, Int32.le_iff_toInt_le, m_lits]; omega)]) dX13_costs_42
set_option maxHeartbeats 4000000 in
set_option maxRecDepth 100000 in
theorem a_X13_at_0 (l : Launch) (D : va_G) (kc : Nat → ClassId) (b : Nat) (f : Nat → va_E) : mMi l yX13_at cX13_at 2 .int 1 0 0 D kc b 220 f [.int 0, .int 0] (fun r u => r = 0 ∧ u.1 = 220 ∧ u.2 = f) := by
  refine m_start (by decide) (Nat.le_of_ble_eq_true rfl) ?_
  intro p e s m below meth c C hr hlk hnm hM ls hl
  obtain ⟨hx, hb, hml, hown, hts, hE, hbs⟩ := id C
  have hl : lv_has ls 2 [(0, .int 0), (1, .int 0)] := hl
  refine lv_sipush (v := 321) hx hb dX13_at_0 (by decide) ?_
  refine lv_iload_n hx hb dX13_at_3 rfl (lv_at hl 0 rfl) ?_
  refine lv_imul hx hb dX13_at_4 ?_
  refine m_vi (y := 0) (by decide) ?_
  refine lv_iload_n hx hb dX13_at_5 rfl (lv_at hl 1 rfl) ?_
  refine lv_iadd hx hb dX13_at_6 ?_
  refine m_vi (y := 0) (by decide) ?_
  exact m_iret C hr hlk hM (⟨rfl, rfl, rfl⟩) dX13_at_7
set_option maxHeartbeats 4000000 in
set_option maxRecDepth 100000 in
theorem a_X13_apart_0 (l : Launch) (D : va_G) (kc : Nat → ClassId) (b : Nat) (f : Nat → va_E) (h192 : f 192 = .inr (13, [.ref (b + 193), .ref (b + 194), .ref (b + 195), .int 0, .int 0, .int 0, .ref (b + 196), .ref (b + 197), .int 0, .int 0, .int 0, .int 0, .int 0, .int 0, .int 0, .int (-1), .ref (b + 198), .ref (b + 199), .ref (b + 200), .ref (b + 201), .ref (b + 202), .ref (b + 203), .ref (b + 204), .ref (b + 205), .ref (b + 206), .ref (b + 207), .ref (b + 208), .int 0, .ref (b + 209), .ref (b + 210), .ref (b + 211), .ref (b + 212), .ref (b + 213), .ref (b + 214), .ref (b + 215), .int 0, .int 0, .int 0, .int 0, .ref (b + 216), .ref (b + 217), .ref (b + 218), .ref (b + 219)])) (h215 : f 215 = .inl (kc 1, 103041, .inl (fun _ => 0))) : mMi l yX13_apart cX13_apart 8 .int 2 0 0 D kc b 220 f [.ref (b + 192), .int 2, .int 0, .int 1, .int 0] (fun r u => r = 0 ∧ u.1 = 220 ∧ u.2 = va_up f 215 (.inl (kc 1, 103041, .inl (upd (fun _ => 0) 0 0)))) := by
  refine m_start (by decide) (Nat.le_of_ble_eq_true rfl) ?_
  intro p e s m below meth c C hr hlk hnm hM ls hl
  obtain ⟨hx, hb, hml, hown, hts, hE, hbs⟩ := id C
  have hl : lv_has ls 8 [(0, .ref (b + 192)), (1, .int 2), (2, .int 0), (3, .int 1), (4, .int 0)] := hl
  refine lv_iload_n hx hb dX13_apart_0 rfl (lv_at hl 2 rfl) ?_
  refine lv_istore (lv' := [(5, .int 0), (0, .ref (b + 192)), (1, .int 2), (2, .int 0), (3, .int 1), (4, .int 0)]) hx hb dX13_apart_1 hl (by decide) rfl (fun ls hl => ?_)
  refine lv_iload hx hb dX13_apart_3 (lv_at hl 0 rfl) ?_
  refine lv_if_lt (tgt := 166) hx hb dX13_apart_5 (by decide) (fun h => absurd h (by decide)) (fun _ => ?_)
  refine lv_iload hx hb dX13_apart_8 (lv_at hl 5 rfl) ?_
  refine lv_istore (lv' := [(6, .int 0), (5, .int 0), (0, .ref (b + 192)), (1, .int 2), (2, .int 0), (3, .int 1), (4, .int 0)]) hx hb dX13_apart_10 hl (by decide) rfl (fun ls hl => ?_)
  refine lv_iload hx hb dX13_apart_12 (lv_at hl 0 rfl) ?_
  refine lv_if_lt (tgt := 160) hx hb dX13_apart_14 (by decide) (fun h => absurd h (by decide)) (fun _ => ?_)
  refine lv_iload hx hb dX13_apart_17 (lv_at hl 1 rfl) ?_
  refine lv_iload_n hx hb dX13_apart_19 rfl (lv_at hl 4 rfl) ?_
  refine lv_icmp_ne (tgt := 31) hx hb dX13_apart_20 (by decide) (fun h => absurd (by decide) h) (fun _ => ?_)
  refine lv_iload hx hb dX13_apart_23 (lv_at hl 6 rfl) ?_
  refine lv_iload hx hb dX13_apart_25 (lv_at hl 0 rfl) ?_
  refine lv_isub hx hb dX13_apart_27 ?_
  refine m_vi (y := 0) (by decide) ?_
  refine lv_goto (tgt := 85) hx hb dX13_apart_28 (by decide) ?_
  refine lv_istore (lv' := [(7, .int 0), (6, .int 0), (5, .int 0), (0, .ref (b + 192)), (1, .int 2), (2, .int 0), (3, .int 1), (4, .int 0)]) hx hb dX13_apart_85 hl (by decide) rfl (fun ls hl => ?_)
  refine lv_iload hx hb dX13_apart_87 (lv_at hl 2 rfl) ?_
  refine lv_iload_n hx hb dX13_apart_89 rfl (lv_at hl 5 rfl) ?_
  refine lv_icmp_ge (tgt := 140) hx hb dX13_apart_90 (by decide) (fun _ => ?_) (fun h => absurd (by decide) h)
  refine lv_aload_n hx hb dX13_apart_140 rfl (lv_at hl 3 rfl) ?_
  refine m_get fl_X13_121_X13 C hM (i := 192) (by decide) h192 (v := .ref (b + 215)) rfl dX13_apart_141 ?_
  refine lv_iload hx hb dX13_apart_144 (lv_at hl 2 rfl) ?_
  refine lv_iload hx hb dX13_apart_146 (lv_at hl 1 rfl) ?_
  refine m_goi (m_runS calS_X13_at wd_1432 (a_X13_at_0 l D kc b f) C hM hl.1 rfl rfl (Nat.le_of_ble_eq_true rfl) dX13_apart_148 ⟨Nat.le_of_ble_eq_true rfl, Nat.le_of_ble_eq_true rfl⟩ ⟨Nat.le_of_ble_eq_true rfl, Nat.le_of_ble_eq_true rfl⟩) hM (fun r1 n2 f1 H locs hp hM => ?_)
  have hp : r1 = 0 ∧ n2 = 220 ∧ f1 = f := hp
  obtain ⟨rfl, rfl, ef1⟩ := hp
  refine lv_iload hx hb dX13_apart_151 (lv_at hl 0 rfl) ?_
  have h215_1 : f1 215 = .inl (kc 1, 103041, .inl (fun _ => 0)) := m_sm ef1 h215
  refine m_iast C hM (j := 215) (by decide) h215_1 (m_in (by decide)) dX13_apart_153 (fun H locs f2 ef2 hM => ?_)
  have ef2 : f2 = va_up f1 215 (.inl (kc 1, 103041, .inl (upd (fun _ => 0) 0 0))) := ef2
  refine lv_iinc (v := (-1)) (lv' := [(6, .int (-1)), (7, .int 0), (5, .int 0), (0, .ref (b + 192)), (1, .int 2), (2, .int 0), (3, .int 1), (4, .int 0)]) hx hb dX13_apart_154 hl (k := 1) rfl (by decide) (by decide) rfl (fun ls hl => ?_)
  refine lv_goto (tgt := 12) hx hb dX13_apart_157 (by decide) ?_
  refine lv_iload hx hb dX13_apart_12 (lv_at hl 0 rfl) ?_
  refine lv_if_lt (tgt := 160) hx hb dX13_apart_14 (by decide) (fun _ => ?_) (fun h => absurd (by decide) h)
  refine lv_iinc (v := (-1)) (lv' := [(5, .int (-1)), (6, .int (-1)), (7, .int 0), (0, .ref (b + 192)), (1, .int 2), (2, .int 0), (3, .int 1), (4, .int 0)]) hx hb dX13_apart_160 hl (k := 2) rfl (by decide) (by decide) rfl (fun ls hl => ?_)
  refine lv_goto (tgt := 3) hx hb dX13_apart_163 (by decide) ?_
  refine lv_iload hx hb dX13_apart_3 (lv_at hl 0 rfl) ?_
  refine lv_if_lt (tgt := 166) hx hb dX13_apart_5 (by decide) (fun _ => ?_) (fun h => absurd (by decide) h)
  refine lv_aload_n hx hb dX13_apart_166 rfl (lv_at hl 3 rfl) ?_
  have h192_1 : f1 192 = .inr (13, [.ref (b + 193), .ref (b + 194), .ref (b + 195), .int 0, .int 0, .int 0, .ref (b + 196), .ref (b + 197), .int 0, .int 0, .int 0, .int 0, .int 0, .int 0, .int 0, .int (-1), .ref (b + 198), .ref (b + 199), .ref (b + 200), .ref (b + 201), .ref (b + 202), .ref (b + 203), .ref (b + 204), .ref (b + 205), .ref (b + 206), .ref (b + 207), .ref (b + 208), .int 0, .ref (b + 209), .ref (b + 210), .ref (b + 211), .ref (b + 212), .ref (b + 213), .ref (b + 214), .ref (b + 215), .int 0, .int 0, .int 0, .int 0, .ref (b + 216), .ref (b + 217), .ref (b + 218), .ref (b + 219)]) := m_sm ef1 h192
  have h192_2 : f2 192 = .inr (13, [.ref (b + 193), .ref (b + 194), .ref (b + 195), .int 0, .int 0, .int 0, .ref (b + 196), .ref (b + 197), .int 0, .int 0, .int 0, .int 0, .int 0, .int 0, .int 0, .int (-1), .ref (b + 198), .ref (b + 199), .ref (b + 200), .ref (b + 201), .ref (b + 202), .ref (b + 203), .ref (b + 204), .ref (b + 205), .ref (b + 206), .ref (b + 207), .ref (b + 208), .int 0, .ref (b + 209), .ref (b + 210), .ref (b + 211), .ref (b + 212), .ref (b + 213), .ref (b + 214), .ref (b + 215), .int 0, .int 0, .int 0, .int 0, .ref (b + 216), .ref (b + 217), .ref (b + 218), .ref (b + 219)]) := m_ne ef2 h192_1 (by decide)
  refine m_get fl_X13_121_X13 C hM (i := 192) (by decide) h192_2 (v := .ref (b + 215)) rfl dX13_apart_167 ?_
  refine lv_iconst (v := 0) hx hb dX13_apart_170 (by decide) ?_
  have h215_2 : f2 215 = .inl (kc 1, 103041, .inl (upd (fun _ => 0) 0 0)) := m_eq ef2
  refine m_iald C hM (j := 215) (by decide) h215_2 (m_in (by decide)) dX13_apart_171 ?_
  refine m_vi (y := 0) (by decide) ?_
  exact m_iret C hr hlk hM (⟨rfl, rfl, by rw [ef2, ef1]⟩) dX13_apart_172
set_option maxHeartbeats 4000000 in
set_option maxRecDepth 100000 in
theorem a_X13_bits_0 (l : Launch) (D : va_G) (kc : Nat → ClassId) (b : Nat) (f : Nat → va_E) : mMi l yX13_bits cX13_bits 3 .int 1 0 0 D kc b 220 f [.int 0] (fun r u => r = 0 ∧ u.1 = 220 ∧ u.2 = f) := by
  refine m_start (by decide) (Nat.le_of_ble_eq_true rfl) ?_
  intro p e s m below meth c C hr hlk hnm hM ls hl
  obtain ⟨hx, hb, hml, hown, hts, hE, hbs⟩ := id C
  have hl : lv_has ls 3 [(0, .int 0)] := hl
  refine lv_iconst (v := 0) hx hb dX13_bits_0 (by decide) ?_
  refine lv_istore_n (lv' := [(1, .int 0), (0, .int 0)]) hx hb dX13_bits_1 rfl hl (by decide) rfl (fun ls hl => ?_)
  refine lv_iconst (v := 0) hx hb dX13_bits_2 (by decide) ?_
  refine lv_istore_n (lv' := [(2, .int 0), (1, .int 0), (0, .int 0)]) hx hb dX13_bits_3 rfl hl (by decide) rfl (fun ls hl => ?_)
  refine lv_iload_n hx hb dX13_bits_4 rfl (lv_at hl 0 rfl) ?_
  refine lv_bipush (v := 31) hx hb dX13_bits_5 (by decide) ?_
  refine lv_icmp_ge (tgt := 24) hx hb dX13_bits_7 (by decide) (fun h => absurd h (by decide)) (fun _ => ?_)
  refine lv_iload_n hx hb dX13_bits_10 rfl (lv_at hl 1 rfl) ?_
  refine lv_iload_n hx hb dX13_bits_11 rfl (lv_at hl 2 rfl) ?_
  refine lv_iload_n hx hb dX13_bits_12 rfl (lv_at hl 0 rfl) ?_
  refine lv_ishr hx hb dX13_bits_13 ?_
  refine m_vi (y := 0) (by decide) ?_
  refine lv_iconst (v := 1) hx hb dX13_bits_14 (by decide) ?_
  refine lv_iand hx hb dX13_bits_15 ?_
  refine m_vi (y := 0) (by decide) ?_
  refine lv_iadd hx hb dX13_bits_16 ?_
  refine m_vi (y := 0) (by decide) ?_
  refine lv_istore_n (lv' := [(1, .int 0), (2, .int 0), (0, .int 0)]) hx hb dX13_bits_17 rfl hl (by decide) rfl (fun ls hl => ?_)
  refine lv_iinc (v := 1) (lv' := [(2, .int 1), (1, .int 0), (0, .int 0)]) hx hb dX13_bits_18 hl (k := 1) rfl (by decide) (by decide) rfl (fun ls hl => ?_)
  refine lv_goto (tgt := 4) hx hb dX13_bits_21 (by decide) ?_
  refine lv_iload_n hx hb dX13_bits_4 rfl (lv_at hl 0 rfl) ?_
  refine lv_bipush (v := 31) hx hb dX13_bits_5 (by decide) ?_
  refine lv_icmp_ge (tgt := 24) hx hb dX13_bits_7 (by decide) (fun h => absurd h (by decide)) (fun _ => ?_)
  refine lv_iload_n hx hb dX13_bits_10 rfl (lv_at hl 1 rfl) ?_
  refine lv_iload_n hx hb dX13_bits_11 rfl (lv_at hl 2 rfl) ?_
  refine lv_iload_n hx hb dX13_bits_12 rfl (lv_at hl 0 rfl) ?_
  refine lv_ishr hx hb dX13_bits_13 ?_
  refine m_vi (y := 0) (by decide) ?_
  refine lv_iconst (v := 1) hx hb dX13_bits_14 (by decide) ?_
  refine lv_iand hx hb dX13_bits_15 ?_
  refine m_vi (y := 0) (by decide) ?_
  refine lv_iadd hx hb dX13_bits_16 ?_
  refine m_vi (y := 0) (by decide) ?_
  refine lv_istore_n (lv' := [(1, .int 0), (2, .int 1), (0, .int 0)]) hx hb dX13_bits_17 rfl hl (by decide) rfl (fun ls hl => ?_)
  refine lv_iinc (v := 2) (lv' := [(2, .int 2), (1, .int 0), (0, .int 0)]) hx hb dX13_bits_18 hl (k := 1) rfl (by decide) (by decide) rfl (fun ls hl => ?_)
  refine lv_goto (tgt := 4) hx hb dX13_bits_21 (by decide) ?_
  refine lv_iload_n hx hb dX13_bits_4 rfl (lv_at hl 0 rfl) ?_
  refine lv_bipush (v := 31) hx hb dX13_bits_5 (by decide) ?_
  refine lv_icmp_ge (tgt := 24) hx hb dX13_bits_7 (by decide) (fun h => absurd h (by decide)) (fun _ => ?_)
  refine lv_iload_n hx hb dX13_bits_10 rfl (lv_at hl 1 rfl) ?_
  refine lv_iload_n hx hb dX13_bits_11 rfl (lv_at hl 2 rfl) ?_
  refine lv_iload_n hx hb dX13_bits_12 rfl (lv_at hl 0 rfl) ?_
  refine lv_ishr hx hb dX13_bits_13 ?_
  refine m_vi (y := 0) (by decide) ?_
  refine lv_iconst (v := 1) hx hb dX13_bits_14 (by decide) ?_
  refine lv_iand hx hb dX13_bits_15 ?_
  refine m_vi (y := 0) (by decide) ?_
  refine lv_iadd hx hb dX13_bits_16 ?_
  refine m_vi (y := 0) (by decide) ?_
  refine lv_istore_n (lv' := [(1, .int 0), (2, .int 2), (0, .int 0)]) hx hb dX13_bits_17 rfl hl (by decide) rfl (fun ls hl => ?_)
  refine lv_iinc (v := 3) (lv' := [(2, .int 3), (1, .int 0), (0, .int 0)]) hx hb dX13_bits_18 hl (k := 1) rfl (by decide) (by decide) rfl (fun ls hl => ?_)
  refine lv_goto (tgt := 4) hx hb dX13_bits_21 (by decide) ?_
  refine lv_iload_n hx hb dX13_bits_4 rfl (lv_at hl 0 rfl) ?_
  refine lv_bipush (v := 31) hx hb dX13_bits_5 (by decide) ?_
  refine lv_icmp_ge (tgt := 24) hx hb dX13_bits_7 (by decide) (fun h => absurd h (by decide)) (fun _ => ?_)
  refine lv_iload_n hx hb dX13_bits_10 rfl (lv_at hl 1 rfl) ?_
  refine lv_iload_n hx hb dX13_bits_11 rfl (lv_at hl 2 rfl) ?_
  refine lv_iload_n hx hb dX13_bits_12 rfl (lv_at hl 0 rfl) ?_
  refine lv_ishr hx hb dX13_bits_13 ?_
  refine m_vi (y := 0) (by decide) ?_
  refine lv_iconst (v := 1) hx hb dX13_bits_14 (by decide) ?_
  refine lv_iand hx hb dX13_bits_15 ?_
  refine m_vi (y := 0) (by decide) ?_
  refine lv_iadd hx hb dX13_bits_16 ?_
  refine m_vi (y := 0) (by decide) ?_
  refine lv_istore_n (lv' := [(1, .int 0), (2, .int 3), (0, .int 0)]) hx hb dX13_bits_17 rfl hl (by decide) rfl (fun ls hl => ?_)
  refine lv_iinc (v := 4) (lv' := [(2, .int 4), (1, .int 0), (0, .int 0)]) hx hb dX13_bits_18 hl (k := 1) rfl (by decide) (by decide) rfl (fun ls hl => ?_)
  refine lv_goto (tgt := 4) hx hb dX13_bits_21 (by decide) ?_
  refine lv_iload_n hx hb dX13_bits_4 rfl (lv_at hl 0 rfl) ?_
  refine lv_bipush (v := 31) hx hb dX13_bits_5 (by decide) ?_
  refine lv_icmp_ge (tgt := 24) hx hb dX13_bits_7 (by decide) (fun h => absurd h (by decide)) (fun _ => ?_)
  refine lv_iload_n hx hb dX13_bits_10 rfl (lv_at hl 1 rfl) ?_
  refine lv_iload_n hx hb dX13_bits_11 rfl (lv_at hl 2 rfl) ?_
  refine lv_iload_n hx hb dX13_bits_12 rfl (lv_at hl 0 rfl) ?_
  refine lv_ishr hx hb dX13_bits_13 ?_
  refine m_vi (y := 0) (by decide) ?_
  refine lv_iconst (v := 1) hx hb dX13_bits_14 (by decide) ?_
  refine lv_iand hx hb dX13_bits_15 ?_
  refine m_vi (y := 0) (by decide) ?_
  refine lv_iadd hx hb dX13_bits_16 ?_
  refine m_vi (y := 0) (by decide) ?_
  refine lv_istore_n (lv' := [(1, .int 0), (2, .int 4), (0, .int 0)]) hx hb dX13_bits_17 rfl hl (by decide) rfl (fun ls hl => ?_)
  refine lv_iinc (v := 5) (lv' := [(2, .int 5), (1, .int 0), (0, .int 0)]) hx hb dX13_bits_18 hl (k := 1) rfl (by decide) (by decide) rfl (fun ls hl => ?_)
  refine lv_goto (tgt := 4) hx hb dX13_bits_21 (by decide) ?_
  refine lv_iload_n hx hb dX13_bits_4 rfl (lv_at hl 0 rfl) ?_
  refine lv_bipush (v := 31) hx hb dX13_bits_5 (by decide) ?_
  refine lv_icmp_ge (tgt := 24) hx hb dX13_bits_7 (by decide) (fun h => absurd h (by decide)) (fun _ => ?_)
  refine lv_iload_n hx hb dX13_bits_10 rfl (lv_at hl 1 rfl) ?_
  refine lv_iload_n hx hb dX13_bits_11 rfl (lv_at hl 2 rfl) ?_
  refine lv_iload_n hx hb dX13_bits_12 rfl (lv_at hl 0 rfl) ?_
  refine lv_ishr hx hb dX13_bits_13 ?_
  refine m_vi (y := 0) (by decide) ?_
  refine lv_iconst (v := 1) hx hb dX13_bits_14 (by decide) ?_
  refine lv_iand hx hb dX13_bits_15 ?_
  refine m_vi (y := 0) (by decide) ?_
  refine lv_iadd hx hb dX13_bits_16 ?_
  refine m_vi (y := 0) (by decide) ?_
  refine lv_istore_n (lv' := [(1, .int 0), (2, .int 5), (0, .int 0)]) hx hb dX13_bits_17 rfl hl (by decide) rfl (fun ls hl => ?_)
  refine lv_iinc (v := 6) (lv' := [(2, .int 6), (1, .int 0), (0, .int 0)]) hx hb dX13_bits_18 hl (k := 1) rfl (by decide) (by decide) rfl (fun ls hl => ?_)
  refine lv_goto (tgt := 4) hx hb dX13_bits_21 (by decide) ?_
  refine lv_iload_n hx hb dX13_bits_4 rfl (lv_at hl 0 rfl) ?_
  refine lv_bipush (v := 31) hx hb dX13_bits_5 (by decide) ?_
  refine lv_icmp_ge (tgt := 24) hx hb dX13_bits_7 (by decide) (fun h => absurd h (by decide)) (fun _ => ?_)
  refine lv_iload_n hx hb dX13_bits_10 rfl (lv_at hl 1 rfl) ?_
  refine lv_iload_n hx hb dX13_bits_11 rfl (lv_at hl 2 rfl) ?_
  refine lv_iload_n hx hb dX13_bits_12 rfl (lv_at hl 0 rfl) ?_
  refine lv_ishr hx hb dX13_bits_13 ?_
  refine m_vi (y := 0) (by decide) ?_
  refine lv_iconst (v := 1) hx hb dX13_bits_14 (by decide) ?_
  refine lv_iand hx hb dX13_bits_15 ?_
  refine m_vi (y := 0) (by decide) ?_
  refine lv_iadd hx hb dX13_bits_16 ?_
  refine m_vi (y := 0) (by decide) ?_
  refine lv_istore_n (lv' := [(1, .int 0), (2, .int 6), (0, .int 0)]) hx hb dX13_bits_17 rfl hl (by decide) rfl (fun ls hl => ?_)
  refine lv_iinc (v := 7) (lv' := [(2, .int 7), (1, .int 0), (0, .int 0)]) hx hb dX13_bits_18 hl (k := 1) rfl (by decide) (by decide) rfl (fun ls hl => ?_)
  refine lv_goto (tgt := 4) hx hb dX13_bits_21 (by decide) ?_
  refine lv_iload_n hx hb dX13_bits_4 rfl (lv_at hl 0 rfl) ?_
  refine lv_bipush (v := 31) hx hb dX13_bits_5 (by decide) ?_
  refine lv_icmp_ge (tgt := 24) hx hb dX13_bits_7 (by decide) (fun h => absurd h (by decide)) (fun _ => ?_)
  refine lv_iload_n hx hb dX13_bits_10 rfl (lv_at hl 1 rfl) ?_
  refine lv_iload_n hx hb dX13_bits_11 rfl (lv_at hl 2 rfl) ?_
  refine lv_iload_n hx hb dX13_bits_12 rfl (lv_at hl 0 rfl) ?_
  refine lv_ishr hx hb dX13_bits_13 ?_
  refine m_vi (y := 0) (by decide) ?_
  refine lv_iconst (v := 1) hx hb dX13_bits_14 (by decide) ?_
  refine lv_iand hx hb dX13_bits_15 ?_
  refine m_vi (y := 0) (by decide) ?_
  refine lv_iadd hx hb dX13_bits_16 ?_
  refine m_vi (y := 0) (by decide) ?_
  refine lv_istore_n (lv' := [(1, .int 0), (2, .int 7), (0, .int 0)]) hx hb dX13_bits_17 rfl hl (by decide) rfl (fun ls hl => ?_)
  refine lv_iinc (v := 8) (lv' := [(2, .int 8), (1, .int 0), (0, .int 0)]) hx hb dX13_bits_18 hl (k := 1) rfl (by decide) (by decide) rfl (fun ls hl => ?_)
  refine lv_goto (tgt := 4) hx hb dX13_bits_21 (by decide) ?_
  refine lv_iload_n hx hb dX13_bits_4 rfl (lv_at hl 0 rfl) ?_
  refine lv_bipush (v := 31) hx hb dX13_bits_5 (by decide) ?_
  refine lv_icmp_ge (tgt := 24) hx hb dX13_bits_7 (by decide) (fun h => absurd h (by decide)) (fun _ => ?_)
  refine lv_iload_n hx hb dX13_bits_10 rfl (lv_at hl 1 rfl) ?_
  refine lv_iload_n hx hb dX13_bits_11 rfl (lv_at hl 2 rfl) ?_
  refine lv_iload_n hx hb dX13_bits_12 rfl (lv_at hl 0 rfl) ?_
  refine lv_ishr hx hb dX13_bits_13 ?_
  refine m_vi (y := 0) (by decide) ?_
  refine lv_iconst (v := 1) hx hb dX13_bits_14 (by decide) ?_
  refine lv_iand hx hb dX13_bits_15 ?_
  refine m_vi (y := 0) (by decide) ?_
  refine lv_iadd hx hb dX13_bits_16 ?_
  refine m_vi (y := 0) (by decide) ?_
  refine lv_istore_n (lv' := [(1, .int 0), (2, .int 8), (0, .int 0)]) hx hb dX13_bits_17 rfl hl (by decide) rfl (fun ls hl => ?_)
  refine lv_iinc (v := 9) (lv' := [(2, .int 9), (1, .int 0), (0, .int 0)]) hx hb dX13_bits_18 hl (k := 1) rfl (by decide) (by decide) rfl (fun ls hl => ?_)
  refine lv_goto (tgt := 4) hx hb dX13_bits_21 (by decide) ?_
  refine lv_iload_n hx hb dX13_bits_4 rfl (lv_at hl 0 rfl) ?_
  refine lv_bipush (v := 31) hx hb dX13_bits_5 (by decide) ?_
  refine lv_icmp_ge (tgt := 24) hx hb dX13_bits_7 (by decide) (fun h => absurd h (by decide)) (fun _ => ?_)
  refine lv_iload_n hx hb dX13_bits_10 rfl (lv_at hl 1 rfl) ?_
  refine lv_iload_n hx hb dX13_bits_11 rfl (lv_at hl 2 rfl) ?_
  refine lv_iload_n hx hb dX13_bits_12 rfl (lv_at hl 0 rfl) ?_
  refine lv_ishr hx hb dX13_bits_13 ?_
  refine m_vi (y := 0) (by decide) ?_
  refine lv_iconst (v := 1) hx hb dX13_bits_14 (by decide) ?_
  refine lv_iand hx hb dX13_bits_15 ?_
  refine m_vi (y := 0) (by decide) ?_
  refine lv_iadd hx hb dX13_bits_16 ?_
  refine m_vi (y := 0) (by decide) ?_
  refine lv_istore_n (lv' := [(1, .int 0), (2, .int 9), (0, .int 0)]) hx hb dX13_bits_17 rfl hl (by decide) rfl (fun ls hl => ?_)
  refine lv_iinc (v := 10) (lv' := [(2, .int 10), (1, .int 0), (0, .int 0)]) hx hb dX13_bits_18 hl (k := 1) rfl (by decide) (by decide) rfl (fun ls hl => ?_)
  refine lv_goto (tgt := 4) hx hb dX13_bits_21 (by decide) ?_
  refine lv_iload_n hx hb dX13_bits_4 rfl (lv_at hl 0 rfl) ?_
  refine lv_bipush (v := 31) hx hb dX13_bits_5 (by decide) ?_
  refine lv_icmp_ge (tgt := 24) hx hb dX13_bits_7 (by decide) (fun h => absurd h (by decide)) (fun _ => ?_)
  refine lv_iload_n hx hb dX13_bits_10 rfl (lv_at hl 1 rfl) ?_
  refine lv_iload_n hx hb dX13_bits_11 rfl (lv_at hl 2 rfl) ?_
  refine lv_iload_n hx hb dX13_bits_12 rfl (lv_at hl 0 rfl) ?_
  refine lv_ishr hx hb dX13_bits_13 ?_
  refine m_vi (y := 0) (by decide) ?_
  refine lv_iconst (v := 1) hx hb dX13_bits_14 (by decide) ?_
  refine lv_iand hx hb dX13_bits_15 ?_
  refine m_vi (y := 0) (by decide) ?_
  refine lv_iadd hx hb dX13_bits_16 ?_
  refine m_vi (y := 0) (by decide) ?_
  refine lv_istore_n (lv' := [(1, .int 0), (2, .int 10), (0, .int 0)]) hx hb dX13_bits_17 rfl hl (by decide) rfl (fun ls hl => ?_)
  refine lv_iinc (v := 11) (lv' := [(2, .int 11), (1, .int 0), (0, .int 0)]) hx hb dX13_bits_18 hl (k := 1) rfl (by decide) (by decide) rfl (fun ls hl => ?_)
  refine lv_goto (tgt := 4) hx hb dX13_bits_21 (by decide) ?_
  refine lv_iload_n hx hb dX13_bits_4 rfl (lv_at hl 0 rfl) ?_
  refine lv_bipush (v := 31) hx hb dX13_bits_5 (by decide) ?_
  refine lv_icmp_ge (tgt := 24) hx hb dX13_bits_7 (by decide) (fun h => absurd h (by decide)) (fun _ => ?_)
  refine lv_iload_n hx hb dX13_bits_10 rfl (lv_at hl 1 rfl) ?_
  refine lv_iload_n hx hb dX13_bits_11 rfl (lv_at hl 2 rfl) ?_
  refine lv_iload_n hx hb dX13_bits_12 rfl (lv_at hl 0 rfl) ?_
  refine lv_ishr hx hb dX13_bits_13 ?_
  refine m_vi (y := 0) (by decide) ?_
  refine lv_iconst (v := 1) hx hb dX13_bits_14 (by decide) ?_
  refine lv_iand hx hb dX13_bits_15 ?_
  refine m_vi (y := 0) (by decide) ?_
  refine lv_iadd hx hb dX13_bits_16 ?_
  refine m_vi (y := 0) (by decide) ?_
  refine lv_istore_n (lv' := [(1, .int 0), (2, .int 11), (0, .int 0)]) hx hb dX13_bits_17 rfl hl (by decide) rfl (fun ls hl => ?_)
  refine lv_iinc (v := 12) (lv' := [(2, .int 12), (1, .int 0), (0, .int 0)]) hx hb dX13_bits_18 hl (k := 1) rfl (by decide) (by decide) rfl (fun ls hl => ?_)
  refine lv_goto (tgt := 4) hx hb dX13_bits_21 (by decide) ?_
  refine lv_iload_n hx hb dX13_bits_4 rfl (lv_at hl 0 rfl) ?_
  refine lv_bipush (v := 31) hx hb dX13_bits_5 (by decide) ?_
  refine lv_icmp_ge (tgt := 24) hx hb dX13_bits_7 (by decide) (fun h => absurd h (by decide)) (fun _ => ?_)
  refine lv_iload_n hx hb dX13_bits_10 rfl (lv_at hl 1 rfl) ?_
  refine lv_iload_n hx hb dX13_bits_11 rfl (lv_at hl 2 rfl) ?_
  refine lv_iload_n hx hb dX13_bits_12 rfl (lv_at hl 0 rfl) ?_
  refine lv_ishr hx hb dX13_bits_13 ?_
  refine m_vi (y := 0) (by decide) ?_
  refine lv_iconst (v := 1) hx hb dX13_bits_14 (by decide) ?_
  refine lv_iand hx hb dX13_bits_15 ?_
  refine m_vi (y := 0) (by decide) ?_
  refine lv_iadd hx hb dX13_bits_16 ?_
  refine m_vi (y := 0) (by decide) ?_
  refine lv_istore_n (lv' := [(1, .int 0), (2, .int 12), (0, .int 0)]) hx hb dX13_bits_17 rfl hl (by decide) rfl (fun ls hl => ?_)
  refine lv_iinc (v := 13) (lv' := [(2, .int 13), (1, .int 0), (0, .int 0)]) hx hb dX13_bits_18 hl (k := 1) rfl (by decide) (by decide) rfl (fun ls hl => ?_)
  refine lv_goto (tgt := 4) hx hb dX13_bits_21 (by decide) ?_
  refine lv_iload_n hx hb dX13_bits_4 rfl (lv_at hl 0 rfl) ?_
  refine lv_bipush (v := 31) hx hb dX13_bits_5 (by decide) ?_
  refine lv_icmp_ge (tgt := 24) hx hb dX13_bits_7 (by decide) (fun h => absurd h (by decide)) (fun _ => ?_)
  refine lv_iload_n hx hb dX13_bits_10 rfl (lv_at hl 1 rfl) ?_
  refine lv_iload_n hx hb dX13_bits_11 rfl (lv_at hl 2 rfl) ?_
  refine lv_iload_n hx hb dX13_bits_12 rfl (lv_at hl 0 rfl) ?_
  refine lv_ishr hx hb dX13_bits_13 ?_
  refine m_vi (y := 0) (by decide) ?_
  refine lv_iconst (v := 1) hx hb dX13_bits_14 (by decide) ?_
  refine lv_iand hx hb dX13_bits_15 ?_
  refine m_vi (y := 0) (by decide) ?_
  refine lv_iadd hx hb dX13_bits_16 ?_
  refine m_vi (y := 0) (by decide) ?_
  refine lv_istore_n (lv' := [(1, .int 0), (2, .int 13), (0, .int 0)]) hx hb dX13_bits_17 rfl hl (by decide) rfl (fun ls hl => ?_)
  refine lv_iinc (v := 14) (lv' := [(2, .int 14), (1, .int 0), (0, .int 0)]) hx hb dX13_bits_18 hl (k := 1) rfl (by decide) (by decide) rfl (fun ls hl => ?_)
  refine lv_goto (tgt := 4) hx hb dX13_bits_21 (by decide) ?_
  refine lv_iload_n hx hb dX13_bits_4 rfl (lv_at hl 0 rfl) ?_
  refine lv_bipush (v := 31) hx hb dX13_bits_5 (by decide) ?_
  refine lv_icmp_ge (tgt := 24) hx hb dX13_bits_7 (by decide) (fun h => absurd h (by decide)) (fun _ => ?_)
  refine lv_iload_n hx hb dX13_bits_10 rfl (lv_at hl 1 rfl) ?_
  refine lv_iload_n hx hb dX13_bits_11 rfl (lv_at hl 2 rfl) ?_
  refine lv_iload_n hx hb dX13_bits_12 rfl (lv_at hl 0 rfl) ?_
  refine lv_ishr hx hb dX13_bits_13 ?_
  refine m_vi (y := 0) (by decide) ?_
  refine lv_iconst (v := 1) hx hb dX13_bits_14 (by decide) ?_
  refine lv_iand hx hb dX13_bits_15 ?_
  refine m_vi (y := 0) (by decide) ?_
  refine lv_iadd hx hb dX13_bits_16 ?_
  refine m_vi (y := 0) (by decide) ?_
  refine lv_istore_n (lv' := [(1, .int 0), (2, .int 14), (0, .int 0)]) hx hb dX13_bits_17 rfl hl (by decide) rfl (fun ls hl => ?_)
  refine lv_iinc (v := 15) (lv' := [(2, .int 15), (1, .int 0), (0, .int 0)]) hx hb dX13_bits_18 hl (k := 1) rfl (by decide) (by decide) rfl (fun ls hl => ?_)
  refine lv_goto (tgt := 4) hx hb dX13_bits_21 (by decide) ?_
  refine lv_iload_n hx hb dX13_bits_4 rfl (lv_at hl 0 rfl) ?_
  refine lv_bipush (v := 31) hx hb dX13_bits_5 (by decide) ?_
  refine lv_icmp_ge (tgt := 24) hx hb dX13_bits_7 (by decide) (fun h => absurd h (by decide)) (fun _ => ?_)
  refine lv_iload_n hx hb dX13_bits_10 rfl (lv_at hl 1 rfl) ?_
  refine lv_iload_n hx hb dX13_bits_11 rfl (lv_at hl 2 rfl) ?_
  refine lv_iload_n hx hb dX13_bits_12 rfl (lv_at hl 0 rfl) ?_
  refine lv_ishr hx hb dX13_bits_13 ?_
  refine m_vi (y := 0) (by decide) ?_
  refine lv_iconst (v := 1) hx hb dX13_bits_14 (by decide) ?_
  refine lv_iand hx hb dX13_bits_15 ?_
  refine m_vi (y := 0) (by decide) ?_
  refine lv_iadd hx hb dX13_bits_16 ?_
  refine m_vi (y := 0) (by decide) ?_
  refine lv_istore_n (lv' := [(1, .int 0), (2, .int 15), (0, .int 0)]) hx hb dX13_bits_17 rfl hl (by decide) rfl (fun ls hl => ?_)
  refine lv_iinc (v := 16) (lv' := [(2, .int 16), (1, .int 0), (0, .int 0)]) hx hb dX13_bits_18 hl (k := 1) rfl (by decide) (by decide) rfl (fun ls hl => ?_)
  refine lv_goto (tgt := 4) hx hb dX13_bits_21 (by decide) ?_
  refine lv_iload_n hx hb dX13_bits_4 rfl (lv_at hl 0 rfl) ?_
  refine lv_bipush (v := 31) hx hb dX13_bits_5 (by decide) ?_
  refine lv_icmp_ge (tgt := 24) hx hb dX13_bits_7 (by decide) (fun h => absurd h (by decide)) (fun _ => ?_)
  refine lv_iload_n hx hb dX13_bits_10 rfl (lv_at hl 1 rfl) ?_
  refine lv_iload_n hx hb dX13_bits_11 rfl (lv_at hl 2 rfl) ?_
  refine lv_iload_n hx hb dX13_bits_12 rfl (lv_at hl 0 rfl) ?_
  refine lv_ishr hx hb dX13_bits_13 ?_
  refine m_vi (y := 0) (by decide) ?_
  refine lv_iconst (v := 1) hx hb dX13_bits_14 (by decide) ?_
  refine lv_iand hx hb dX13_bits_15 ?_
  refine m_vi (y := 0) (by decide) ?_
  refine lv_iadd hx hb dX13_bits_16 ?_
  refine m_vi (y := 0) (by decide) ?_
  refine lv_istore_n (lv' := [(1, .int 0), (2, .int 16), (0, .int 0)]) hx hb dX13_bits_17 rfl hl (by decide) rfl (fun ls hl => ?_)
  refine lv_iinc (v := 17) (lv' := [(2, .int 17), (1, .int 0), (0, .int 0)]) hx hb dX13_bits_18 hl (k := 1) rfl (by decide) (by decide) rfl (fun ls hl => ?_)
  refine lv_goto (tgt := 4) hx hb dX13_bits_21 (by decide) ?_
  refine lv_iload_n hx hb dX13_bits_4 rfl (lv_at hl 0 rfl) ?_
  refine lv_bipush (v := 31) hx hb dX13_bits_5 (by decide) ?_
  refine lv_icmp_ge (tgt := 24) hx hb dX13_bits_7 (by decide) (fun h => absurd h (by decide)) (fun _ => ?_)
  refine lv_iload_n hx hb dX13_bits_10 rfl (lv_at hl 1 rfl) ?_
  refine lv_iload_n hx hb dX13_bits_11 rfl (lv_at hl 2 rfl) ?_
  refine lv_iload_n hx hb dX13_bits_12 rfl (lv_at hl 0 rfl) ?_
  refine lv_ishr hx hb dX13_bits_13 ?_
  refine m_vi (y := 0) (by decide) ?_
  refine lv_iconst (v := 1) hx hb dX13_bits_14 (by decide) ?_
  refine lv_iand hx hb dX13_bits_15 ?_
  refine m_vi (y := 0) (by decide) ?_
  refine lv_iadd hx hb dX13_bits_16 ?_
  refine m_vi (y := 0) (by decide) ?_
  refine lv_istore_n (lv' := [(1, .int 0), (2, .int 17), (0, .int 0)]) hx hb dX13_bits_17 rfl hl (by decide) rfl (fun ls hl => ?_)
  refine lv_iinc (v := 18) (lv' := [(2, .int 18), (1, .int 0), (0, .int 0)]) hx hb dX13_bits_18 hl (k := 1) rfl (by decide) (by decide) rfl (fun ls hl => ?_)
  refine lv_goto (tgt := 4) hx hb dX13_bits_21 (by decide) ?_
  refine lv_iload_n hx hb dX13_bits_4 rfl (lv_at hl 0 rfl) ?_
  refine lv_bipush (v := 31) hx hb dX13_bits_5 (by decide) ?_
  refine lv_icmp_ge (tgt := 24) hx hb dX13_bits_7 (by decide) (fun h => absurd h (by decide)) (fun _ => ?_)
  refine lv_iload_n hx hb dX13_bits_10 rfl (lv_at hl 1 rfl) ?_
  refine lv_iload_n hx hb dX13_bits_11 rfl (lv_at hl 2 rfl) ?_
  refine lv_iload_n hx hb dX13_bits_12 rfl (lv_at hl 0 rfl) ?_
  refine lv_ishr hx hb dX13_bits_13 ?_
  refine m_vi (y := 0) (by decide) ?_
  refine lv_iconst (v := 1) hx hb dX13_bits_14 (by decide) ?_
  refine lv_iand hx hb dX13_bits_15 ?_
  refine m_vi (y := 0) (by decide) ?_
  refine lv_iadd hx hb dX13_bits_16 ?_
  refine m_vi (y := 0) (by decide) ?_
  refine lv_istore_n (lv' := [(1, .int 0), (2, .int 18), (0, .int 0)]) hx hb dX13_bits_17 rfl hl (by decide) rfl (fun ls hl => ?_)
  refine lv_iinc (v := 19) (lv' := [(2, .int 19), (1, .int 0), (0, .int 0)]) hx hb dX13_bits_18 hl (k := 1) rfl (by decide) (by decide) rfl (fun ls hl => ?_)
  refine lv_goto (tgt := 4) hx hb dX13_bits_21 (by decide) ?_
  refine lv_iload_n hx hb dX13_bits_4 rfl (lv_at hl 0 rfl) ?_
  refine lv_bipush (v := 31) hx hb dX13_bits_5 (by decide) ?_
  refine lv_icmp_ge (tgt := 24) hx hb dX13_bits_7 (by decide) (fun h => absurd h (by decide)) (fun _ => ?_)
  refine lv_iload_n hx hb dX13_bits_10 rfl (lv_at hl 1 rfl) ?_
  refine lv_iload_n hx hb dX13_bits_11 rfl (lv_at hl 2 rfl) ?_
  refine lv_iload_n hx hb dX13_bits_12 rfl (lv_at hl 0 rfl) ?_
  refine lv_ishr hx hb dX13_bits_13 ?_
  refine m_vi (y := 0) (by decide) ?_
  refine lv_iconst (v := 1) hx hb dX13_bits_14 (by decide) ?_
  refine lv_iand hx hb dX13_bits_15 ?_
  refine m_vi (y := 0) (by decide) ?_
  refine lv_iadd hx hb dX13_bits_16 ?_
  refine m_vi (y := 0) (by decide) ?_
  refine lv_istore_n (lv' := [(1, .int 0), (2, .int 19), (0, .int 0)]) hx hb dX13_bits_17 rfl hl (by decide) rfl (fun ls hl => ?_)
  refine lv_iinc (v := 20) (lv' := [(2, .int 20), (1, .int 0), (0, .int 0)]) hx hb dX13_bits_18 hl (k := 1) rfl (by decide) (by decide) rfl (fun ls hl => ?_)
  refine lv_goto (tgt := 4) hx hb dX13_bits_21 (by decide) ?_
  refine lv_iload_n hx hb dX13_bits_4 rfl (lv_at hl 0 rfl) ?_
  refine lv_bipush (v := 31) hx hb dX13_bits_5 (by decide) ?_
  refine lv_icmp_ge (tgt := 24) hx hb dX13_bits_7 (by decide) (fun h => absurd h (by decide)) (fun _ => ?_)
  refine lv_iload_n hx hb dX13_bits_10 rfl (lv_at hl 1 rfl) ?_
  refine lv_iload_n hx hb dX13_bits_11 rfl (lv_at hl 2 rfl) ?_
  refine lv_iload_n hx hb dX13_bits_12 rfl (lv_at hl 0 rfl) ?_
  refine lv_ishr hx hb dX13_bits_13 ?_
  refine m_vi (y := 0) (by decide) ?_
  refine lv_iconst (v := 1) hx hb dX13_bits_14 (by decide) ?_
  refine lv_iand hx hb dX13_bits_15 ?_
  refine m_vi (y := 0) (by decide) ?_
  refine lv_iadd hx hb dX13_bits_16 ?_
  refine m_vi (y := 0) (by decide) ?_
  refine lv_istore_n (lv' := [(1, .int 0), (2, .int 20), (0, .int 0)]) hx hb dX13_bits_17 rfl hl (by decide) rfl (fun ls hl => ?_)
  refine lv_iinc (v := 21) (lv' := [(2, .int 21), (1, .int 0), (0, .int 0)]) hx hb dX13_bits_18 hl (k := 1) rfl (by decide) (by decide) rfl (fun ls hl => ?_)
  refine lv_goto (tgt := 4) hx hb dX13_bits_21 (by decide) ?_
  refine lv_iload_n hx hb dX13_bits_4 rfl (lv_at hl 0 rfl) ?_
  refine lv_bipush (v := 31) hx hb dX13_bits_5 (by decide) ?_
  refine lv_icmp_ge (tgt := 24) hx hb dX13_bits_7 (by decide) (fun h => absurd h (by decide)) (fun _ => ?_)
  refine lv_iload_n hx hb dX13_bits_10 rfl (lv_at hl 1 rfl) ?_
  refine lv_iload_n hx hb dX13_bits_11 rfl (lv_at hl 2 rfl) ?_
  refine lv_iload_n hx hb dX13_bits_12 rfl (lv_at hl 0 rfl) ?_
  refine lv_ishr hx hb dX13_bits_13 ?_
  refine m_vi (y := 0) (by decide) ?_
  refine lv_iconst (v := 1) hx hb dX13_bits_14 (by decide) ?_
  refine lv_iand hx hb dX13_bits_15 ?_
  refine m_vi (y := 0) (by decide) ?_
  refine lv_iadd hx hb dX13_bits_16 ?_
  refine m_vi (y := 0) (by decide) ?_
  refine lv_istore_n (lv' := [(1, .int 0), (2, .int 21), (0, .int 0)]) hx hb dX13_bits_17 rfl hl (by decide) rfl (fun ls hl => ?_)
  refine lv_iinc (v := 22) (lv' := [(2, .int 22), (1, .int 0), (0, .int 0)]) hx hb dX13_bits_18 hl (k := 1) rfl (by decide) (by decide) rfl (fun ls hl => ?_)
  refine lv_goto (tgt := 4) hx hb dX13_bits_21 (by decide) ?_
  refine lv_iload_n hx hb dX13_bits_4 rfl (lv_at hl 0 rfl) ?_
  refine lv_bipush (v := 31) hx hb dX13_bits_5 (by decide) ?_
  refine lv_icmp_ge (tgt := 24) hx hb dX13_bits_7 (by decide) (fun h => absurd h (by decide)) (fun _ => ?_)
  refine lv_iload_n hx hb dX13_bits_10 rfl (lv_at hl 1 rfl) ?_
  refine lv_iload_n hx hb dX13_bits_11 rfl (lv_at hl 2 rfl) ?_
  refine lv_iload_n hx hb dX13_bits_12 rfl (lv_at hl 0 rfl) ?_
  refine lv_ishr hx hb dX13_bits_13 ?_
  refine m_vi (y := 0) (by decide) ?_
  refine lv_iconst (v := 1) hx hb dX13_bits_14 (by decide) ?_
  refine lv_iand hx hb dX13_bits_15 ?_
  refine m_vi (y := 0) (by decide) ?_
  refine lv_iadd hx hb dX13_bits_16 ?_
  refine m_vi (y := 0) (by decide) ?_
  refine lv_istore_n (lv' := [(1, .int 0), (2, .int 22), (0, .int 0)]) hx hb dX13_bits_17 rfl hl (by decide) rfl (fun ls hl => ?_)
  refine lv_iinc (v := 23) (lv' := [(2, .int 23), (1, .int 0), (0, .int 0)]) hx hb dX13_bits_18 hl (k := 1) rfl (by decide) (by decide) rfl (fun ls hl => ?_)
  refine lv_goto (tgt := 4) hx hb dX13_bits_21 (by decide) ?_
  refine lv_iload_n hx hb dX13_bits_4 rfl (lv_at hl 0 rfl) ?_
  refine lv_bipush (v := 31) hx hb dX13_bits_5 (by decide) ?_
  refine lv_icmp_ge (tgt := 24) hx hb dX13_bits_7 (by decide) (fun h => absurd h (by decide)) (fun _ => ?_)
  refine lv_iload_n hx hb dX13_bits_10 rfl (lv_at hl 1 rfl) ?_
  refine lv_iload_n hx hb dX13_bits_11 rfl (lv_at hl 2 rfl) ?_
  refine lv_iload_n hx hb dX13_bits_12 rfl (lv_at hl 0 rfl) ?_
  refine lv_ishr hx hb dX13_bits_13 ?_
  refine m_vi (y := 0) (by decide) ?_
  refine lv_iconst (v := 1) hx hb dX13_bits_14 (by decide) ?_
  refine lv_iand hx hb dX13_bits_15 ?_
  refine m_vi (y := 0) (by decide) ?_
  refine lv_iadd hx hb dX13_bits_16 ?_
  refine m_vi (y := 0) (by decide) ?_
  refine lv_istore_n (lv' := [(1, .int 0), (2, .int 23), (0, .int 0)]) hx hb dX13_bits_17 rfl hl (by decide) rfl (fun ls hl => ?_)
  refine lv_iinc (v := 24) (lv' := [(2, .int 24), (1, .int 0), (0, .int 0)]) hx hb dX13_bits_18 hl (k := 1) rfl (by decide) (by decide) rfl (fun ls hl => ?_)
  refine lv_goto (tgt := 4) hx hb dX13_bits_21 (by decide) ?_
  refine lv_iload_n hx hb dX13_bits_4 rfl (lv_at hl 0 rfl) ?_
  refine lv_bipush (v := 31) hx hb dX13_bits_5 (by decide) ?_
  refine lv_icmp_ge (tgt := 24) hx hb dX13_bits_7 (by decide) (fun h => absurd h (by decide)) (fun _ => ?_)
  refine lv_iload_n hx hb dX13_bits_10 rfl (lv_at hl 1 rfl) ?_
  refine lv_iload_n hx hb dX13_bits_11 rfl (lv_at hl 2 rfl) ?_
  refine lv_iload_n hx hb dX13_bits_12 rfl (lv_at hl 0 rfl) ?_
  refine lv_ishr hx hb dX13_bits_13 ?_
  refine m_vi (y := 0) (by decide) ?_
  refine lv_iconst (v := 1) hx hb dX13_bits_14 (by decide) ?_
  refine lv_iand hx hb dX13_bits_15 ?_
  refine m_vi (y := 0) (by decide) ?_
  refine lv_iadd hx hb dX13_bits_16 ?_
  refine m_vi (y := 0) (by decide) ?_
  refine lv_istore_n (lv' := [(1, .int 0), (2, .int 24), (0, .int 0)]) hx hb dX13_bits_17 rfl hl (by decide) rfl (fun ls hl => ?_)
  refine lv_iinc (v := 25) (lv' := [(2, .int 25), (1, .int 0), (0, .int 0)]) hx hb dX13_bits_18 hl (k := 1) rfl (by decide) (by decide) rfl (fun ls hl => ?_)
  refine lv_goto (tgt := 4) hx hb dX13_bits_21 (by decide) ?_
  refine lv_iload_n hx hb dX13_bits_4 rfl (lv_at hl 0 rfl) ?_
  refine lv_bipush (v := 31) hx hb dX13_bits_5 (by decide) ?_
  refine lv_icmp_ge (tgt := 24) hx hb dX13_bits_7 (by decide) (fun h => absurd h (by decide)) (fun _ => ?_)
  refine lv_iload_n hx hb dX13_bits_10 rfl (lv_at hl 1 rfl) ?_
  refine lv_iload_n hx hb dX13_bits_11 rfl (lv_at hl 2 rfl) ?_
  refine lv_iload_n hx hb dX13_bits_12 rfl (lv_at hl 0 rfl) ?_
  refine lv_ishr hx hb dX13_bits_13 ?_
  refine m_vi (y := 0) (by decide) ?_
  refine lv_iconst (v := 1) hx hb dX13_bits_14 (by decide) ?_
  refine lv_iand hx hb dX13_bits_15 ?_
  refine m_vi (y := 0) (by decide) ?_
  refine lv_iadd hx hb dX13_bits_16 ?_
  refine m_vi (y := 0) (by decide) ?_
  refine lv_istore_n (lv' := [(1, .int 0), (2, .int 25), (0, .int 0)]) hx hb dX13_bits_17 rfl hl (by decide) rfl (fun ls hl => ?_)
  refine lv_iinc (v := 26) (lv' := [(2, .int 26), (1, .int 0), (0, .int 0)]) hx hb dX13_bits_18 hl (k := 1) rfl (by decide) (by decide) rfl (fun ls hl => ?_)
  refine lv_goto (tgt := 4) hx hb dX13_bits_21 (by decide) ?_
  refine lv_iload_n hx hb dX13_bits_4 rfl (lv_at hl 0 rfl) ?_
  refine lv_bipush (v := 31) hx hb dX13_bits_5 (by decide) ?_
  refine lv_icmp_ge (tgt := 24) hx hb dX13_bits_7 (by decide) (fun h => absurd h (by decide)) (fun _ => ?_)
  refine lv_iload_n hx hb dX13_bits_10 rfl (lv_at hl 1 rfl) ?_
  refine lv_iload_n hx hb dX13_bits_11 rfl (lv_at hl 2 rfl) ?_
  refine lv_iload_n hx hb dX13_bits_12 rfl (lv_at hl 0 rfl) ?_
  refine lv_ishr hx hb dX13_bits_13 ?_
  refine m_vi (y := 0) (by decide) ?_
  refine lv_iconst (v := 1) hx hb dX13_bits_14 (by decide) ?_
  refine lv_iand hx hb dX13_bits_15 ?_
  refine m_vi (y := 0) (by decide) ?_
  refine lv_iadd hx hb dX13_bits_16 ?_
  refine m_vi (y := 0) (by decide) ?_
  refine lv_istore_n (lv' := [(1, .int 0), (2, .int 26), (0, .int 0)]) hx hb dX13_bits_17 rfl hl (by decide) rfl (fun ls hl => ?_)
  refine lv_iinc (v := 27) (lv' := [(2, .int 27), (1, .int 0), (0, .int 0)]) hx hb dX13_bits_18 hl (k := 1) rfl (by decide) (by decide) rfl (fun ls hl => ?_)
  refine lv_goto (tgt := 4) hx hb dX13_bits_21 (by decide) ?_
  refine lv_iload_n hx hb dX13_bits_4 rfl (lv_at hl 0 rfl) ?_
  refine lv_bipush (v := 31) hx hb dX13_bits_5 (by decide) ?_
  refine lv_icmp_ge (tgt := 24) hx hb dX13_bits_7 (by decide) (fun h => absurd h (by decide)) (fun _ => ?_)
  refine lv_iload_n hx hb dX13_bits_10 rfl (lv_at hl 1 rfl) ?_
  refine lv_iload_n hx hb dX13_bits_11 rfl (lv_at hl 2 rfl) ?_
  refine lv_iload_n hx hb dX13_bits_12 rfl (lv_at hl 0 rfl) ?_
  refine lv_ishr hx hb dX13_bits_13 ?_
  refine m_vi (y := 0) (by decide) ?_
  refine lv_iconst (v := 1) hx hb dX13_bits_14 (by decide) ?_
  refine lv_iand hx hb dX13_bits_15 ?_
  refine m_vi (y := 0) (by decide) ?_
  refine lv_iadd hx hb dX13_bits_16 ?_
  refine m_vi (y := 0) (by decide) ?_
  refine lv_istore_n (lv' := [(1, .int 0), (2, .int 27), (0, .int 0)]) hx hb dX13_bits_17 rfl hl (by decide) rfl (fun ls hl => ?_)
  refine lv_iinc (v := 28) (lv' := [(2, .int 28), (1, .int 0), (0, .int 0)]) hx hb dX13_bits_18 hl (k := 1) rfl (by decide) (by decide) rfl (fun ls hl => ?_)
  refine lv_goto (tgt := 4) hx hb dX13_bits_21 (by decide) ?_
  refine lv_iload_n hx hb dX13_bits_4 rfl (lv_at hl 0 rfl) ?_
  refine lv_bipush (v := 31) hx hb dX13_bits_5 (by decide) ?_
  refine lv_icmp_ge (tgt := 24) hx hb dX13_bits_7 (by decide) (fun h => absurd h (by decide)) (fun _ => ?_)
  refine lv_iload_n hx hb dX13_bits_10 rfl (lv_at hl 1 rfl) ?_
  refine lv_iload_n hx hb dX13_bits_11 rfl (lv_at hl 2 rfl) ?_
  refine lv_iload_n hx hb dX13_bits_12 rfl (lv_at hl 0 rfl) ?_
  refine lv_ishr hx hb dX13_bits_13 ?_
  refine m_vi (y := 0) (by decide) ?_
  refine lv_iconst (v := 1) hx hb dX13_bits_14 (by decide) ?_
  refine lv_iand hx hb dX13_bits_15 ?_
  refine m_vi (y := 0) (by decide) ?_
  refine lv_iadd hx hb dX13_bits_16 ?_
  refine m_vi (y := 0) (by decide) ?_
  refine lv_istore_n (lv' := [(1, .int 0), (2, .int 28), (0, .int 0)]) hx hb dX13_bits_17 rfl hl (by decide) rfl (fun ls hl => ?_)
  refine lv_iinc (v := 29) (lv' := [(2, .int 29), (1, .int 0), (0, .int 0)]) hx hb dX13_bits_18 hl (k := 1) rfl (by decide) (by decide) rfl (fun ls hl => ?_)
  refine lv_goto (tgt := 4) hx hb dX13_bits_21 (by decide) ?_
  refine lv_iload_n hx hb dX13_bits_4 rfl (lv_at hl 0 rfl) ?_
  refine lv_bipush (v := 31) hx hb dX13_bits_5 (by decide) ?_
  refine lv_icmp_ge (tgt := 24) hx hb dX13_bits_7 (by decide) (fun h => absurd h (by decide)) (fun _ => ?_)
  refine lv_iload_n hx hb dX13_bits_10 rfl (lv_at hl 1 rfl) ?_
  refine lv_iload_n hx hb dX13_bits_11 rfl (lv_at hl 2 rfl) ?_
  refine lv_iload_n hx hb dX13_bits_12 rfl (lv_at hl 0 rfl) ?_
  refine lv_ishr hx hb dX13_bits_13 ?_
  refine m_vi (y := 0) (by decide) ?_
  refine lv_iconst (v := 1) hx hb dX13_bits_14 (by decide) ?_
  refine lv_iand hx hb dX13_bits_15 ?_
  refine m_vi (y := 0) (by decide) ?_
  refine lv_iadd hx hb dX13_bits_16 ?_
  refine m_vi (y := 0) (by decide) ?_
  refine lv_istore_n (lv' := [(1, .int 0), (2, .int 29), (0, .int 0)]) hx hb dX13_bits_17 rfl hl (by decide) rfl (fun ls hl => ?_)
  refine lv_iinc (v := 30) (lv' := [(2, .int 30), (1, .int 0), (0, .int 0)]) hx hb dX13_bits_18 hl (k := 1) rfl (by decide) (by decide) rfl (fun ls hl => ?_)
  refine lv_goto (tgt := 4) hx hb dX13_bits_21 (by decide) ?_
  refine lv_iload_n hx hb dX13_bits_4 rfl (lv_at hl 0 rfl) ?_
  refine lv_bipush (v := 31) hx hb dX13_bits_5 (by decide) ?_
  refine lv_icmp_ge (tgt := 24) hx hb dX13_bits_7 (by decide) (fun h => absurd h (by decide)) (fun _ => ?_)
  refine lv_iload_n hx hb dX13_bits_10 rfl (lv_at hl 1 rfl) ?_
  refine lv_iload_n hx hb dX13_bits_11 rfl (lv_at hl 2 rfl) ?_
  refine lv_iload_n hx hb dX13_bits_12 rfl (lv_at hl 0 rfl) ?_
  refine lv_ishr hx hb dX13_bits_13 ?_
  refine m_vi (y := 0) (by decide) ?_
  refine lv_iconst (v := 1) hx hb dX13_bits_14 (by decide) ?_
  refine lv_iand hx hb dX13_bits_15 ?_
  refine m_vi (y := 0) (by decide) ?_
  refine lv_iadd hx hb dX13_bits_16 ?_
  refine m_vi (y := 0) (by decide) ?_
  refine lv_istore_n (lv' := [(1, .int 0), (2, .int 30), (0, .int 0)]) hx hb dX13_bits_17 rfl hl (by decide) rfl (fun ls hl => ?_)
  refine lv_iinc (v := 31) (lv' := [(2, .int 31), (1, .int 0), (0, .int 0)]) hx hb dX13_bits_18 hl (k := 1) rfl (by decide) (by decide) rfl (fun ls hl => ?_)
  refine lv_goto (tgt := 4) hx hb dX13_bits_21 (by decide) ?_
  refine lv_iload_n hx hb dX13_bits_4 rfl (lv_at hl 0 rfl) ?_
  refine lv_bipush (v := 31) hx hb dX13_bits_5 (by decide) ?_
  refine lv_icmp_ge (tgt := 24) hx hb dX13_bits_7 (by decide) (fun _ => ?_) (fun h => absurd (by decide) h)
  refine lv_iload_n hx hb dX13_bits_24 rfl (lv_at hl 1 rfl) ?_
  exact m_iret C hr hlk hM (⟨rfl, rfl, rfl⟩) dX13_bits_25
