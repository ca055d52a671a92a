set_option maxHeartbeats 4000000 in
set_option maxRecDepth 100000 in
theorem law_tail {p : Program} {l : Launch} {e : Env} {s : State} {m : MethodId} {below : List Frame} {meth : Method} {c : Code} {D : va_G} {kc : Nat → ClassId} {sb : Nat} {xs : Nat → Int32} {H : Heap} {locs : List Loc} {ls : Array Slot} {b n : Nat} {f : Nat → va_E} (C : mC p s m #[Value.ref sb] c code 4 RL D kc b) (hX : va_X sb 6 xs s s.heap) (hbl : sb < s.heap.size) (hsz : s.heap.size = b) (hr : meth.sig.returnType = ret) (hlk : meth.locks = false) (hM : mS D b s n f H locs) (hl : lv_has ls 4 [(3, .int 0), (2, .ref (b + 192)), (1, .ref (b + 0)), (0, .ref sb)]) : W p l e room_1 s m #[Value.ref sb] below meth c H locs 220 112647 (lw_Z below #[Value.ref sb] s) (F0 m 775 ls []) := by
  obtain ⟨hx, hb, hml, hown, hts, hE, hbs⟩ := id C
  have hbA : ¬ b ≤ sb := by omega
  refine lv_iinc (v := 6) (lv' := [(3, .int 6), (2, .ref (b + 192)), (1, .ref (b + 0)), (0, .ref sb)]) hx hb dL_law_775 hl (k := 0) rfl (by decide) (by decide) rfl (fun ls hl => ?_)
  refine lv_goto (tgt := 18) hx hb dL_law_778 (by decide) ?_
  refine lv_iload_n hx hb dL_law_18 rfl (lv_at hl 0 rfl) ?_
  refine lv_aload_n hx hb dL_law_19 rfl (lv_at hl 3 rfl) ?_
  refine va_slen hx hb hX hbl hbA hM.2 dL_law_20 ?_
  refine m_vi (y := 6) rfl ?_
  refine lv_bipush (v := 6) hx hb dL_law_21 (by decide) ?_
  refine lv_isub hx hb dL_law_23 ?_
  refine m_vi (y := 0) (by decide) ?_
  refine lv_icmp_gt (tgt := 781) hx hb dL_law_24 (by decide) (fun _ => ?_) (fun h => absurd (by decide) h)
  refine lv_iconst (v := 1) hx hb dL_law_781 (by decide) ?_
  refine va_forget (fun q hq => by have h9 := hM.2.2.2 q hq; show s.heap.size ≤ q.base; rw [hsz]; exact h9) ?_
  refine W.widen (k := 600002) (n := 7302232) (Nat.le_of_ble_eq_true rfl) (Nat.le_of_ble_eq_true rfl) ?_
  exact lw_ret hx hb hr hlk dL_law_782
set_option maxHeartbeats 4000000 in
set_option maxRecDepth 100000 in
theorem law_case0 {p : Program} {l : Launch} {e : Env} {s : State} {m : MethodId} {below : List Frame} {meth : Method} {c : Code} {D : va_G} {kc : Nat → ClassId} {sb : Nat} {xs : Nat → Int32} {H : Heap} {locs : List Loc} {ls : Array Slot} {b : Nat} {f : Nat → va_E} (C : mC p s m #[Value.ref sb] c code 4 RL D kc b) (hX : va_X sb 6 xs s s.heap) (hbl : sb < s.heap.size) (hsz : s.heap.size = b) (hr : meth.sig.returnType = ret) (hlk : meth.locks = false) (hM : mS D b s 220 f H locs) (hl : lv_has ls 4 [(3, .int 0), (2, .ref (b + 192)), (1, .ref (b + 0)), (0, .ref sb)]) (h0 : f 0 = .inr (11, [.ref (b + 1), .ref (b + 3), .ref (b + 4), .ref (b + 6), .ref (b + 8), .ref (b + 10), .ref (b + 174), .ref (b + 177), .ref (b + 178), .ref (b + 181), .ref (b + 183), .ref (b + 190)])) (h1 : f 1 = .inr (10, [.ref (b + 2), .int 0])) (h2 : f 2 = .inl (kc 0, 2000, .inl (fun _ => 0))) (h192 : f 192 = .inr (13, [.ref (b + 193), .ref (b + 194), .ref (b + 195), .int 0, .int 0, .int 0, .ref (b + 196), .ref (b + 197), .int 0, .int 0, .int 0, .int 0, .int 0, .int 0, .int 0, .int (-1), .ref (b + 198), .ref (b + 199), .ref (b + 200), .ref (b + 201), .ref (b + 202), .ref (b + 203), .ref (b + 204), .ref (b + 205), .ref (b + 206), .ref (b + 207), .ref (b + 208), .int 0, .ref (b + 209), .ref (b + 210), .ref (b + 211), .ref (b + 212), .ref (b + 213), .ref (b + 214), .ref (b + 215), .int 0, .int 0, .int 0, .int 0, .ref (b + 216), .ref (b + 217), .ref (b + 218), .ref (b + 219)])) (h197 : f 197 = .inl (kc 0, 2000, .inl (fun _ => 0))) : W p l e room_1 s m #[Value.ref sb] below meth c H locs 220 112647 (lw_Z below #[Value.ref sb] s) (F0 m 136 ls []) := by
  obtain ⟨hx, hb, hml, hown, hts, hE, hbs⟩ := id C
  have hbA : ¬ b ≤ sb := by omega
  refine lv_aload_n hx hb dL_law_136 rfl (lv_at hl 2 rfl) ?_
  refine lv_aload_n hx hb dL_law_137 rfl (lv_at hl 3 rfl) ?_
  refine lv_iload_n hx hb dL_law_138 rfl (lv_at hl 0 rfl) ?_
  refine lv_iconst (v := 1) hx hb dL_law_139 (by decide) ?_
  refine lv_iadd hx hb dL_law_140 ?_
  refine m_vi (y := 1) (by decide) ?_
  refine va_sld hx hb hX hbl hbA hM.2 (m_in (by decide)) dL_law_141 ?_
  refine m_vi (y := xs 1) rfl ?_
  refine lv_aload_n hx hb dL_law_142 rfl (lv_at hl 3 rfl) ?_
  refine lv_iload_n hx hb dL_law_143 rfl (lv_at hl 0 rfl) ?_
  refine lv_iconst (v := 2) hx hb dL_law_144 (by decide) ?_
  refine lv_iadd hx hb dL_law_145 ?_
  refine m_vi (y := 2) (by decide) ?_
  refine va_sld hx hb hX hbl hbA hM.2 (m_in (by decide)) dL_law_146 ?_
  refine m_vi (y := xs 2) rfl ?_
  refine lv_aload_n hx hb dL_law_147 rfl (lv_at hl 3 rfl) ?_
  refine lv_iload_n hx hb dL_law_148 rfl (lv_at hl 0 rfl) ?_
  refine lv_iconst (v := 3) hx hb dL_law_149 (by decide) ?_
  refine lv_iadd hx hb dL_law_150 ?_
  refine m_vi (y := 3) (by decide) ?_
  refine va_sld hx hb hX hbl hbA hM.2 (m_in (by decide)) dL_law_151 ?_
  refine m_vi (y := xs 3) rfl ?_
  refine lv_aload_n hx hb dL_law_152 rfl (lv_at hl 3 rfl) ?_
  refine lv_iload_n hx hb dL_law_153 rfl (lv_at hl 0 rfl) ?_
  refine lv_iconst (v := 4) hx hb dL_law_154 (by decide) ?_
  refine lv_iadd hx hb dL_law_155 ?_
  refine m_vi (y := 4) (by decide) ?_
  refine va_sld hx hb hX hbl hbA hM.2 (m_in (by decide)) dL_law_156 ?_
  refine m_vi (y := xs 4) rfl ?_
  refine lv_aload_n hx hb dL_law_157 rfl (lv_at hl 3 rfl) ?_
  refine lv_iload_n hx hb dL_law_158 rfl (lv_at hl 0 rfl) ?_
  refine lv_iconst (v := 5) hx hb dL_law_159 (by decide) ?_
  refine lv_iadd hx hb dL_law_160 ?_
  refine m_vi (y := 5) (by decide) ?_
  refine va_sld hx hb hX hbl hbA hM.2 (m_in (by decide)) dL_law_161 ?_
  refine m_vi (y := xs 5) rfl ?_
  refine m_goi (m_runV calV_X11_feed wd_437 (k_x_feed l D kc b f (xs 1) (xs 2) (xs 3) (xs 4) (xs 5) h0 h1 h2) C hM (by decide) h0 rfl hl.1 rfl rfl (Nat.le_of_ble_eq_true rfl) dL_law_162 ⟨Nat.le_of_ble_eq_true rfl, Nat.le_of_ble_eq_true rfl⟩ ⟨Nat.le_of_ble_eq_true rfl, Nat.le_of_ble_eq_true rfl⟩) hM (fun r1 n2 f1 H locs hp hM => ?_)
  obtain ⟨er1, rfl, fr1⟩ : r1 = 20 ∧ n2 = 220 ∧ ∀ j, 192 ≤ j → f1 j = f j := hp
  refine lv_aload_n hx hb dL_law_165 rfl (lv_at hl 1 rfl) ?_
  refine lv_aload_n hx hb dL_law_166 rfl (lv_at hl 3 rfl) ?_
  refine lv_iload_n hx hb dL_law_167 rfl (lv_at hl 0 rfl) ?_
  refine lv_iconst (v := 1) hx hb dL_law_168 (by decide) ?_
  refine lv_iadd hx hb dL_law_169 ?_
  refine m_vi (y := 1) (by decide) ?_
  refine va_sld hx hb hX hbl hbA hM.2 (m_in (by decide)) dL_law_170 ?_
  refine m_vi (y := xs 1) rfl ?_
  refine lv_aload_n hx hb dL_law_171 rfl (lv_at hl 3 rfl) ?_
  refine lv_iload_n hx hb dL_law_172 rfl (lv_at hl 0 rfl) ?_
  refine lv_iconst (v := 2) hx hb dL_law_173 (by decide) ?_
  refine lv_iadd hx hb dL_law_174 ?_
  refine m_vi (y := 2) (by decide) ?_
  refine va_sld hx hb hX hbl hbA hM.2 (m_in (by decide)) dL_law_175 ?_
  refine m_vi (y := xs 2) rfl ?_
  refine lv_aload_n hx hb dL_law_176 rfl (lv_at hl 3 rfl) ?_
  refine lv_iload_n hx hb dL_law_177 rfl (lv_at hl 0 rfl) ?_
  refine lv_iconst (v := 3) hx hb dL_law_178 (by decide) ?_
  refine lv_iadd hx hb dL_law_179 ?_
  refine m_vi (y := 3) (by decide) ?_
  refine va_sld hx hb hX hbl hbA hM.2 (m_in (by decide)) dL_law_180 ?_
  refine m_vi (y := xs 3) rfl ?_
  refine lv_aload_n hx hb dL_law_181 rfl (lv_at hl 3 rfl) ?_
  refine lv_iload_n hx hb dL_law_182 rfl (lv_at hl 0 rfl) ?_
  refine lv_iconst (v := 4) hx hb dL_law_183 (by decide) ?_
  refine lv_iadd hx hb dL_law_184 ?_
  refine m_vi (y := 4) (by decide) ?_
  refine va_sld hx hb hX hbl hbA hM.2 (m_in (by decide)) dL_law_185 ?_
  refine m_vi (y := xs 4) rfl ?_
  refine lv_aload_n hx hb dL_law_186 rfl (lv_at hl 3 rfl) ?_
  refine lv_iload_n hx hb dL_law_187 rfl (lv_at hl 0 rfl) ?_
  refine lv_iconst (v := 5) hx hb dL_law_188 (by decide) ?_
  refine lv_iadd hx hb dL_law_189 ?_
  refine m_vi (y := 5) (by decide) ?_
  refine va_sld hx hb hX hbl hbA hM.2 (m_in (by decide)) dL_law_190 ?_
  refine m_vi (y := xs 5) rfl ?_
  have h192_1 : f1 192 = .inr (13, [.ref (b + 193), .ref (b + 194), .ref (b + 195), .int 0, .int 0, .int 0, .ref (b + 196), .ref (b + 197), .int 0, .int 0, .int 0, .int 0, .int 0, .int 0, .int 0, .int (-1), .ref (b + 198), .ref (b + 199), .ref (b + 200), .ref (b + 201), .ref (b + 202), .ref (b + 203), .ref (b + 204), .ref (b + 205), .ref (b + 206), .ref (b + 207), .ref (b + 208), .int 0, .ref (b + 209), .ref (b + 210), .ref (b + 211), .ref (b + 212), .ref (b + 213), .ref (b + 214), .ref (b + 215), .int 0, .int 0, .int 0, .int 0, .ref (b + 216), .ref (b + 217), .ref (b + 218), .ref (b + 219)]) := (fr1 192 (by decide)).trans h192
  have h197_1 : f1 197 = .inl (kc 0, 2000, .inl (fun _ => 0)) := (fr1 197 (by decide)).trans h197
  refine m_goi (m_runV calV_X13_feed wd_1209 (k_m_feed l D kc b f1 (xs 1) (xs 2) (xs 3) (xs 4) (xs 5) h192_1 h197_1) C hM (by decide) h192_1 rfl hl.1 rfl rfl (Nat.le_of_ble_eq_true rfl) dL_law_191 ⟨Nat.le_of_ble_eq_true rfl, Nat.le_of_ble_eq_true rfl⟩ ⟨Nat.le_of_ble_eq_true rfl, Nat.le_of_ble_eq_true rfl⟩) hM (fun r3 n4 f2 H locs hp hM => ?_)
  have er3 : r3 = 20 := hp
  refine lv_icmp_eq (tgt := 775) hx hb dL_law_194 (by decide) (fun _ => ?_) (fun h => absurd (er1.trans er3.symm) h)
  exact law_tail C hX hbl hsz hr hlk hM hl
set_option maxHeartbeats 4000000 in
set_option maxRecDepth 100000 in
theorem law_case1 {p : Program} {l : Launch} {e : Env} {s : State} {m : MethodId} {below : List Frame} {meth : Method} {c : Code} {D : va_G} {kc : Nat → ClassId} {sb : Nat} {xs : Nat → Int32} {H : Heap} {locs : List Loc} {ls : Array Slot} {b : Nat} {f : Nat → va_E} (C : mC p s m #[Value.ref sb] c code 4 RL D kc b) (hX : va_X sb 6 xs s s.heap) (hbl : sb < s.heap.size) (hsz : s.heap.size = b) (hr : meth.sig.returnType = ret) (hlk : meth.locks = false) (hM : mS D b s 220 f H locs) (hl : lv_has ls 4 [(3, .int 0), (2, .ref (b + 192)), (1, .ref (b + 0)), (0, .ref sb)]) (h0 : f 0 = .inr (11, [.ref (b + 1), .ref (b + 3), .ref (b + 4), .ref (b + 6), .ref (b + 8), .ref (b + 10), .ref (b + 174), .ref (b + 177), .ref (b + 178), .ref (b + 181), .ref (b + 183), .ref (b + 190)])) (h1 : f 1 = .inr (10, [.ref (b + 2), .int 0])) (h192 : f 192 = .inr (13, [.ref (b + 193), .ref (b + 194), .ref (b + 195), .int 0, .int 0, .int 0, .ref (b + 196), .ref (b + 197), .int 0, .int 0, .int 0, .int 0, .int 0, .int 0, .int 0, .int (-1), .ref (b + 198), .ref (b + 199), .ref (b + 200), .ref (b + 201), .ref (b + 202), .ref (b + 203), .ref (b + 204), .ref (b + 205), .ref (b + 206), .ref (b + 207), .ref (b + 208), .int 0, .ref (b + 209), .ref (b + 210), .ref (b + 211), .ref (b + 212), .ref (b + 213), .ref (b + 214), .ref (b + 215), .int 0, .int 0, .int 0, .int 0, .ref (b + 216), .ref (b + 217), .ref (b + 218), .ref (b + 219)])) : W p l e room_1 s m #[Value.ref sb] below meth c H locs 220 112647 (lw_Z below #[Value.ref sb] s) (F0 m 199 ls []) := by
  obtain ⟨hx, hb, hml, hown, hts, hE, hbs⟩ := id C
  have hbA : ¬ b ≤ sb := by omega
  refine lv_aload_n hx hb dL_law_199 rfl (lv_at hl 2 rfl) ?_
  refine lv_aload_n hx hb dL_law_200 rfl (lv_at hl 3 rfl) ?_
  refine lv_iload_n hx hb dL_law_201 rfl (lv_at hl 0 rfl) ?_
  refine lv_iconst (v := 1) hx hb dL_law_202 (by decide) ?_
  refine lv_iadd hx hb dL_law_203 ?_
  refine m_vi (y := 1) (by decide) ?_
  refine va_sld hx hb hX hbl hbA hM.2 (m_in (by decide)) dL_law_204 ?_
  refine m_vi (y := xs 1) rfl ?_
  refine m_goi (m_runV calV_X11_end wd_445 (k_x_end l D kc b f (xs 1) h0 h1) C hM (by decide) h0 rfl hl.1 rfl rfl (Nat.le_of_ble_eq_true rfl) dL_law_205 ⟨Nat.le_of_ble_eq_true rfl, Nat.le_of_ble_eq_true rfl⟩ ⟨Nat.le_of_ble_eq_true rfl, Nat.le_of_ble_eq_true rfl⟩) hM (fun r1 n2 f1 H locs hp hM => ?_)
  obtain ⟨er1, rfl, fr1⟩ : r1 = p_end (xs 1) ∧ n2 = 220 ∧ ∀ j, 192 ≤ j → f1 j = f j := hp
  refine lv_aload_n hx hb dL_law_208 rfl (lv_at hl 1 rfl) ?_
  refine lv_aload_n hx hb dL_law_209 rfl (lv_at hl 3 rfl) ?_
  refine lv_iload_n hx hb dL_law_210 rfl (lv_at hl 0 rfl) ?_
  refine lv_iconst (v := 1) hx hb dL_law_211 (by decide) ?_
  refine lv_iadd hx hb dL_law_212 ?_
  refine m_vi (y := 1) (by decide) ?_
  refine va_sld hx hb hX hbl hbA hM.2 (m_in (by decide)) dL_law_213 ?_
  refine m_vi (y := xs 1) rfl ?_
  have h192_1 : f1 192 = .inr (13, [.ref (b + 193), .ref (b + 194), .ref (b + 195), .int 0, .int 0, .int 0, .ref (b + 196), .ref (b + 197), .int 0, .int 0, .int 0, .int 0, .int 0, .int 0, .int 0, .int (-1), .ref (b + 198), .ref (b + 199), .ref (b + 200), .ref (b + 201), .ref (b + 202), .ref (b + 203), .ref (b + 204), .ref (b + 205), .ref (b + 206), .ref (b + 207), .ref (b + 208), .int 0, .ref (b + 209), .ref (b + 210), .ref (b + 211), .ref (b + 212), .ref (b + 213), .ref (b + 214), .ref (b + 215), .int 0, .int 0, .int 0, .int 0, .ref (b + 216), .ref (b + 217), .ref (b + 218), .ref (b + 219)]) := (fr1 192 (by decide)).trans h192
  refine m_goi (m_runV calV_X13_end wd_1217 (k_m_end l D kc b f1 (xs 1) h192_1) C hM (by decide) h192_1 rfl hl.1 rfl rfl (Nat.le_of_ble_eq_true rfl) dL_law_214 ⟨Nat.le_of_ble_eq_true rfl, Nat.le_of_ble_eq_true rfl⟩ ⟨Nat.le_of_ble_eq_true rfl, Nat.le_of_ble_eq_true rfl⟩) hM (fun r3 n4 f2 H locs hp hM => ?_)
  have er3 : r3 = p_end (xs 1) := hp
  refine lv_icmp_eq (tgt := 775) hx hb dL_law_217 (by decide) (fun _ => ?_) (fun h => absurd (er1.trans er3.symm) h)
  exact law_tail C hX hbl hsz hr hlk hM hl
set_option maxHeartbeats 4000000 in
set_option maxRecDepth 100000 in
theorem law_case2 {p : Program} {l : Launch} {e : Env} {s : State} {m : MethodId} {below : List Frame} {meth : Method} {c : Code} {D : va_G} {kc : Nat → ClassId} {sb : Nat} {xs : Nat → Int32} {H : Heap} {locs : List Loc} {ls : Array Slot} {b : Nat} {f : Nat → va_E} (C : mC p s m #[Value.ref sb] c code 4 RL D kc b) (hX : va_X sb 6 xs s s.heap) (hbl : sb < s.heap.size) (hsz : s.heap.size = b) (hr : meth.sig.returnType = ret) (hlk : meth.locks = false) (hM : mS D b s 220 f H locs) (hl : lv_has ls 4 [(3, .int 0), (2, .ref (b + 192)), (1, .ref (b + 0)), (0, .ref sb)]) (h0 : f 0 = .inr (11, [.ref (b + 1), .ref (b + 3), .ref (b + 4), .ref (b + 6), .ref (b + 8), .ref (b + 10), .ref (b + 174), .ref (b + 177), .ref (b + 178), .ref (b + 181), .ref (b + 183), .ref (b + 190)])) (h1 : f 1 = .inr (10, [.ref (b + 2), .int 0])) (h3 : f 3 = .inr (1, [.int 0, .int (-1)])) (h4 : f 4 = .inr (8, [.ref (b + 5), .int 0])) (h8 : f 8 = .inr (8, [.ref (b + 9), .int 0])) (h10 : f 10 = .inr (5, [.ref (b + 11), .ref (b + 12), .ref (b + 13), .int 0, .int 0, .int 0])) (h174 : f 174 = .inr (9, [.ref (b + 175)])) (h175 : f 175 = .inr (8, [.ref (b + 176), .int 0])) (h178 : f 178 = .inr (7, [.ref (b + 179), .ref (b + 180), .int 0, .null, .null])) (h192 : f 192 = .inr (13, [.ref (b + 193), .ref (b + 194), .ref (b + 195), .int 0, .int 0, .int 0, .ref (b + 196), .ref (b + 197), .int 0, .int 0, .int 0, .int 0, .int 0, .int 0, .int 0, .int (-1), .ref (b + 198), .ref (b + 199), .ref (b + 200), .ref (b + 201), .ref (b + 202), .ref (b + 203), .ref (b + 204), .ref (b + 205), .ref (b + 206), .ref (b + 207), .ref (b + 208), .int 0, .ref (b + 209), .ref (b + 210), .ref (b + 211), .ref (b + 212), .ref (b + 213), .ref (b + 214), .ref (b + 215), .int 0, .int 0, .int 0, .int 0, .ref (b + 216), .ref (b + 217), .ref (b + 218), .ref (b + 219)])) : W p l e room_1 s m #[Value.ref sb] below meth c H locs 220 112647 (lw_Z below #[Value.ref sb] s) (F0 m 222 ls []) := by
  obtain ⟨hx, hb, hml, hown, hts, hE, hbs⟩ := id C
  have hbA : ¬ b ≤ sb := by omega
  refine lv_aload_n hx hb dL_law_222 rfl (lv_at hl 2 rfl) ?_
  refine m_goi (m_runV calV_X11_first wd_449 (k_x_first l D kc b f  h0 h174 h175 h3 h1 h4 h10 h178 h8) C hM (by decide) h0 rfl hl.1 rfl rfl (Nat.le_of_ble_eq_true rfl) dL_law_223 ⟨Nat.le_of_ble_eq_true rfl, Nat.le_of_ble_eq_true rfl⟩ ⟨Nat.le_of_ble_eq_true rfl, Nat.le_of_ble_eq_true rfl⟩) hM (fun r1 n2 f1 H locs hp hM => ?_)
  obtain ⟨er1, rfl, fr1⟩ : r1 = 0 ∧ n2 = 220 ∧ ∀ j, 192 ≤ j → f1 j = f j := hp
  refine lv_aload_n hx hb dL_law_226 rfl (lv_at hl 1 rfl) ?_
  have h192_1 : f1 192 = .inr (13, [.ref (b + 193), .ref (b + 194), .ref (b + 195), .int 0, .int 0, .int 0, .ref (b + 196), .ref (b + 197), .int 0, .int 0, .int 0, .int 0, .int 0, .int 0, .int 0, .int (-1), .ref (b + 198), .ref (b + 199), .ref (b + 200), .ref (b + 201), .ref (b + 202), .ref (b + 203), .ref (b + 204), .ref (b + 205), .ref (b + 206), .ref (b + 207), .ref (b + 208), .int 0, .ref (b + 209), .ref (b + 210), .ref (b + 211), .ref (b + 212), .ref (b + 213), .ref (b + 214), .ref (b + 215), .int 0, .int 0, .int 0, .int 0, .ref (b + 216), .ref (b + 217), .ref (b + 218), .ref (b + 219)]) := (fr1 192 (by decide)).trans h192
  refine m_goi (m_runVW calW_X13_first wd_1224 (k_m_first l D kc b f1  h192_1) C hM (by decide) h192_1 rfl hl.1 rfl rfl (Nat.le_of_ble_eq_true rfl) dL_law_227 ⟨Nat.le_of_ble_eq_true rfl, Nat.le_of_ble_eq_true rfl⟩ ⟨Nat.le_of_ble_eq_true rfl, Nat.le_of_ble_eq_true rfl⟩) hM (fun r3 n4 f2 H locs hp hM => ?_)
  have er3 : r3 = 0 := hp
  refine lv_icmp_eq (tgt := 775) hx hb dL_law_230 (by decide) (fun _ => ?_) (fun h => absurd (er1.trans er3.symm) h)
  exact law_tail C hX hbl hsz hr hlk hM hl
set_option maxHeartbeats 4000000 in
set_option maxRecDepth 100000 in
theorem law_case3 {p : Program} {l : Launch} {e : Env} {s : State} {m : MethodId} {below : List Frame} {meth : Method} {c : Code} {D : va_G} {kc : Nat → ClassId} {sb : Nat} {xs : Nat → Int32} {H : Heap} {locs : List Loc} {ls : Array Slot} {b : Nat} {f : Nat → va_E} (C : mC p s m #[Value.ref sb] c code 4 RL D kc b) (hX : va_X sb 6 xs s s.heap) (hbl : sb < s.heap.size) (hsz : s.heap.size = b) (hr : meth.sig.returnType = ret) (hlk : meth.locks = false) (hM : mS D b s 220 f H locs) (hl : lv_has ls 4 [(3, .int 0), (2, .ref (b + 192)), (1, .ref (b + 0)), (0, .ref sb)]) (h0 : f 0 = .inr (11, [.ref (b + 1), .ref (b + 3), .ref (b + 4), .ref (b + 6), .ref (b + 8), .ref (b + 10), .ref (b + 174), .ref (b + 177), .ref (b + 178), .ref (b + 181), .ref (b + 183), .ref (b + 190)])) (h1 : f 1 = .inr (10, [.ref (b + 2), .int 0])) (h3 : f 3 = .inr (1, [.int 0, .int (-1)])) (h6 : f 6 = .inr (8, [.ref (b + 7), .int 0])) (h174 : f 174 = .inr (9, [.ref (b + 175)])) (h175 : f 175 = .inr (8, [.ref (b + 176), .int 0])) (h192 : f 192 = .inr (13, [.ref (b + 193), .ref (b + 194), .ref (b + 195), .int 0, .int 0, .int 0, .ref (b + 196), .ref (b + 197), .int 0, .int 0, .int 0, .int 0, .int 0, .int 0, .int 0, .int (-1), .ref (b + 198), .ref (b + 199), .ref (b + 200), .ref (b + 201), .ref (b + 202), .ref (b + 203), .ref (b + 204), .ref (b + 205), .ref (b + 206), .ref (b + 207), .ref (b + 208), .int 0, .ref (b + 209), .ref (b + 210), .ref (b + 211), .ref (b + 212), .ref (b + 213), .ref (b + 214), .ref (b + 215), .int 0, .int 0, .int 0, .int 0, .ref (b + 216), .ref (b + 217), .ref (b + 218), .ref (b + 219)])) : W p l e room_1 s m #[Value.ref sb] below meth c H locs 220 112647 (lw_Z below #[Value.ref sb] s) (F0 m 235 ls []) := by
  obtain ⟨hx, hb, hml, hown, hts, hE, hbs⟩ := id C
  have hbA : ¬ b ≤ sb := by omega
  refine lv_aload_n hx hb dL_law_235 rfl (lv_at hl 2 rfl) ?_
  refine m_goi (m_runV calV_X11_second wd_696 (k_x_second l D kc b f  h0 h174 h175 h3 h1 h6) C hM (by decide) h0 rfl hl.1 rfl rfl (Nat.le_of_ble_eq_true rfl) dL_law_236 ⟨Nat.le_of_ble_eq_true rfl, Nat.le_of_ble_eq_true rfl⟩ ⟨Nat.le_of_ble_eq_true rfl, Nat.le_of_ble_eq_true rfl⟩) hM (fun r1 n2 f1 H locs hp hM => ?_)
  obtain ⟨er1, rfl, fr1⟩ : r1 = 0 ∧ n2 = 220 ∧ ∀ j, 192 ≤ j → f1 j = f j := hp
  refine lv_aload_n hx hb dL_law_239 rfl (lv_at hl 1 rfl) ?_
  have h192_1 : f1 192 = .inr (13, [.ref (b + 193), .ref (b + 194), .ref (b + 195), .int 0, .int 0, .int 0, .ref (b + 196), .ref (b + 197), .int 0, .int 0, .int 0, .int 0, .int 0, .int 0, .int 0, .int (-1), .ref (b + 198), .ref (b + 199), .ref (b + 200), .ref (b + 201), .ref (b + 202), .ref (b + 203), .ref (b + 204), .ref (b + 205), .ref (b + 206), .ref (b + 207), .ref (b + 208), .int 0, .ref (b + 209), .ref (b + 210), .ref (b + 211), .ref (b + 212), .ref (b + 213), .ref (b + 214), .ref (b + 215), .int 0, .int 0, .int 0, .int 0, .ref (b + 216), .ref (b + 217), .ref (b + 218), .ref (b + 219)]) := (fr1 192 (by decide)).trans h192
  refine m_goi (m_runVW calW_X13_second wd_1256 (k_m_second l D kc b f1  h192_1) C hM (by decide) h192_1 rfl hl.1 rfl rfl (Nat.le_of_ble_eq_true rfl) dL_law_240 ⟨Nat.le_of_ble_eq_true rfl, Nat.le_of_ble_eq_true rfl⟩ ⟨Nat.le_of_ble_eq_true rfl, Nat.le_of_ble_eq_true rfl⟩) hM (fun r3 n4 f2 H locs hp hM => ?_)
  have er3 : r3 = 0 := hp
  refine lv_icmp_eq (tgt := 775) hx hb dL_law_243 (by decide) (fun _ => ?_) (fun h => absurd (er1.trans er3.symm) h)
  exact law_tail C hX hbl hsz hr hlk hM hl
set_option maxHeartbeats 4000000 in
set_option maxRecDepth 100000 in
theorem law_case4 {p : Program} {l : Launch} {e : Env} {s : State} {m : MethodId} {below : List Frame} {meth : Method} {c : Code} {D : va_G} {kc : Nat → ClassId} {sb : Nat} {xs : Nat → Int32} {H : Heap} {locs : List Loc} {ls : Array Slot} {b : Nat} {f : Nat → va_E} (C : mC p s m #[Value.ref sb] c code 4 RL D kc b) (hX : va_X sb 6 xs s s.heap) (hbl : sb < s.heap.size) (hsz : s.heap.size = b) (hr : meth.sig.returnType = ret) (hlk : meth.locks = false) (hM : mS D b s 220 f H locs) (hl : lv_has ls 4 [(3, .int 0), (2, .ref (b + 192)), (1, .ref (b + 0)), (0, .ref sb)]) (h0 : f 0 = .inr (11, [.ref (b + 1), .ref (b + 3), .ref (b + 4), .ref (b + 6), .ref (b + 8), .ref (b + 10), .ref (b + 174), .ref (b + 177), .ref (b + 178), .ref (b + 181), .ref (b + 183), .ref (b + 190)])) (h1 : f 1 = .inr (10, [.ref (b + 2), .int 0])) (h3 : f 3 = .inr (1, [.int 0, .int (-1)])) (h4 : f 4 = .inr (8, [.ref (b + 5), .int 0])) (h8 : f 8 = .inr (8, [.ref (b + 9), .int 0])) (h10 : f 10 = .inr (5, [.ref (b + 11), .ref (b + 12), .ref (b + 13), .int 0, .int 0, .int 0])) (h177 : f 177 = .inr (4, [.null, .null, .null, .int 0, .int 0, .int 0, .int 0])) (h178 : f 178 = .inr (7, [.ref (b + 179), .ref (b + 180), .int 0, .null, .null])) (h192 : f 192 = .inr (13, [.ref (b + 193), .ref (b + 194), .ref (b + 195), .int 0, .int 0, .int 0, .ref (b + 196), .ref (b + 197), .int 0, .int 0, .int 0, .int 0, .int 0, .int 0, .int 0, .int (-1), .ref (b + 198), .ref (b + 199), .ref (b + 200), .ref (b + 201), .ref (b + 202), .ref (b + 203), .ref (b + 204), .ref (b + 205), .ref (b + 206), .ref (b + 207), .ref (b + 208), .int 0, .ref (b + 209), .ref (b + 210), .ref (b + 211), .ref (b + 212), .ref (b + 213), .ref (b + 214), .ref (b + 215), .int 0, .int 0, .int 0, .int 0, .ref (b + 216), .ref (b + 217), .ref (b + 218), .ref (b + 219)])) : W p l e room_1 s m #[Value.ref sb] below meth c H locs 220 112647 (lw_Z below #[Value.ref sb] s) (F0 m 248 ls []) := by
  obtain ⟨hx, hb, hml, hown, hts, hE, hbs⟩ := id C
  have hbA : ¬ b ≤ sb := by omega
  refine lv_aload_n hx hb dL_law_248 rfl (lv_at hl 2 rfl) ?_
  refine m_goi (m_runV calV_X11_marks wd_700 (k_x_marks l D kc b f  h0 h4 h177 h3 h10 h1 h178 h8) C hM (by decide) h0 rfl hl.1 rfl rfl (Nat.le_of_ble_eq_true rfl) dL_law_249 ⟨Nat.le_of_ble_eq_true rfl, Nat.le_of_ble_eq_true rfl⟩ ⟨Nat.le_of_ble_eq_true rfl, Nat.le_of_ble_eq_true rfl⟩) hM (fun r1 n2 f1 H locs hp hM => ?_)
  obtain ⟨er1, rfl, fr1⟩ : r1 = 0 ∧ n2 = 220 ∧ ∀ j, 192 ≤ j → f1 j = f j := hp
  refine lv_aload_n hx hb dL_law_252 rfl (lv_at hl 1 rfl) ?_
  have h192_1 : f1 192 = .inr (13, [.ref (b + 193), .ref (b + 194), .ref (b + 195), .int 0, .int 0, .int 0, .ref (b + 196), .ref (b + 197), .int 0, .int 0, .int 0, .int 0, .int 0, .int 0, .int 0, .int (-1), .ref (b + 198), .ref (b + 199), .ref (b + 200), .ref (b + 201), .ref (b + 202), .ref (b + 203), .ref (b + 204), .ref (b + 205), .ref (b + 206), .ref (b + 207), .ref (b + 208), .int 0, .ref (b + 209), .ref (b + 210), .ref (b + 211), .ref (b + 212), .ref (b + 213), .ref (b + 214), .ref (b + 215), .int 0, .int 0, .int 0, .int 0, .ref (b + 216), .ref (b + 217), .ref (b + 218), .ref (b + 219)]) := (fr1 192 (by decide)).trans h192
  refine m_goi (m_runVW calW_X13_marks wd_1260 (k_m_marks l D kc b f1  h192_1) C hM (by decide) h192_1 rfl hl.1 rfl rfl (Nat.le_of_ble_eq_true rfl) dL_law_253 ⟨Nat.le_of_ble_eq_true rfl, Nat.le_of_ble_eq_true rfl⟩ ⟨Nat.le_of_ble_eq_true rfl, Nat.le_of_ble_eq_true rfl⟩) hM (fun r3 n4 f2 H locs hp hM => ?_)
  have er3 : r3 = 0 := hp
  refine lv_icmp_eq (tgt := 775) hx hb dL_law_256 (by decide) (fun _ => ?_) (fun h => absurd (er1.trans er3.symm) h)
  exact law_tail C hX hbl hsz hr hlk hM hl
set_option maxHeartbeats 4000000 in
set_option maxRecDepth 100000 in
theorem law_case5 {p : Program} {l : Launch} {e : Env} {s : State} {m : MethodId} {below : List Frame} {meth : Method} {c : Code} {D : va_G} {kc : Nat → ClassId} {sb : Nat} {xs : Nat → Int32} {H : Heap} {locs : List Loc} {ls : Array Slot} {b : Nat} {f : Nat → va_E} (C : mC p s m #[Value.ref sb] c code 4 RL D kc b) (hX : va_X sb 6 xs s s.heap) (hbl : sb < s.heap.size) (hsz : s.heap.size = b) (hr : meth.sig.returnType = ret) (hlk : meth.locks = false) (hM : mS D b s 220 f H locs) (hl : lv_has ls 4 [(3, .int 0), (2, .ref (b + 192)), (1, .ref (b + 0)), (0, .ref sb)]) (h0 : f 0 = .inr (11, [.ref (b + 1), .ref (b + 3), .ref (b + 4), .ref (b + 6), .ref (b + 8), .ref (b + 10), .ref (b + 174), .ref (b + 177), .ref (b + 178), .ref (b + 181), .ref (b + 183), .ref (b + 190)])) (h3 : f 3 = .inr (1, [.int 0, .int (-1)])) (h192 : f 192 = .inr (13, [.ref (b + 193), .ref (b + 194), .ref (b + 195), .int 0, .int 0, .int 0, .ref (b + 196), .ref (b + 197), .int 0, .int 0, .int 0, .int 0, .int 0, .int 0, .int 0, .int (-1), .ref (b + 198), .ref (b + 199), .ref (b + 200), .ref (b + 201), .ref (b + 202), .ref (b + 203), .ref (b + 204), .ref (b + 205), .ref (b + 206), .ref (b + 207), .ref (b + 208), .int 0, .ref (b + 209), .ref (b + 210), .ref (b + 211), .ref (b + 212), .ref (b + 213), .ref (b + 214), .ref (b + 215), .int 0, .int 0, .int 0, .int 0, .ref (b + 216), .ref (b + 217), .ref (b + 218), .ref (b + 219)])) : W p l e room_1 s m #[Value.ref sb] below meth c H locs 220 112647 (lw_Z below #[Value.ref sb] s) (F0 m 261 ls []) := by
  obtain ⟨hx, hb, hml, hown, hts, hE, hbs⟩ := id C
  have hbA : ¬ b ≤ sb := by omega
  refine lv_aload_n hx hb dL_law_261 rfl (lv_at hl 2 rfl) ?_
  refine lv_aload_n hx hb dL_law_262 rfl (lv_at hl 3 rfl) ?_
  refine lv_iload_n hx hb dL_law_263 rfl (lv_at hl 0 rfl) ?_
  refine lv_iconst (v := 1) hx hb dL_law_264 (by decide) ?_
  refine lv_iadd hx hb dL_law_265 ?_
  refine m_vi (y := 1) (by decide) ?_
  refine va_sld hx hb hX hbl hbA hM.2 (m_in (by decide)) dL_law_266 ?_
  refine m_vi (y := xs 1) rfl ?_
  refine m_goi (m_runV calV_X11_fault wd_837 (k_x_fault l D kc b f (xs 1) h0 h3) C hM (by decide) h0 rfl hl.1 rfl rfl (Nat.le_of_ble_eq_true rfl) dL_law_267 ⟨Nat.le_of_ble_eq_true rfl, Nat.le_of_ble_eq_true rfl⟩ ⟨Nat.le_of_ble_eq_true rfl, Nat.le_of_ble_eq_true rfl⟩) hM (fun r1 n2 f1 H locs hp hM => ?_)
  obtain ⟨er1, rfl, fr1⟩ : r1 = p_fault (xs 1) ∧ n2 = 220 ∧ ∀ j, 192 ≤ j → f1 j = f j := hp
  refine lv_aload_n hx hb dL_law_270 rfl (lv_at hl 1 rfl) ?_
  refine lv_aload_n hx hb dL_law_271 rfl (lv_at hl 3 rfl) ?_
  refine lv_iload_n hx hb dL_law_272 rfl (lv_at hl 0 rfl) ?_
  refine lv_iconst (v := 1) hx hb dL_law_273 (by decide) ?_
  refine lv_iadd hx hb dL_law_274 ?_
  refine m_vi (y := 1) (by decide) ?_
  refine va_sld hx hb hX hbl hbA hM.2 (m_in (by decide)) dL_law_275 ?_
  refine m_vi (y := xs 1) rfl ?_
  have h192_1 : f1 192 = .inr (13, [.ref (b + 193), .ref (b + 194), .ref (b + 195), .int 0, .int 0, .int 0, .ref (b + 196), .ref (b + 197), .int 0, .int 0, .int 0, .int 0, .int 0, .int 0, .int 0, .int (-1), .ref (b + 198), .ref (b + 199), .ref (b + 200), .ref (b + 201), .ref (b + 202), .ref (b + 203), .ref (b + 204), .ref (b + 205), .ref (b + 206), .ref (b + 207), .ref (b + 208), .int 0, .ref (b + 209), .ref (b + 210), .ref (b + 211), .ref (b + 212), .ref (b + 213), .ref (b + 214), .ref (b + 215), .int 0, .int 0, .int 0, .int 0, .ref (b + 216), .ref (b + 217), .ref (b + 218), .ref (b + 219)]) := (fr1 192 (by decide)).trans h192
  refine m_goi (m_runV calV_X13_fault wd_1302 (k_m_fault l D kc b f1 (xs 1) h192_1) C hM (by decide) h192_1 rfl hl.1 rfl rfl (Nat.le_of_ble_eq_true rfl) dL_law_276 ⟨Nat.le_of_ble_eq_true rfl, Nat.le_of_ble_eq_true rfl⟩ ⟨Nat.le_of_ble_eq_true rfl, Nat.le_of_ble_eq_true rfl⟩) hM (fun r3 n4 f2 H locs hp hM => ?_)
  have er3 : r3 = p_fault (xs 1) := hp
  refine lv_icmp_eq (tgt := 775) hx hb dL_law_279 (by decide) (fun _ => ?_) (fun h => absurd (er1.trans er3.symm) h)
  exact law_tail C hX hbl hsz hr hlk hM hl
set_option maxHeartbeats 4000000 in
set_option maxRecDepth 100000 in
theorem law_case6 {p : Program} {l : Launch} {e : Env} {s : State} {m : MethodId} {below : List Frame} {meth : Method} {c : Code} {D : va_G} {kc : Nat → ClassId} {sb : Nat} {xs : Nat → Int32} {H : Heap} {locs : List Loc} {ls : Array Slot} {b : Nat} {f : Nat → va_E} (C : mC p s m #[Value.ref sb] c code 4 RL D kc b) (hX : va_X sb 6 xs s s.heap) (hbl : sb < s.heap.size) (hsz : s.heap.size = b) (hr : meth.sig.returnType = ret) (hlk : meth.locks = false) (hM : mS D b s 220 f H locs) (hl : lv_has ls 4 [(3, .int 0), (2, .ref (b + 192)), (1, .ref (b + 0)), (0, .ref sb)]) (h0 : f 0 = .inr (11, [.ref (b + 1), .ref (b + 3), .ref (b + 4), .ref (b + 6), .ref (b + 8), .ref (b + 10), .ref (b + 174), .ref (b + 177), .ref (b + 178), .ref (b + 181), .ref (b + 183), .ref (b + 190)])) (h4 : f 4 = .inr (8, [.ref (b + 5), .int 0])) (h6 : f 6 = .inr (8, [.ref (b + 7), .int 0])) (h8 : f 8 = .inr (8, [.ref (b + 9), .int 0])) (h192 : f 192 = .inr (13, [.ref (b + 193), .ref (b + 194), .ref (b + 195), .int 0, .int 0, .int 0, .ref (b + 196), .ref (b + 197), .int 0, .int 0, .int 0, .int 0, .int 0, .int 0, .int 0, .int (-1), .ref (b + 198), .ref (b + 199), .ref (b + 200), .ref (b + 201), .ref (b + 202), .ref (b + 203), .ref (b + 204), .ref (b + 205), .ref (b + 206), .ref (b + 207), .ref (b + 208), .int 0, .ref (b + 209), .ref (b + 210), .ref (b + 211), .ref (b + 212), .ref (b + 213), .ref (b + 214), .ref (b + 215), .int 0, .int 0, .int 0, .int 0, .ref (b + 216), .ref (b + 217), .ref (b + 218), .ref (b + 219)])) : W p l e room_1 s m #[Value.ref sb] below meth c H locs 220 112647 (lw_Z below #[Value.ref sb] s) (F0 m 284 ls []) := by
  obtain ⟨hx, hb, hml, hown, hts, hE, hbs⟩ := id C
  have hbA : ¬ b ≤ sb := by omega
  refine lv_aload_n hx hb dL_law_284 rfl (lv_at hl 2 rfl) ?_
  refine lv_aload_n hx hb dL_law_285 rfl (lv_at hl 3 rfl) ?_
  refine lv_iload_n hx hb dL_law_286 rfl (lv_at hl 0 rfl) ?_
  refine lv_iconst (v := 1) hx hb dL_law_287 (by decide) ?_
  refine lv_iadd hx hb dL_law_288 ?_
  refine m_vi (y := 1) (by decide) ?_
  refine va_sld hx hb hX hbl hbA hM.2 (m_in (by decide)) dL_law_289 ?_
  refine m_vi (y := xs 1) rfl ?_
  refine lv_aload_n hx hb dL_law_290 rfl (lv_at hl 3 rfl) ?_
  refine lv_iload_n hx hb dL_law_291 rfl (lv_at hl 0 rfl) ?_
  refine lv_iconst (v := 2) hx hb dL_law_292 (by decide) ?_
  refine lv_iadd hx hb dL_law_293 ?_
  refine m_vi (y := 2) (by decide) ?_
  refine va_sld hx hb hX hbl hbA hM.2 (m_in (by decide)) dL_law_294 ?_
  refine m_vi (y := xs 2) rfl ?_
  refine m_gol (m_runV calV_X11_word wd_841 (k_x_word l D kc b f (xs 1) (xs 2) h0 h4 h6 h8) C hM (by decide) h0 rfl hl.1 rfl rfl (Nat.le_of_ble_eq_true rfl) dL_law_295 ⟨Nat.le_of_ble_eq_true rfl, Nat.le_of_ble_eq_true rfl⟩ ⟨Nat.le_of_ble_eq_true rfl, Nat.le_of_ble_eq_true rfl⟩) hM (fun r1 n2 f1 H locs hp hM => ?_)
  obtain ⟨er1, rfl, fr1⟩ : r1 = 0 ∧ n2 = 220 ∧ ∀ j, 192 ≤ j → f1 j = f j := hp
  refine m_vl (y := 0) er1 ?_
  refine lv_aload_n hx hb dL_law_298 rfl (lv_at hl 1 rfl) ?_
  refine lv_aload_n hx hb dL_law_299 rfl (lv_at hl 3 rfl) ?_
  refine lv_iload_n hx hb dL_law_300 rfl (lv_at hl 0 rfl) ?_
  refine lv_iconst (v := 1) hx hb dL_law_301 (by decide) ?_
  refine lv_iadd hx hb dL_law_302 ?_
  refine m_vi (y := 1) (by decide) ?_
  refine va_sld hx hb hX hbl hbA hM.2 (m_in (by decide)) dL_law_303 ?_
  refine m_vi (y := xs 1) rfl ?_
  refine lv_aload_n hx hb dL_law_304 rfl (lv_at hl 3 rfl) ?_
  refine lv_iload_n hx hb dL_law_305 rfl (lv_at hl 0 rfl) ?_
  refine lv_iconst (v := 2) hx hb dL_law_306 (by decide) ?_
  refine lv_iadd hx hb dL_law_307 ?_
  refine m_vi (y := 2) (by decide) ?_
  refine va_sld hx hb hX hbl hbA hM.2 (m_in (by decide)) dL_law_308 ?_
  refine m_vi (y := xs 2) rfl ?_
  have h192_1 : f1 192 = .inr (13, [.ref (b + 193), .ref (b + 194), .ref (b + 195), .int 0, .int 0, .int 0, .ref (b + 196), .ref (b + 197), .int 0, .int 0, .int 0, .int 0, .int 0, .int 0, .int 0, .int (-1), .ref (b + 198), .ref (b + 199), .ref (b + 200), .ref (b + 201), .ref (b + 202), .ref (b + 203), .ref (b + 204), .ref (b + 205), .ref (b + 206), .ref (b + 207), .ref (b + 208), .int 0, .ref (b + 209), .ref (b + 210), .ref (b + 211), .ref (b + 212), .ref (b + 213), .ref (b + 214), .ref (b + 215), .int 0, .int 0, .int 0, .int 0, .ref (b + 216), .ref (b + 217), .ref (b + 218), .ref (b + 219)]) := (fr1 192 (by decide)).trans h192
  refine m_gol (m_runV calV_X13_word wd_1369 (k_m_word l D kc b f1 (xs 1) (xs 2) h192_1) C hM (by decide) h192_1 rfl hl.1 rfl rfl (Nat.le_of_ble_eq_true rfl) dL_law_309 ⟨Nat.le_of_ble_eq_true rfl, Nat.le_of_ble_eq_true rfl⟩ ⟨Nat.le_of_ble_eq_true rfl, Nat.le_of_ble_eq_true rfl⟩) hM (fun r3 n4 f2 H locs hp hM => ?_)
  have er3 : r3 = 0 := hp
  refine m_vl (y := 0) er3 ?_
  refine W.lcmp hx hb dL_law_312 ?_
  refine m_vi (y := 0) (by decide) ?_
  refine lv_if_eq (tgt := 775) hx hb dL_law_313 (by decide) (fun _ => ?_) (fun h => absurd (by decide) h)
  exact law_tail C hX hbl hsz hr hlk hM hl
set_option maxHeartbeats 4000000 in
set_option maxRecDepth 100000 in
theorem law_case7 {p : Program} {l : Launch} {e : Env} {s : State} {m : MethodId} {below : List Frame} {meth : Method} {c : Code} {D : va_G} {kc : Nat → ClassId} {sb : Nat} {xs : Nat → Int32} {H : Heap} {locs : List Loc} {ls : Array Slot} {b : Nat} {f : Nat → va_E} (C : mC p s m #[Value.ref sb] c code 4 RL D kc b) (hX : va_X sb 6 xs s s.heap) (hbl : sb < s.heap.size) (hsz : s.heap.size = b) (hr : meth.sig.returnType = ret) (hlk : meth.locks = false) (hM : mS D b s 220 f H locs) (hl : lv_has ls 4 [(3, .int 0), (2, .ref (b + 192)), (1, .ref (b + 0)), (0, .ref sb)]) (h0 : f 0 = .inr (11, [.ref (b + 1), .ref (b + 3), .ref (b + 4), .ref (b + 6), .ref (b + 8), .ref (b + 10), .ref (b + 174), .ref (b + 177), .ref (b + 178), .ref (b + 181), .ref (b + 183), .ref (b + 190)])) (h10 : f 10 = .inr (5, [.ref (b + 11), .ref (b + 12), .ref (b + 13), .int 0, .int 0, .int 0])) (h192 : f 192 = .inr (13, [.ref (b + 193), .ref (b + 194), .ref (b + 195), .int 0, .int 0, .int 0, .ref (b + 196), .ref (b + 197), .int 0, .int 0, .int 0, .int 0, .int 0, .int 0, .int 0, .int (-1), .ref (b + 198), .ref (b + 199), .ref (b + 200), .ref (b + 201), .ref (b + 202), .ref (b + 203), .ref (b + 204), .ref (b + 205), .ref (b + 206), .ref (b + 207), .ref (b + 208), .int 0, .ref (b + 209), .ref (b + 210), .ref (b + 211), .ref (b + 212), .ref (b + 213), .ref (b + 214), .ref (b + 215), .int 0, .int 0, .int 0, .int 0, .ref (b + 216), .ref (b + 217), .ref (b + 218), .ref (b + 219)])) : W p l e room_1 s m #[Value.ref sb] below meth c H locs 220 112647 (lw_Z below #[Value.ref sb] s) (F0 m 318 ls []) := by
  obtain ⟨hx, hb, hml, hown, hts, hE, hbs⟩ := id C
  have hbA : ¬ b ≤ sb := by omega
  refine lv_aload_n hx hb dL_law_318 rfl (lv_at hl 2 rfl) ?_
  refine lv_aload_n hx hb dL_law_319 rfl (lv_at hl 3 rfl) ?_
  refine lv_iload_n hx hb dL_law_320 rfl (lv_at hl 0 rfl) ?_
  refine lv_iconst (v := 1) hx hb dL_law_321 (by decide) ?_
  refine lv_iadd hx hb dL_law_322 ?_
  refine m_vi (y := 1) (by decide) ?_
  refine va_sld hx hb hX hbl hbA hM.2 (m_in (by decide)) dL_law_323 ?_
  refine m_vi (y := xs 1) rfl ?_
  refine lv_aload_n hx hb dL_law_324 rfl (lv_at hl 3 rfl) ?_
  refine lv_iload_n hx hb dL_law_325 rfl (lv_at hl 0 rfl) ?_
  refine lv_iconst (v := 2) hx hb dL_law_326 (by decide) ?_
  refine lv_iadd hx hb dL_law_327 ?_
  refine m_vi (y := 2) (by decide) ?_
  refine va_sld hx hb hX hbl hbA hM.2 (m_in (by decide)) dL_law_328 ?_
  refine m_vi (y := xs 2) rfl ?_
  refine m_goi (m_runV calV_X11_mark wd_850 (k_x_mark l D kc b f (xs 1) (xs 2) h0 h10) C hM (by decide) h0 rfl hl.1 rfl rfl (Nat.le_of_ble_eq_true rfl) dL_law_329 ⟨Nat.le_of_ble_eq_true rfl, Nat.le_of_ble_eq_true rfl⟩ ⟨Nat.le_of_ble_eq_true rfl, Nat.le_of_ble_eq_true rfl⟩) hM (fun r1 n2 f1 H locs hp hM => ?_)
  obtain ⟨er1, rfl, fr1⟩ : r1 = (-9) ∧ n2 = 220 ∧ ∀ j, 192 ≤ j → f1 j = f j := hp
  refine lv_aload_n hx hb dL_law_332 rfl (lv_at hl 1 rfl) ?_
  refine lv_aload_n hx hb dL_law_333 rfl (lv_at hl 3 rfl) ?_
  refine lv_iload_n hx hb dL_law_334 rfl (lv_at hl 0 rfl) ?_
  refine lv_iconst (v := 1) hx hb dL_law_335 (by decide) ?_
  refine lv_iadd hx hb dL_law_336 ?_
  refine m_vi (y := 1) (by decide) ?_
  refine va_sld hx hb hX hbl hbA hM.2 (m_in (by decide)) dL_law_337 ?_
  refine m_vi (y := xs 1) rfl ?_
  refine lv_aload_n hx hb dL_law_338 rfl (lv_at hl 3 rfl) ?_
  refine lv_iload_n hx hb dL_law_339 rfl (lv_at hl 0 rfl) ?_
  refine lv_iconst (v := 2) hx hb dL_law_340 (by decide) ?_
  refine lv_iadd hx hb dL_law_341 ?_
  refine m_vi (y := 2) (by decide) ?_
  refine va_sld hx hb hX hbl hbA hM.2 (m_in (by decide)) dL_law_342 ?_
  refine m_vi (y := xs 2) rfl ?_
  have h192_1 : f1 192 = .inr (13, [.ref (b + 193), .ref (b + 194), .ref (b + 195), .int 0, .int 0, .int 0, .ref (b + 196), .ref (b + 197), .int 0, .int 0, .int 0, .int 0, .int 0, .int 0, .int 0, .int (-1), .ref (b + 198), .ref (b + 199), .ref (b + 200), .ref (b + 201), .ref (b + 202), .ref (b + 203), .ref (b + 204), .ref (b + 205), .ref (b + 206), .ref (b + 207), .ref (b + 208), .int 0, .ref (b + 209), .ref (b + 210), .ref (b + 211), .ref (b + 212), .ref (b + 213), .ref (b + 214), .ref (b + 215), .int 0, .int 0, .int 0, .int 0, .ref (b + 216), .ref (b + 217), .ref (b + 218), .ref (b + 219)]) := (fr1 192 (by decide)).trans h192
  refine m_goi (m_runV calV_X13_mark wd_1346 (k_m_mark l D kc b f1 (xs 1) (xs 2) h192_1) C hM (by decide) h192_1 rfl hl.1 rfl rfl (Nat.le_of_ble_eq_true rfl) dL_law_343 ⟨Nat.le_of_ble_eq_true rfl, Nat.le_of_ble_eq_true rfl⟩ ⟨Nat.le_of_ble_eq_true rfl, Nat.le_of_ble_eq_true rfl⟩) hM (fun r3 n4 f2 H locs hp hM => ?_)
  have er3 : r3 = (-9) := hp
  refine lv_icmp_eq (tgt := 775) hx hb dL_law_346 (by decide) (fun _ => ?_) (fun h => absurd (er1.trans er3.symm) h)
  exact law_tail C hX hbl hsz hr hlk hM hl
set_option maxHeartbeats 4000000 in
set_option maxRecDepth 100000 in
theorem law_case8 {p : Program} {l : Launch} {e : Env} {s : State} {m : MethodId} {below : List Frame} {meth : Method} {c : Code} {D : va_G} {kc : Nat → ClassId} {sb : Nat} {xs : Nat → Int32} {H : Heap} {locs : List Loc} {ls : Array Slot} {b : Nat} {f : Nat → va_E} (C : mC p s m #[Value.ref sb] c code 4 RL D kc b) (hX : va_X sb 6 xs s s.heap) (hbl : sb < s.heap.size) (hsz : s.heap.size = b) (hr : meth.sig.returnType = ret) (hlk : meth.locks = false) (hM : mS D b s 220 f H locs) (hl : lv_has ls 4 [(3, .int 0), (2, .ref (b + 192)), (1, .ref (b + 0)), (0, .ref sb)]) (h0 : f 0 = .inr (11, [.ref (b + 1), .ref (b + 3), .ref (b + 4), .ref (b + 6), .ref (b + 8), .ref (b + 10), .ref (b + 174), .ref (b + 177), .ref (b + 178), .ref (b + 181), .ref (b + 183), .ref (b + 190)])) (h10 : f 10 = .inr (5, [.ref (b + 11), .ref (b + 12), .ref (b + 13), .int 0, .int 0, .int 0])) (h192 : f 192 = .inr (13, [.ref (b + 193), .ref (b + 194), .ref (b + 195), .int 0, .int 0, .int 0, .ref (b + 196), .ref (b + 197), .int 0, .int 0, .int 0, .int 0, .int 0, .int 0, .int 0, .int (-1), .ref (b + 198), .ref (b + 199), .ref (b + 200), .ref (b + 201), .ref (b + 202), .ref (b + 203), .ref (b + 204), .ref (b + 205), .ref (b + 206), .ref (b + 207), .ref (b + 208), .int 0, .ref (b + 209), .ref (b + 210), .ref (b + 211), .ref (b + 212), .ref (b + 213), .ref (b + 214), .ref (b + 215), .int 0, .int 0, .int 0, .int 0, .ref (b + 216), .ref (b + 217), .ref (b + 218), .ref (b + 219)])) : W p l e room_1 s m #[Value.ref sb] below meth c H locs 220 112647 (lw_Z below #[Value.ref sb] s) (F0 m 351 ls []) := by
  obtain ⟨hx, hb, hml, hown, hts, hE, hbs⟩ := id C
  have hbA : ¬ b ≤ sb := by omega
  refine lv_aload_n hx hb dL_law_351 rfl (lv_at hl 2 rfl) ?_
  refine lv_aload_n hx hb dL_law_352 rfl (lv_at hl 3 rfl) ?_
  refine lv_iload_n hx hb dL_law_353 rfl (lv_at hl 0 rfl) ?_
  refine lv_iconst (v := 1) hx hb dL_law_354 (by decide) ?_
  refine lv_iadd hx hb dL_law_355 ?_
  refine m_vi (y := 1) (by decide) ?_
  refine va_sld hx hb hX hbl hbA hM.2 (m_in (by decide)) dL_law_356 ?_
  refine m_vi (y := xs 1) rfl ?_
  refine lv_aload_n hx hb dL_law_357 rfl (lv_at hl 3 rfl) ?_
  refine lv_iload_n hx hb dL_law_358 rfl (lv_at hl 0 rfl) ?_
  refine lv_iconst (v := 2) hx hb dL_law_359 (by decide) ?_
  refine lv_iadd hx hb dL_law_360 ?_
  refine m_vi (y := 2) (by decide) ?_
  refine va_sld hx hb hX hbl hbA hM.2 (m_in (by decide)) dL_law_361 ?_
  refine m_vi (y := xs 2) rfl ?_
  refine lv_if_eq (tgt := 369) hx hb dL_law_362 (by decide) (fun c1 => ?_) (fun c1 => ?_)
  · refine lv_iconst (v := 0) hx hb dL_law_369 (by decide) ?_
    refine m_goi (m_runV calV_X11_answer wd_868 (k_x_answer l D kc b f (xs 1) 0 h0 h10) C hM (by decide) h0 rfl hl.1 rfl rfl (Nat.le_of_ble_eq_true rfl) dL_law_370 ⟨Nat.le_of_ble_eq_true rfl, Nat.le_of_ble_eq_true rfl⟩ ⟨Nat.le_of_ble_eq_true rfl, Nat.le_of_ble_eq_true rfl⟩) hM (fun r2 n3 f1 H locs hp hM => ?_)
    obtain ⟨er2, rfl, fr1⟩ : r2 = (-2) ∧ n3 = 220 ∧ ∀ j, 192 ≤ j → f1 j = f j := hp
    refine lv_aload_n hx hb dL_law_373 rfl (lv_at hl 1 rfl) ?_
    refine lv_aload_n hx hb dL_law_374 rfl (lv_at hl 3 rfl) ?_
    refine lv_iload_n hx hb dL_law_375 rfl (lv_at hl 0 rfl) ?_
    refine lv_iconst (v := 1) hx hb dL_law_376 (by decide) ?_
    refine lv_iadd hx hb dL_law_377 ?_
    refine m_vi (y := 1) (by decide) ?_
    refine va_sld hx hb hX hbl hbA hM.2 (m_in (by decide)) dL_law_378 ?_
    refine m_vi (y := xs 1) rfl ?_
    refine lv_aload_n hx hb dL_law_379 rfl (lv_at hl 3 rfl) ?_
    refine lv_iload_n hx hb dL_law_380 rfl (lv_at hl 0 rfl) ?_
    refine lv_iconst (v := 2) hx hb dL_law_381 (by decide) ?_
    refine lv_iadd hx hb dL_law_382 ?_
    refine m_vi (y := 2) (by decide) ?_
    refine va_sld hx hb hX hbl hbA hM.2 (m_in (by decide)) dL_law_383 ?_
    refine m_vi (y := xs 2) rfl ?_
    refine lv_if_eq (tgt := 391) hx hb dL_law_384 (by decide) (fun c4 => ?_) (fun c4 => ?_)
    · refine lv_iconst (v := 0) hx hb dL_law_391 (by decide) ?_
      have h192_1 : f1 192 = .inr (13, [.ref (b + 193), .ref (b + 194), .ref (b + 195), .int 0, .int 0, .int 0, .ref (b + 196), .ref (b + 197), .int 0, .int 0, .int 0, .int 0, .int 0, .int 0, .int 0, .int (-1), .ref (b + 198), .ref (b + 199), .ref (b + 200), .ref (b + 201), .ref (b + 202), .ref (b + 203), .ref (b + 204), .ref (b + 205), .ref (b + 206), .ref (b + 207), .ref (b + 208), .int 0, .ref (b + 209), .ref (b + 210), .ref (b + 211), .ref (b + 212), .ref (b + 213), .ref (b + 214), .ref (b + 215), .int 0, .int 0, .int 0, .int 0, .ref (b + 216), .ref (b + 217), .ref (b + 218), .ref (b + 219)]) := (fr1 192 (by decide)).trans h192
      refine m_goi (m_runV calV_X13_answer wd_1360 (k_m_answer l D kc b f1 (xs 1) 0 h192_1) C hM (by decide) h192_1 rfl hl.1 rfl rfl (Nat.le_of_ble_eq_true rfl) dL_law_392 ⟨Nat.le_of_ble_eq_true rfl, Nat.le_of_ble_eq_true rfl⟩ ⟨Nat.le_of_ble_eq_true rfl, Nat.le_of_ble_eq_true rfl⟩) hM (fun r5 n6 f2 H locs hp hM => ?_)
      have er5 : r5 = (-2) := hp
      refine lv_icmp_eq (tgt := 775) hx hb dL_law_395 (by decide) (fun _ => ?_) (fun h => absurd (er2.trans er5.symm) h)
      exact law_tail C hX hbl hsz hr hlk hM hl
    · refine lv_iconst (v := 1) hx hb dL_law_387 (by decide) ?_
      refine lv_goto (tgt := 392) hx hb dL_law_388 (by decide) ?_
      have h192_1 : f1 192 = .inr (13, [.ref (b + 193), .ref (b + 194), .ref (b + 195), .int 0, .int 0, .int 0, .ref (b + 196), .ref (b + 197), .int 0, .int 0, .int 0, .int 0, .int 0, .int 0, .int 0, .int (-1), .ref (b + 198), .ref (b + 199), .ref (b + 200), .ref (b + 201), .ref (b + 202), .ref (b + 203), .ref (b + 204), .ref (b + 205), .ref (b + 206), .ref (b + 207), .ref (b + 208), .int 0, .ref (b + 209), .ref (b + 210), .ref (b + 211), .ref (b + 212), .ref (b + 213), .ref (b + 214), .ref (b + 215), .int 0, .int 0, .int 0, .int 0, .ref (b + 216), .ref (b + 217), .ref (b + 218), .ref (b + 219)]) := (fr1 192 (by decide)).trans h192
      refine m_goi (m_runV calV_X13_answer wd_1360 (k_m_answer l D kc b f1 (xs 1) 1 h192_1) C hM (by decide) h192_1 rfl hl.1 rfl rfl (Nat.le_of_ble_eq_true rfl) dL_law_392 ⟨Nat.le_of_ble_eq_true rfl, Nat.le_of_ble_eq_true rfl⟩ ⟨Nat.le_of_ble_eq_true rfl, Nat.le_of_ble_eq_true rfl⟩) hM (fun r7 n8 f2 H locs hp hM => ?_)
      have er7 : r7 = (-2) := hp
      refine lv_icmp_eq (tgt := 775) hx hb dL_law_395 (by decide) (fun _ => ?_) (fun h => absurd (er2.trans er7.symm) h)
      exact law_tail C hX hbl hsz hr hlk hM hl
  · refine lv_iconst (v := 1) hx hb dL_law_365 (by decide) ?_
    refine lv_goto (tgt := 370) hx hb dL_law_366 (by decide) ?_
    refine m_goi (m_runV calV_X11_answer wd_868 (k_x_answer l D kc b f (xs 1) 1 h0 h10) C hM (by decide) h0 rfl hl.1 rfl rfl (Nat.le_of_ble_eq_true rfl) dL_law_370 ⟨Nat.le_of_ble_eq_true rfl, Nat.le_of_ble_eq_true rfl⟩ ⟨Nat.le_of_ble_eq_true rfl, Nat.le_of_ble_eq_true rfl⟩) hM (fun r9 n10 f1 H locs hp hM => ?_)
    obtain ⟨er9, rfl, fr1⟩ : r9 = (-2) ∧ n10 = 220 ∧ ∀ j, 192 ≤ j → f1 j = f j := hp
    refine lv_aload_n hx hb dL_law_373 rfl (lv_at hl 1 rfl) ?_
    refine lv_aload_n hx hb dL_law_374 rfl (lv_at hl 3 rfl) ?_
    refine lv_iload_n hx hb dL_law_375 rfl (lv_at hl 0 rfl) ?_
    refine lv_iconst (v := 1) hx hb dL_law_376 (by decide) ?_
    refine lv_iadd hx hb dL_law_377 ?_
    refine m_vi (y := 1) (by decide) ?_
    refine va_sld hx hb hX hbl hbA hM.2 (m_in (by decide)) dL_law_378 ?_
    refine m_vi (y := xs 1) rfl ?_
    refine lv_aload_n hx hb dL_law_379 rfl (lv_at hl 3 rfl) ?_
    refine lv_iload_n hx hb dL_law_380 rfl (lv_at hl 0 rfl) ?_
    refine lv_iconst (v := 2) hx hb dL_law_381 (by decide) ?_
    refine lv_iadd hx hb dL_law_382 ?_
    refine m_vi (y := 2) (by decide) ?_
    refine va_sld hx hb hX hbl hbA hM.2 (m_in (by decide)) dL_law_383 ?_
    refine m_vi (y := xs 2) rfl ?_
    refine lv_if_eq (tgt := 391) hx hb dL_law_384 (by decide) (fun c11 => ?_) (fun c11 => ?_)
    · refine lv_iconst (v := 0) hx hb dL_law_391 (by decide) ?_
      have h192_1 : f1 192 = .inr (13, [.ref (b + 193), .ref (b + 194), .ref (b + 195), .int 0, .int 0, .int 0, .ref (b + 196), .ref (b + 197), .int 0, .int 0, .int 0, .int 0, .int 0, .int 0, .int 0, .int (-1), .ref (b + 198), .ref (b + 199), .ref (b + 200), .ref (b + 201), .ref (b + 202), .ref (b + 203), .ref (b + 204), .ref (b + 205), .ref (b + 206), .ref (b + 207), .ref (b + 208), .int 0, .ref (b + 209), .ref (b + 210), .ref (b + 211), .ref (b + 212), .ref (b + 213), .ref (b + 214), .ref (b + 215), .int 0, .int 0, .int 0, .int 0, .ref (b + 216), .ref (b + 217), .ref (b + 218), .ref (b + 219)]) := (fr1 192 (by decide)).trans h192
      refine m_goi (m_runV calV_X13_answer wd_1360 (k_m_answer l D kc b f1 (xs 1) 0 h192_1) C hM (by decide) h192_1 rfl hl.1 rfl rfl (Nat.le_of_ble_eq_true rfl) dL_law_392 ⟨Nat.le_of_ble_eq_true rfl, Nat.le_of_ble_eq_true rfl⟩ ⟨Nat.le_of_ble_eq_true rfl, Nat.le_of_ble_eq_true rfl⟩) hM (fun r12 n13 f2 H locs hp hM => ?_)
      have er12 : r12 = (-2) := hp
      refine lv_icmp_eq (tgt := 775) hx hb dL_law_395 (by decide) (fun _ => ?_) (fun h => absurd (er9.trans er12.symm) h)
      exact law_tail C hX hbl hsz hr hlk hM hl
    · refine lv_iconst (v := 1) hx hb dL_law_387 (by decide) ?_
      refine lv_goto (tgt := 392) hx hb dL_law_388 (by decide) ?_
      have h192_1 : f1 192 = .inr (13, [.ref (b + 193), .ref (b + 194), .ref (b + 195), .int 0, .int 0, .int 0, .ref (b + 196), .ref (b + 197), .int 0, .int 0, .int 0, .int 0, .int 0, .int 0, .int 0, .int (-1), .ref (b + 198), .ref (b + 199), .ref (b + 200), .ref (b + 201), .ref (b + 202), .ref (b + 203), .ref (b + 204), .ref (b + 205), .ref (b + 206), .ref (b + 207), .ref (b + 208), .int 0, .ref (b + 209), .ref (b + 210), .ref (b + 211), .ref (b + 212), .ref (b + 213), .ref (b + 214), .ref (b + 215), .int 0, .int 0, .int 0, .int 0, .ref (b + 216), .ref (b + 217), .ref (b + 218), .ref (b + 219)]) := (fr1 192 (by decide)).trans h192
      refine m_goi (m_runV calV_X13_answer wd_1360 (k_m_answer l D kc b f1 (xs 1) 1 h192_1) C hM (by decide) h192_1 rfl hl.1 rfl rfl (Nat.le_of_ble_eq_true rfl) dL_law_392 ⟨Nat.le_of_ble_eq_true rfl, Nat.le_of_ble_eq_true rfl⟩ ⟨Nat.le_of_ble_eq_true rfl, Nat.le_of_ble_eq_true rfl⟩) hM (fun r14 n15 f2 H locs hp hM => ?_)
      have er14 : r14 = (-2) := hp
      refine lv_icmp_eq (tgt := 775) hx hb dL_law_395 (by decide) (fun _ => ?_) (fun h => absurd (er9.trans er14.symm) h)
      exact law_tail C hX hbl hsz hr hlk hM hl
set_option maxHeartbeats 4000000 in
set_option maxRecDepth 100000 in
theorem law_case9 {p : Program} {l : Launch} {e : Env} {s : State} {m : MethodId} {below : List Frame} {meth : Method} {c : Code} {D : va_G} {kc : Nat → ClassId} {sb : Nat} {xs : Nat → Int32} {H : Heap} {locs : List Loc} {ls : Array Slot} {b : Nat} {f : Nat → va_E} (C : mC p s m #[Value.ref sb] c code 4 RL D kc b) (hX : va_X sb 6 xs s s.heap) (hbl : sb < s.heap.size) (hsz : s.heap.size = b) (hr : meth.sig.returnType = ret) (hlk : meth.locks = false) (hM : mS D b s 220 f H locs) (hl : lv_has ls 4 [(3, .int 0), (2, .ref (b + 192)), (1, .ref (b + 0)), (0, .ref sb)]) (h0 : f 0 = .inr (11, [.ref (b + 1), .ref (b + 3), .ref (b + 4), .ref (b + 6), .ref (b + 8), .ref (b + 10), .ref (b + 174), .ref (b + 177), .ref (b + 178), .ref (b + 181), .ref (b + 183), .ref (b + 190)])) (h4 : f 4 = .inr (8, [.ref (b + 5), .int 0])) (h8 : f 8 = .inr (8, [.ref (b + 9), .int 0])) (h10 : f 10 = .inr (5, [.ref (b + 11), .ref (b + 12), .ref (b + 13), .int 0, .int 0, .int 0])) (h12 : f 12 = .inl (kc 1, 3, .inl (mRk))) (h178 : f 178 = .inr (7, [.ref (b + 179), .ref (b + 180), .int 0, .null, .null])) (h192 : f 192 = .inr (13, [.ref (b + 193), .ref (b + 194), .ref (b + 195), .int 0, .int 0, .int 0, .ref (b + 196), .ref (b + 197), .int 0, .int 0, .int 0, .int 0, .int 0, .int 0, .int 0, .int (-1), .ref (b + 198), .ref (b + 199), .ref (b + 200), .ref (b + 201), .ref (b + 202), .ref (b + 203), .ref (b + 204), .ref (b + 205), .ref (b + 206), .ref (b + 207), .ref (b + 208), .int 0, .ref (b + 209), .ref (b + 210), .ref (b + 211), .ref (b + 212), .ref (b + 213), .ref (b + 214), .ref (b + 215), .int 0, .int 0, .int 0, .int 0, .ref (b + 216), .ref (b + 217), .ref (b + 218), .ref (b + 219)])) (h209 : f 209 = .inl (kc 1, 3, .inl (mRk))) : W p l e room_1 s m #[Value.ref sb] below meth c H locs 220 112647 (lw_Z below #[Value.ref sb] s) (F0 m 400 ls []) := by
  obtain ⟨hx, hb, hml, hown, hts, hE, hbs⟩ := id C
  have hbA : ¬ b ≤ sb := by omega
  refine lv_aload_n hx hb dL_law_400 rfl (lv_at hl 2 rfl) ?_
  refine lv_aload_n hx hb dL_law_401 rfl (lv_at hl 3 rfl) ?_
  refine lv_iload_n hx hb dL_law_402 rfl (lv_at hl 0 rfl) ?_
  refine lv_iconst (v := 1) hx hb dL_law_403 (by decide) ?_
  refine lv_iadd hx hb dL_law_404 ?_
  refine m_vi (y := 1) (by decide) ?_
  refine va_sld hx hb hX hbl hbA hM.2 (m_in (by decide)) dL_law_405 ?_
  refine m_vi (y := xs 1) rfl ?_
  refine lv_aload_n hx hb dL_law_406 rfl (lv_at hl 3 rfl) ?_
  refine lv_iload_n hx hb dL_law_407 rfl (lv_at hl 0 rfl) ?_
  refine lv_iconst (v := 2) hx hb dL_law_408 (by decide) ?_
  refine lv_iadd hx hb dL_law_409 ?_
  refine m_vi (y := 2) (by decide) ?_
  refine va_sld hx hb hX hbl hbA hM.2 (m_in (by decide)) dL_law_410 ?_
  refine m_vi (y := xs 2) rfl ?_
  refine m_goi (m_runV calV_X11_rank wd_872 (k_x_rank l D kc b f (xs 1) (xs 2) h0 h10 h12 h178 h8 h4) C hM (by decide) h0 rfl hl.1 rfl rfl (Nat.le_of_ble_eq_true rfl) dL_law_411 ⟨Nat.le_of_ble_eq_true rfl, Nat.le_of_ble_eq_true rfl⟩ ⟨Nat.le_of_ble_eq_true rfl, Nat.le_of_ble_eq_true rfl⟩) hM (fun r1 n2 f1 H locs hp hM => ?_)
  obtain ⟨er1, rfl, fr1⟩ : r1 = p_rank (xs 1) (xs 2) ∧ n2 = 220 ∧ ∀ j, 192 ≤ j → f1 j = f j := hp
  refine lv_aload_n hx hb dL_law_414 rfl (lv_at hl 1 rfl) ?_
  refine lv_aload_n hx hb dL_law_415 rfl (lv_at hl 3 rfl) ?_
  refine lv_iload_n hx hb dL_law_416 rfl (lv_at hl 0 rfl) ?_
  refine lv_iconst (v := 1) hx hb dL_law_417 (by decide) ?_
  refine lv_iadd hx hb dL_law_418 ?_
  refine m_vi (y := 1) (by decide) ?_
  refine va_sld hx hb hX hbl hbA hM.2 (m_in (by decide)) dL_law_419 ?_
  refine m_vi (y := xs 1) rfl ?_
  refine lv_aload_n hx hb dL_law_420 rfl (lv_at hl 3 rfl) ?_
  refine lv_iload_n hx hb dL_law_421 rfl (lv_at hl 0 rfl) ?_
  refine lv_iconst (v := 2) hx hb dL_law_422 (by decide) ?_
  refine lv_iadd hx hb dL_law_423 ?_
  refine m_vi (y := 2) (by decide) ?_
  refine va_sld hx hb hX hbl hbA hM.2 (m_in (by decide)) dL_law_424 ?_
  refine m_vi (y := xs 2) rfl ?_
  have h192_1 : f1 192 = .inr (13, [.ref (b + 193), .ref (b + 194), .ref (b + 195), .int 0, .int 0, .int 0, .ref (b + 196), .ref (b + 197), .int 0, .int 0, .int 0, .int 0, .int 0, .int 0, .int 0, .int (-1), .ref (b + 198), .ref (b + 199), .ref (b + 200), .ref (b + 201), .ref (b + 202), .ref (b + 203), .ref (b + 204), .ref (b + 205), .ref (b + 206), .ref (b + 207), .ref (b + 208), .int 0, .ref (b + 209), .ref (b + 210), .ref (b + 211), .ref (b + 212), .ref (b + 213), .ref (b + 214), .ref (b + 215), .int 0, .int 0, .int 0, .int 0, .ref (b + 216), .ref (b + 217), .ref (b + 218), .ref (b + 219)]) := (fr1 192 (by decide)).trans h192
  have h209_1 : f1 209 = .inl (kc 1, 3, .inl (mRk)) := (fr1 209 (by decide)).trans h209
  refine m_goi (m_runV calV_X13_rank wd_1364 (k_m_rank l D kc b f1 (xs 1) (xs 2) h192_1 h209_1) C hM (by decide) h192_1 rfl hl.1 rfl rfl (Nat.le_of_ble_eq_true rfl) dL_law_425 ⟨Nat.le_of_ble_eq_true rfl, Nat.le_of_ble_eq_true rfl⟩ ⟨Nat.le_of_ble_eq_true rfl, Nat.le_of_ble_eq_true rfl⟩) hM (fun r3 n4 f2 H locs hp hM => ?_)
  have er3 : r3 = p_rank (xs 1) (xs 2) := hp
  refine lv_icmp_eq (tgt := 775) hx hb dL_law_428 (by decide) (fun _ => ?_) (fun h => absurd (er1.trans er3.symm) h)
  exact law_tail C hX hbl hsz hr hlk hM hl
set_option maxHeartbeats 4000000 in
set_option maxRecDepth 100000 in
theorem law_case10 {p : Program} {l : Launch} {e : Env} {s : State} {m : MethodId} {below : List Frame} {meth : Method} {c : Code} {D : va_G} {kc : Nat → ClassId} {sb : Nat} {xs : Nat → Int32} {H : Heap} {locs : List Loc} {ls : Array Slot} {b : Nat} {f : Nat → va_E} (C : mC p s m #[Value.ref sb] c code 4 RL D kc b) (hX : va_X sb 6 xs s s.heap) (hbl : sb < s.heap.size) (hsz : s.heap.size = b) (hr : meth.sig.returnType = ret) (hlk : meth.locks = false) (hM : mS D b s 220 f H locs) (hl : lv_has ls 4 [(3, .int 0), (2, .ref (b + 192)), (1, .ref (b + 0)), (0, .ref sb)]) (h0 : f 0 = .inr (11, [.ref (b + 1), .ref (b + 3), .ref (b + 4), .ref (b + 6), .ref (b + 8), .ref (b + 10), .ref (b + 174), .ref (b + 177), .ref (b + 178), .ref (b + 181), .ref (b + 183), .ref (b + 190)])) (h10 : f 10 = .inr (5, [.ref (b + 11), .ref (b + 12), .ref (b + 13), .int 0, .int 0, .int 0])) (h192 : f 192 = .inr (13, [.ref (b + 193), .ref (b + 194), .ref (b + 195), .int 0, .int 0, .int 0, .ref (b + 196), .ref (b + 197), .int 0, .int 0, .int 0, .int 0, .int 0, .int 0, .int 0, .int (-1), .ref (b + 198), .ref (b + 199), .ref (b + 200), .ref (b + 201), .ref (b + 202), .ref (b + 203), .ref (b + 204), .ref (b + 205), .ref (b + 206), .ref (b + 207), .ref (b + 208), .int 0, .ref (b + 209), .ref (b + 210), .ref (b + 211), .ref (b + 212), .ref (b + 213), .ref (b + 214), .ref (b + 215), .int 0, .int 0, .int 0, .int 0, .ref (b + 216), .ref (b + 217), .ref (b + 218), .ref (b + 219)])) : W p l e room_1 s m #[Value.ref sb] below meth c H locs 220 112647 (lw_Z below #[Value.ref sb] s) (F0 m 433 ls []) := by
  obtain ⟨hx, hb, hml, hown, hts, hE, hbs⟩ := id C
  have hbA : ¬ b ≤ sb := by omega
  refine lv_aload_n hx hb dL_law_433 rfl (lv_at hl 2 rfl) ?_
  refine lv_aload_n hx hb dL_law_434 rfl (lv_at hl 3 rfl) ?_
  refine lv_iload_n hx hb dL_law_435 rfl (lv_at hl 0 rfl) ?_
  refine lv_iconst (v := 1) hx hb dL_law_436 (by decide) ?_
  refine lv_iadd hx hb dL_law_437 ?_
  refine m_vi (y := 1) (by decide) ?_
  refine va_sld hx hb hX hbl hbA hM.2 (m_in (by decide)) dL_law_438 ?_
  refine m_vi (y := xs 1) rfl ?_
  refine lv_aload_n hx hb dL_law_439 rfl (lv_at hl 3 rfl) ?_
  refine lv_iload_n hx hb dL_law_440 rfl (lv_at hl 0 rfl) ?_
  refine lv_iconst (v := 2) hx hb dL_law_441 (by decide) ?_
  refine lv_iadd hx hb dL_law_442 ?_
  refine m_vi (y := 2) (by decide) ?_
  refine va_sld hx hb hX hbl hbA hM.2 (m_in (by decide)) dL_law_443 ?_
  refine m_vi (y := xs 2) rfl ?_
  refine m_goi (m_runV calV_X11_meet wd_877 (k_x_meet l D kc b f (xs 1) (xs 2) h0 h10) C hM (by decide) h0 rfl hl.1 rfl rfl (Nat.le_of_ble_eq_true rfl) dL_law_444 ⟨Nat.le_of_ble_eq_true rfl, Nat.le_of_ble_eq_true rfl⟩ ⟨Nat.le_of_ble_eq_true rfl, Nat.le_of_ble_eq_true rfl⟩) hM (fun r1 n2 f1 H locs hp hM => ?_)
  obtain ⟨er1, rfl, fr1⟩ : r1 = (-2) ∧ n2 = 220 ∧ ∀ j, 192 ≤ j → f1 j = f j := hp
  refine lv_aload_n hx hb dL_law_447 rfl (lv_at hl 1 rfl) ?_
  refine lv_aload_n hx hb dL_law_448 rfl (lv_at hl 3 rfl) ?_
  refine lv_iload_n hx hb dL_law_449 rfl (lv_at hl 0 rfl) ?_
  refine lv_iconst (v := 1) hx hb dL_law_450 (by decide) ?_
  refine lv_iadd hx hb dL_law_451 ?_
  refine m_vi (y := 1) (by decide) ?_
  refine va_sld hx hb hX hbl hbA hM.2 (m_in (by decide)) dL_law_452 ?_
  refine m_vi (y := xs 1) rfl ?_
  refine lv_aload_n hx hb dL_law_453 rfl (lv_at hl 3 rfl) ?_
  refine lv_iload_n hx hb dL_law_454 rfl (lv_at hl 0 rfl) ?_
  refine lv_iconst (v := 2) hx hb dL_law_455 (by decide) ?_
  refine lv_iadd hx hb dL_law_456 ?_
  refine m_vi (y := 2) (by decide) ?_
  refine va_sld hx hb hX hbl hbA hM.2 (m_in (by decide)) dL_law_457 ?_
  refine m_vi (y := xs 2) rfl ?_
  have h192_1 : f1 192 = .inr (13, [.ref (b + 193), .ref (b + 194), .ref (b + 195), .int 0, .int 0, .int 0, .ref (b + 196), .ref (b + 197), .int 0, .int 0, .int 0, .int 0, .int 0, .int 0, .int 0, .int (-1), .ref (b + 198), .ref (b + 199), .ref (b + 200), .ref (b + 201), .ref (b + 202), .ref (b + 203), .ref (b + 204), .ref (b + 205), .ref (b + 206), .ref (b + 207), .ref (b + 208), .int 0, .ref (b + 209), .ref (b + 210), .ref (b + 211), .ref (b + 212), .ref (b + 213), .ref (b + 214), .ref (b + 215), .int 0, .int 0, .int 0, .int 0, .ref (b + 216), .ref (b + 217), .ref (b + 218), .ref (b + 219)]) := (fr1 192 (by decide)).trans h192
  refine m_goi (m_runV calV_X13_meet wd_1306 (k_m_meet l D kc b f1 (xs 1) (xs 2) h192_1) C hM (by decide) h192_1 rfl hl.1 rfl rfl (Nat.le_of_ble_eq_true rfl) dL_law_458 ⟨Nat.le_of_ble_eq_true rfl, Nat.le_of_ble_eq_true rfl⟩ ⟨Nat.le_of_ble_eq_true rfl, Nat.le_of_ble_eq_true rfl⟩) hM (fun r3 n4 f2 H locs hp hM => ?_)
  have er3 : r3 = (-2) := hp
  refine lv_icmp_eq (tgt := 775) hx hb dL_law_461 (by decide) (fun _ => ?_) (fun h => absurd (er1.trans er3.symm) h)
  exact law_tail C hX hbl hsz hr hlk hM hl
set_option maxHeartbeats 4000000 in
set_option maxRecDepth 100000 in
theorem law_case11 {p : Program} {l : Launch} {e : Env} {s : State} {m : MethodId} {below : List Frame} {meth : Method} {c : Code} {D : va_G} {kc : Nat → ClassId} {sb : Nat} {xs : Nat → Int32} {H : Heap} {locs : List Loc} {ls : Array Slot} {b : Nat} {f : Nat → va_E} (C : mC p s m #[Value.ref sb] c code 4 RL D kc b) (hX : va_X sb 6 xs s s.heap) (hbl : sb < s.heap.size) (hsz : s.heap.size = b) (hr : meth.sig.returnType = ret) (hlk : meth.locks = false) (hM : mS D b s 220 f H locs) (hl : lv_has ls 4 [(3, .int 0), (2, .ref (b + 192)), (1, .ref (b + 0)), (0, .ref sb)]) (h0 : f 0 = .inr (11, [.ref (b + 1), .ref (b + 3), .ref (b + 4), .ref (b + 6), .ref (b + 8), .ref (b + 10), .ref (b + 174), .ref (b + 177), .ref (b + 178), .ref (b + 181), .ref (b + 183), .ref (b + 190)])) (h10 : f 10 = .inr (5, [.ref (b + 11), .ref (b + 12), .ref (b + 13), .int 0, .int 0, .int 0])) (h192 : f 192 = .inr (13, [.ref (b + 193), .ref (b + 194), .ref (b + 195), .int 0, .int 0, .int 0, .ref (b + 196), .ref (b + 197), .int 0, .int 0, .int 0, .int 0, .int 0, .int 0, .int 0, .int (-1), .ref (b + 198), .ref (b + 199), .ref (b + 200), .ref (b + 201), .ref (b + 202), .ref (b + 203), .ref (b + 204), .ref (b + 205), .ref (b + 206), .ref (b + 207), .ref (b + 208), .int 0, .ref (b + 209), .ref (b + 210), .ref (b + 211), .ref (b + 212), .ref (b + 213), .ref (b + 214), .ref (b + 215), .int 0, .int 0, .int 0, .int 0, .ref (b + 216), .ref (b + 217), .ref (b + 218), .ref (b + 219)])) : W p l e room_1 s m #[Value.ref sb] below meth c H locs 220 112647 (lw_Z below #[Value.ref sb] s) (F0 m 466 ls []) := by
  obtain ⟨hx, hb, hml, hown, hts, hE, hbs⟩ := id C
  have hbA : ¬ b ≤ sb := by omega
  refine lv_aload_n hx hb dL_law_466 rfl (lv_at hl 2 rfl) ?_
  refine lv_aload_n hx hb dL_law_467 rfl (lv_at hl 3 rfl) ?_
  refine lv_iload_n hx hb dL_law_468 rfl (lv_at hl 0 rfl) ?_
  refine lv_iconst (v := 1) hx hb dL_law_469 (by decide) ?_
  refine lv_iadd hx hb dL_law_470 ?_
  refine m_vi (y := 1) (by decide) ?_
  refine va_sld hx hb hX hbl hbA hM.2 (m_in (by decide)) dL_law_471 ?_
  refine m_vi (y := xs 1) rfl ?_
  refine lv_aload_n hx hb dL_law_472 rfl (lv_at hl 3 rfl) ?_
  refine lv_iload_n hx hb dL_law_473 rfl (lv_at hl 0 rfl) ?_
  refine lv_iconst (v := 2) hx hb dL_law_474 (by decide) ?_
  refine lv_iadd hx hb dL_law_475 ?_
  refine m_vi (y := 2) (by decide) ?_
  refine va_sld hx hb hX hbl hbA hM.2 (m_in (by decide)) dL_law_476 ?_
  refine m_vi (y := xs 2) rfl ?_
  refine m_goi (m_runV calV_X11_within wd_886 (k_x_within l D kc b f (xs 1) (xs 2) h0 h10) C hM (by decide) h0 rfl hl.1 rfl rfl (Nat.le_of_ble_eq_true rfl) dL_law_477 ⟨Nat.le_of_ble_eq_true rfl, Nat.le_of_ble_eq_true rfl⟩ ⟨Nat.le_of_ble_eq_true rfl, Nat.le_of_ble_eq_true rfl⟩) hM (fun r1 n2 f1 H locs hp hM => ?_)
  obtain ⟨er1, rfl, fr1⟩ : r1 = (-2) ∧ n2 = 220 ∧ ∀ j, 192 ≤ j → f1 j = f j := hp
  refine lv_aload_n hx hb dL_law_480 rfl (lv_at hl 1 rfl) ?_
  refine lv_aload_n hx hb dL_law_481 rfl (lv_at hl 3 rfl) ?_
  refine lv_iload_n hx hb dL_law_482 rfl (lv_at hl 0 rfl) ?_
  refine lv_iconst (v := 1) hx hb dL_law_483 (by decide) ?_
  refine lv_iadd hx hb dL_law_484 ?_
  refine m_vi (y := 1) (by decide) ?_
  refine va_sld hx hb hX hbl hbA hM.2 (m_in (by decide)) dL_law_485 ?_
  refine m_vi (y := xs 1) rfl ?_
  refine lv_aload_n hx hb dL_law_486 rfl (lv_at hl 3 rfl) ?_
  refine lv_iload_n hx hb dL_law_487 rfl (lv_at hl 0 rfl) ?_
  refine lv_iconst (v := 2) hx hb dL_law_488 (by decide) ?_
  refine lv_iadd hx hb dL_law_489 ?_
  refine m_vi (y := 2) (by decide) ?_
  refine va_sld hx hb hX hbl hbA hM.2 (m_in (by decide)) dL_law_490 ?_
  refine m_vi (y := xs 2) rfl ?_
  have h192_1 : f1 192 = .inr (13, [.ref (b + 193), .ref (b + 194), .ref (b + 195), .int 0, .int 0, .int 0, .ref (b + 196), .ref (b + 197), .int 0, .int 0, .int 0, .int 0, .int 0, .int 0, .int 0, .int (-1), .ref (b + 198), .ref (b + 199), .ref (b + 200), .ref (b + 201), .ref (b + 202), .ref (b + 203), .ref (b + 204), .ref (b + 205), .ref (b + 206), .ref (b + 207), .ref (b + 208), .int 0, .ref (b + 209), .ref (b + 210), .ref (b + 211), .ref (b + 212), .ref (b + 213), .ref (b + 214), .ref (b + 215), .int 0, .int 0, .int 0, .int 0, .ref (b + 216), .ref (b + 217), .ref (b + 218), .ref (b + 219)]) := (fr1 192 (by decide)).trans h192
  refine m_goi (m_runV calV_X13_within wd_1342 (k_m_within l D kc b f1 (xs 1) (xs 2) h192_1) C hM (by decide) h192_1 rfl hl.1 rfl rfl (Nat.le_of_ble_eq_true rfl) dL_law_491 ⟨Nat.le_of_ble_eq_true rfl, Nat.le_of_ble_eq_true rfl⟩ ⟨Nat.le_of_ble_eq_true rfl, Nat.le_of_ble_eq_true rfl⟩) hM (fun r3 n4 f2 H locs hp hM => ?_)
  have er3 : r3 = (-2) := hp
  refine lv_icmp_eq (tgt := 775) hx hb dL_law_494 (by decide) (fun _ => ?_) (fun h => absurd (er1.trans er3.symm) h)
  exact law_tail C hX hbl hsz hr hlk hM hl
set_option maxHeartbeats 4000000 in
set_option maxRecDepth 100000 in
theorem law_case12 {p : Program} {l : Launch} {e : Env} {s : State} {m : MethodId} {below : List Frame} {meth : Method} {c : Code} {D : va_G} {kc : Nat → ClassId} {sb : Nat} {xs : Nat → Int32} {H : Heap} {locs : List Loc} {ls : Array Slot} {b : Nat} {f : Nat → va_E} (C : mC p s m #[Value.ref sb] c code 4 RL D kc b) (hX : va_X sb 6 xs s s.heap) (hbl : sb < s.heap.size) (hsz : s.heap.size = b) (hr : meth.sig.returnType = ret) (hlk : meth.locks = false) (hM : mS D b s 220 f H locs) (hl : lv_has ls 4 [(3, .int 0), (2, .ref (b + 192)), (1, .ref (b + 0)), (0, .ref sb)]) (h0 : f 0 = .inr (11, [.ref (b + 1), .ref (b + 3), .ref (b + 4), .ref (b + 6), .ref (b + 8), .ref (b + 10), .ref (b + 174), .ref (b + 177), .ref (b + 178), .ref (b + 181), .ref (b + 183), .ref (b + 190)])) (h183 : f 183 = .inr (2, [.ref (b + 184), .ref (b + 186), .ref (b + 187), .ref (b + 188), .ref (b + 189), .int 2, .int 3, .int 0, .int 0, .int 0, .int 0, .int 0])) (h192 : f 192 = .inr (13, [.ref (b + 193), .ref (b + 194), .ref (b + 195), .int 0, .int 0, .int 0, .ref (b + 196), .ref (b + 197), .int 0, .int 0, .int 0, .int 0, .int 0, .int 0, .int 0, .int (-1), .ref (b + 198), .ref (b + 199), .ref (b + 200), .ref (b + 201), .ref (b + 202), .ref (b + 203), .ref (b + 204), .ref (b + 205), .ref (b + 206), .ref (b + 207), .ref (b + 208), .int 0, .ref (b + 209), .ref (b + 210), .ref (b + 211), .ref (b + 212), .ref (b + 213), .ref (b + 214), .ref (b + 215), .int 0, .int 0, .int 0, .int 0, .ref (b + 216), .ref (b + 217), .ref (b + 218), .ref (b + 219)])) (h211 : f 211 = .inl (kc 1, 2, .inl (upd (upd (fun _ => 0) 0 2) 1 3))) : W p l e room_1 s m #[Value.ref sb] below meth c H locs 220 112647 (lw_Z below #[Value.ref sb] s) (F0 m 499 ls []) := by
  obtain ⟨hx, hb, hml, hown, hts, hE, hbs⟩ := id C
  have hbA : ¬ b ≤ sb := by omega
  refine lv_aload_n hx hb dL_law_499 rfl (lv_at hl 2 rfl) ?_
  refine lv_aload_n hx hb dL_law_500 rfl (lv_at hl 3 rfl) ?_
  refine lv_iload_n hx hb dL_law_501 rfl (lv_at hl 0 rfl) ?_
  refine lv_iconst (v := 1) hx hb dL_law_502 (by decide) ?_
  refine lv_iadd hx hb dL_law_503 ?_
  refine m_vi (y := 1) (by decide) ?_
  refine va_sld hx hb hX hbl hbA hM.2 (m_in (by decide)) dL_law_504 ?_
  refine m_vi (y := xs 1) rfl ?_
  refine lv_aload_n hx hb dL_law_505 rfl (lv_at hl 3 rfl) ?_
  refine lv_iload_n hx hb dL_law_506 rfl (lv_at hl 0 rfl) ?_
  refine lv_iconst (v := 2) hx hb dL_law_507 (by decide) ?_
  refine lv_iadd hx hb dL_law_508 ?_
  refine m_vi (y := 2) (by decide) ?_
  refine va_sld hx hb hX hbl hbA hM.2 (m_in (by decide)) dL_law_509 ?_
  refine m_vi (y := xs 2) rfl ?_
  refine m_goi (m_runV calV_X11_costs wd_891 (k_x_costs l D kc b f (xs 1) (xs 2) h0 h183) C hM (by decide) h0 rfl hl.1 rfl rfl (Nat.le_of_ble_eq_true rfl) dL_law_510 ⟨Nat.le_of_ble_eq_true rfl, Nat.le_of_ble_eq_true rfl⟩ ⟨Nat.le_of_ble_eq_true rfl, Nat.le_of_ble_eq_true rfl⟩) hM (fun r1 n2 f1 H locs hp hM => ?_)
  obtain ⟨er1, rfl, fr1⟩ : r1 = p_costs (xs 1) (xs 2) ∧ n2 = 220 ∧ ∀ j, 192 ≤ j → f1 j = f j := hp
  refine lv_aload_n hx hb dL_law_513 rfl (lv_at hl 1 rfl) ?_
  refine lv_aload_n hx hb dL_law_514 rfl (lv_at hl 3 rfl) ?_
  refine lv_iload_n hx hb dL_law_515 rfl (lv_at hl 0 rfl) ?_
  refine lv_iconst (v := 1) hx hb dL_law_516 (by decide) ?_
  refine lv_iadd hx hb dL_law_517 ?_
  refine m_vi (y := 1) (by decide) ?_
  refine va_sld hx hb hX hbl hbA hM.2 (m_in (by decide)) dL_law_518 ?_
  refine m_vi (y := xs 1) rfl ?_
  refine lv_aload_n hx hb dL_law_519 rfl (lv_at hl 3 rfl) ?_
  refine lv_iload_n hx hb dL_law_520 rfl (lv_at hl 0 rfl) ?_
  refine lv_iconst (v := 2) hx hb dL_law_521 (by decide) ?_
  refine lv_iadd hx hb dL_law_522 ?_
  refine m_vi (y := 2) (by decide) ?_
  refine va_sld hx hb hX hbl hbA hM.2 (m_in (by decide)) dL_law_523 ?_
  refine m_vi (y := xs 2) rfl ?_
  have h192_1 : f1 192 = .inr (13, [.ref (b + 193), .ref (b + 194), .ref (b + 195), .int 0, .int 0, .int 0, .ref (b + 196), .ref (b + 197), .int 0, .int 0, .int 0, .int 0, .int 0, .int 0, .int 0, .int (-1), .ref (b + 198), .ref (b + 199), .ref (b + 200), .ref (b + 201), .ref (b + 202), .ref (b + 203), .ref (b + 204), .ref (b + 205), .ref (b + 206), .ref (b + 207), .ref (b + 208), .int 0, .ref (b + 209), .ref (b + 210), .ref (b + 211), .ref (b + 212), .ref (b + 213), .ref (b + 214), .ref (b + 215), .int 0, .int 0, .int 0, .int 0, .ref (b + 216), .ref (b + 217), .ref (b + 218), .ref (b + 219)]) := (fr1 192 (by decide)).trans h192
  have h211_1 : f1 211 = .inl (kc 1, 2, .inl (upd (upd (fun _ => 0) 0 2) 1 3)) := (fr1 211 (by decide)).trans h211
  refine m_goi (m_runV calV_X13_costs wd_1436 (k_m_costs l D kc b f1 (xs 1) (xs 2) h192_1 h211_1) C hM (by decide) h192_1 rfl hl.1 rfl rfl (Nat.le_of_ble_eq_true rfl) dL_law_524 ⟨Nat.le_of_ble_eq_true rfl, Nat.le_of_ble_eq_true rfl⟩ ⟨Nat.le_of_ble_eq_true rfl, Nat.le_of_ble_eq_true rfl⟩) hM (fun r3 n4 f2 H locs hp hM => ?_)
  have er3 : r3 = p_costs (xs 1) (xs 2) := hp
  refine lv_icmp_eq (tgt := 775) hx hb dL_law_527 (by decide) (fun _ => ?_) (fun h => absurd (er1.trans er3.symm) h)
  exact law_tail C hX hbl hsz hr hlk hM hl
set_option maxHeartbeats 4000000 in
set_option maxRecDepth 100000 in
theorem law_case13 {p : Program} {l : Launch} {e : Env} {s : State} {m : MethodId} {below : List Frame} {meth : Method} {c : Code} {D : va_G} {kc : Nat → ClassId} {sb : Nat} {xs : Nat → Int32} {H : Heap} {locs : List Loc} {ls : Array Slot} {b : Nat} {f : Nat → va_E} (C : mC p s m #[Value.ref sb] c code 4 RL D kc b) (hX : va_X sb 6 xs s s.heap) (hbl : sb < s.heap.size) (hsz : s.heap.size = b) (hr : meth.sig.returnType = ret) (hlk : meth.locks = false) (hM : mS D b s 220 f H locs) (hl : lv_has ls 4 [(3, .int 0), (2, .ref (b + 192)), (1, .ref (b + 0)), (0, .ref sb)]) (h0 : f 0 = .inr (11, [.ref (b + 1), .ref (b + 3), .ref (b + 4), .ref (b + 6), .ref (b + 8), .ref (b + 10), .ref (b + 174), .ref (b + 177), .ref (b + 178), .ref (b + 181), .ref (b + 183), .ref (b + 190)])) (h4 : f 4 = .inr (8, [.ref (b + 5), .int 0])) (h6 : f 6 = .inr (8, [.ref (b + 7), .int 0])) (h10 : f 10 = .inr (5, [.ref (b + 11), .ref (b + 12), .ref (b + 13), .int 0, .int 0, .int 0])) (h178 : f 178 = .inr (7, [.ref (b + 179), .ref (b + 180), .int 0, .null, .null])) (h181 : f 181 = .inr (6, [.ref (b + 182)])) (h182 : f 182 = .inl (kc 1, 301, .inl (fun _ => 0))) (h183 : f 183 = .inr (2, [.ref (b + 184), .ref (b + 186), .ref (b + 187), .ref (b + 188), .ref (b + 189), .int 2, .int 3, .int 0, .int 0, .int 0, .int 0, .int 0])) (h184 : f 184 = .inr (8, [.ref (b + 185), .int 0])) (h192 : f 192 = .inr (13, [.ref (b + 193), .ref (b + 194), .ref (b + 195), .int 0, .int 0, .int 0, .ref (b + 196), .ref (b + 197), .int 0, .int 0, .int 0, .int 0, .int 0, .int 0, .int 0, .int (-1), .ref (b + 198), .ref (b + 199), .ref (b + 200), .ref (b + 201), .ref (b + 202), .ref (b + 203), .ref (b + 204), .ref (b + 205), .ref (b + 206), .ref (b + 207), .ref (b + 208), .int 0, .ref (b + 209), .ref (b + 210), .ref (b + 211), .ref (b + 212), .ref (b + 213), .ref (b + 214), .ref (b + 215), .int 0, .int 0, .int 0, .int 0, .ref (b + 216), .ref (b + 217), .ref (b + 218), .ref (b + 219)])) (h211 : f 211 = .inl (kc 1, 2, .inl (upd (upd (fun _ => 0) 0 2) 1 3))) (h215 : f 215 = .inl (kc 1, 103041, .inl (fun _ => 0))) : W p l e room_1 s m #[Value.ref sb] below meth c H locs 220 112647 (lw_Z below #[Value.ref sb] s) (F0 m 532 ls []) := by
  obtain ⟨hx, hb, hml, hown, hts, hE, hbs⟩ := id C
  have hbA : ¬ b ≤ sb := by omega
  refine lv_aload_n hx hb dL_law_532 rfl (lv_at hl 2 rfl) ?_
  refine m_goi (m_runV calV_X11_hold wd_895 (k_x_hold l D kc b f  h0 h10 h183 h178 h184 h4 h6 h181 h182) C hM (by decide) h0 rfl hl.1 rfl rfl (Nat.le_of_ble_eq_true rfl) dL_law_533 ⟨Nat.le_of_ble_eq_true rfl, Nat.le_of_ble_eq_true rfl⟩ ⟨Nat.le_of_ble_eq_true rfl, Nat.le_of_ble_eq_true rfl⟩) hM (fun r1 n2 f1 H locs hp hM => ?_)
  obtain ⟨er1, rfl, fr1⟩ : r1 = 0 ∧ n2 = 220 ∧ ∀ j, 192 ≤ j → f1 j = f j := hp
  refine lv_aload_n hx hb dL_law_536 rfl (lv_at hl 1 rfl) ?_
  have h192_1 : f1 192 = .inr (13, [.ref (b + 193), .ref (b + 194), .ref (b + 195), .int 0, .int 0, .int 0, .ref (b + 196), .ref (b + 197), .int 0, .int 0, .int 0, .int 0, .int 0, .int 0, .int 0, .int (-1), .ref (b + 198), .ref (b + 199), .ref (b + 200), .ref (b + 201), .ref (b + 202), .ref (b + 203), .ref (b + 204), .ref (b + 205), .ref (b + 206), .ref (b + 207), .ref (b + 208), .int 0, .ref (b + 209), .ref (b + 210), .ref (b + 211), .ref (b + 212), .ref (b + 213), .ref (b + 214), .ref (b + 215), .int 0, .int 0, .int 0, .int 0, .ref (b + 216), .ref (b + 217), .ref (b + 218), .ref (b + 219)]) := (fr1 192 (by decide)).trans h192
  have h211_1 : f1 211 = .inl (kc 1, 2, .inl (upd (upd (fun _ => 0) 0 2) 1 3)) := (fr1 211 (by decide)).trans h211
  have h215_1 : f1 215 = .inl (kc 1, 103041, .inl (fun _ => 0)) := (fr1 215 (by decide)).trans h215
  refine m_goi (m_runV calV_X13_hold wd_1440 (k_m_hold l D kc b f1  h192_1 h211_1 h215_1) C hM (by decide) h192_1 rfl hl.1 rfl rfl (Nat.le_of_ble_eq_true rfl) dL_law_537 ⟨Nat.le_of_ble_eq_true rfl, Nat.le_of_ble_eq_true rfl⟩ ⟨Nat.le_of_ble_eq_true rfl, Nat.le_of_ble_eq_true rfl⟩) hM (fun r3 n4 f2 H locs hp hM => ?_)
  have er3 : r3 = 0 := hp
  refine lv_icmp_eq (tgt := 775) hx hb dL_law_540 (by decide) (fun _ => ?_) (fun h => absurd (er1.trans er3.symm) h)
  exact law_tail C hX hbl hsz hr hlk hM hl
set_option maxHeartbeats 4000000 in
set_option maxRecDepth 100000 in
theorem law_case14 {p : Program} {l : Launch} {e : Env} {s : State} {m : MethodId} {below : List Frame} {meth : Method} {c : Code} {D : va_G} {kc : Nat → ClassId} {sb : Nat} {xs : Nat → Int32} {H : Heap} {locs : List Loc} {ls : Array Slot} {b : Nat} {f : Nat → va_E} (C : mC p s m #[Value.ref sb] c code 4 RL D kc b) (hX : va_X sb 6 xs s s.heap) (hbl : sb < s.heap.size) (hsz : s.heap.size = b) (hr : meth.sig.returnType = ret) (hlk : meth.locks = false) (hM : mS D b s 220 f H locs) (hl : lv_has ls 4 [(3, .int 0), (2, .ref (b + 192)), (1, .ref (b + 0)), (0, .ref sb)]) (h0 : f 0 = .inr (11, [.ref (b + 1), .ref (b + 3), .ref (b + 4), .ref (b + 6), .ref (b + 8), .ref (b + 10), .ref (b + 174), .ref (b + 177), .ref (b + 178), .ref (b + 181), .ref (b + 183), .ref (b + 190)])) (h183 : f 183 = .inr (2, [.ref (b + 184), .ref (b + 186), .ref (b + 187), .ref (b + 188), .ref (b + 189), .int 2, .int 3, .int 0, .int 0, .int 0, .int 0, .int 0])) (h192 : f 192 = .inr (13, [.ref (b + 193), .ref (b + 194), .ref (b + 195), .int 0, .int 0, .int 0, .ref (b + 196), .ref (b + 197), .int 0, .int 0, .int 0, .int 0, .int 0, .int 0, .int 0, .int (-1), .ref (b + 198), .ref (b + 199), .ref (b + 200), .ref (b + 201), .ref (b + 202), .ref (b + 203), .ref (b + 204), .ref (b + 205), .ref (b + 206), .ref (b + 207), .ref (b + 208), .int 0, .ref (b + 209), .ref (b + 210), .ref (b + 211), .ref (b + 212), .ref (b + 213), .ref (b + 214), .ref (b + 215), .int 0, .int 0, .int 0, .int 0, .ref (b + 216), .ref (b + 217), .ref (b + 218), .ref (b + 219)])) : W p l e room_1 s m #[Value.ref sb] below meth c H locs 220 112647 (lw_Z below #[Value.ref sb] s) (F0 m 545 ls []) := by
  obtain ⟨hx, hb, hml, hown, hts, hE, hbs⟩ := id C
  have hbA : ¬ b ≤ sb := by omega
  refine lv_aload_n hx hb dL_law_545 rfl (lv_at hl 2 rfl) ?_
  refine lv_aload_n hx hb dL_law_546 rfl (lv_at hl 3 rfl) ?_
  refine lv_iload_n hx hb dL_law_547 rfl (lv_at hl 0 rfl) ?_
  refine lv_iconst (v := 1) hx hb dL_law_548 (by decide) ?_
  refine lv_iadd hx hb dL_law_549 ?_
  refine m_vi (y := 1) (by decide) ?_
  refine va_sld hx hb hX hbl hbA hM.2 (m_in (by decide)) dL_law_550 ?_
  refine m_vi (y := xs 1) rfl ?_
  refine m_goi (m_runV calV_X11_held wd_945 (k_x_held l D kc b f (xs 1) h0 h183) C hM (by decide) h0 rfl hl.1 rfl rfl (Nat.le_of_ble_eq_true rfl) dL_law_551 ⟨Nat.le_of_ble_eq_true rfl, Nat.le_of_ble_eq_true rfl⟩ ⟨Nat.le_of_ble_eq_true rfl, Nat.le_of_ble_eq_true rfl⟩) hM (fun r1 n2 f1 H locs hp hM => ?_)
  obtain ⟨er1, rfl, fr1⟩ : r1 = (-1) ∧ n2 = 220 ∧ ∀ j, 192 ≤ j → f1 j = f j := hp
  refine lv_aload_n hx hb dL_law_554 rfl (lv_at hl 1 rfl) ?_
  refine lv_aload_n hx hb dL_law_555 rfl (lv_at hl 3 rfl) ?_
  refine lv_iload_n hx hb dL_law_556 rfl (lv_at hl 0 rfl) ?_
  refine lv_iconst (v := 1) hx hb dL_law_557 (by decide) ?_
  refine lv_iadd hx hb dL_law_558 ?_
  refine m_vi (y := 1) (by decide) ?_
  refine va_sld hx hb hX hbl hbA hM.2 (m_in (by decide)) dL_law_559 ?_
  refine m_vi (y := xs 1) rfl ?_
  have h192_1 : f1 192 = .inr (13, [.ref (b + 193), .ref (b + 194), .ref (b + 195), .int 0, .int 0, .int 0, .ref (b + 196), .ref (b + 197), .int 0, .int 0, .int 0, .int 0, .int 0, .int 0, .int 0, .int (-1), .ref (b + 198), .ref (b + 199), .ref (b + 200), .ref (b + 201), .ref (b + 202), .ref (b + 203), .ref (b + 204), .ref (b + 205), .ref (b + 206), .ref (b + 207), .ref (b + 208), .int 0, .ref (b + 209), .ref (b + 210), .ref (b + 211), .ref (b + 212), .ref (b + 213), .ref (b + 214), .ref (b + 215), .int 0, .int 0, .int 0, .int 0, .ref (b + 216), .ref (b + 217), .ref (b + 218), .ref (b + 219)]) := (fr1 192 (by decide)).trans h192
  refine m_goi (m_runV calV_X13_held wd_1451 (k_m_held l D kc b f1 (xs 1) h192_1) C hM (by decide) h192_1 rfl hl.1 rfl rfl (Nat.le_of_ble_eq_true rfl) dL_law_560 ⟨Nat.le_of_ble_eq_true rfl, Nat.le_of_ble_eq_true rfl⟩ ⟨Nat.le_of_ble_eq_true rfl, Nat.le_of_ble_eq_true rfl⟩) hM (fun r3 n4 f2 H locs hp hM => ?_)
  have er3 : r3 = (-1) := hp
  refine lv_icmp_eq (tgt := 775) hx hb dL_law_563 (by decide) (fun _ => ?_) (fun h => absurd (er1.trans er3.symm) h)
  exact law_tail C hX hbl hsz hr hlk hM hl
set_option maxHeartbeats 4000000 in
set_option maxRecDepth 100000 in
theorem law_case15 {p : Program} {l : Launch} {e : Env} {s : State} {m : MethodId} {below : List Frame} {meth : Method} {c : Code} {D : va_G} {kc : Nat → ClassId} {sb : Nat} {xs : Nat → Int32} {H : Heap} {locs : List Loc} {ls : Array Slot} {b : Nat} {f : Nat → va_E} (C : mC p s m #[Value.ref sb] c code 4 RL D kc b) (hX : va_X sb 6 xs s s.heap) (hbl : sb < s.heap.size) (hsz : s.heap.size = b) (hr : meth.sig.returnType = ret) (hlk : meth.locks = false) (hM : mS D b s 220 f H locs) (hl : lv_has ls 4 [(3, .int 0), (2, .ref (b + 192)), (1, .ref (b + 0)), (0, .ref sb)]) (h0 : f 0 = .inr (11, [.ref (b + 1), .ref (b + 3), .ref (b + 4), .ref (b + 6), .ref (b + 8), .ref (b + 10), .ref (b + 174), .ref (b + 177), .ref (b + 178), .ref (b + 181), .ref (b + 183), .ref (b + 190)])) (h183 : f 183 = .inr (2, [.ref (b + 184), .ref (b + 186), .ref (b + 187), .ref (b + 188), .ref (b + 189), .int 2, .int 3, .int 0, .int 0, .int 0, .int 0, .int 0])) (h192 : f 192 = .inr (13, [.ref (b + 193), .ref (b + 194), .ref (b + 195), .int 0, .int 0, .int 0, .ref (b + 196), .ref (b + 197), .int 0, .int 0, .int 0, .int 0, .int 0, .int 0, .int 0, .int (-1), .ref (b + 198), .ref (b + 199), .ref (b + 200), .ref (b + 201), .ref (b + 202), .ref (b + 203), .ref (b + 204), .ref (b + 205), .ref (b + 206), .ref (b + 207), .ref (b + 208), .int 0, .ref (b + 209), .ref (b + 210), .ref (b + 211), .ref (b + 212), .ref (b + 213), .ref (b + 214), .ref (b + 215), .int 0, .int 0, .int 0, .int 0, .ref (b + 216), .ref (b + 217), .ref (b + 218), .ref (b + 219)])) : W p l e room_1 s m #[Value.ref sb] below meth c H locs 220 112647 (lw_Z below #[Value.ref sb] s) (F0 m 568 ls []) := by
  obtain ⟨hx, hb, hml, hown, hts, hE, hbs⟩ := id C
  have hbA : ¬ b ≤ sb := by omega
  refine lv_aload_n hx hb dL_law_568 rfl (lv_at hl 2 rfl) ?_
  refine lv_aload_n hx hb dL_law_569 rfl (lv_at hl 3 rfl) ?_
  refine lv_iload_n hx hb dL_law_570 rfl (lv_at hl 0 rfl) ?_
  refine lv_iconst (v := 1) hx hb dL_law_571 (by decide) ?_
  refine lv_iadd hx hb dL_law_572 ?_
  refine m_vi (y := 1) (by decide) ?_
  refine va_sld hx hb hX hbl hbA hM.2 (m_in (by decide)) dL_law_573 ?_
  refine m_vi (y := xs 1) rfl ?_
  refine lv_aload_n hx hb dL_law_574 rfl (lv_at hl 3 rfl) ?_
  refine lv_iload_n hx hb dL_law_575 rfl (lv_at hl 0 rfl) ?_
  refine lv_iconst (v := 2) hx hb dL_law_576 (by decide) ?_
  refine lv_iadd hx hb dL_law_577 ?_
  refine m_vi (y := 2) (by decide) ?_
  refine va_sld hx hb hX hbl hbA hM.2 (m_in (by decide)) dL_law_578 ?_
  refine m_vi (y := xs 2) rfl ?_
  refine m_goi (m_runV calV_X11_unasked wd_957 (k_x_unasked l D kc b f (xs 1) (xs 2) h0 h183) C hM (by decide) h0 rfl hl.1 rfl rfl (Nat.le_of_ble_eq_true rfl) dL_law_579 ⟨Nat.le_of_ble_eq_true rfl, Nat.le_of_ble_eq_true rfl⟩ ⟨Nat.le_of_ble_eq_true rfl, Nat.le_of_ble_eq_true rfl⟩) hM (fun r1 n2 f1 H locs hp hM => ?_)
  obtain ⟨er1, rfl, fr1⟩ : r1 = (-1) ∧ n2 = 220 ∧ ∀ j, 192 ≤ j → f1 j = f j := hp
  refine lv_aload_n hx hb dL_law_582 rfl (lv_at hl 1 rfl) ?_
  refine lv_aload_n hx hb dL_law_583 rfl (lv_at hl 3 rfl) ?_
  refine lv_iload_n hx hb dL_law_584 rfl (lv_at hl 0 rfl) ?_
  refine lv_iconst (v := 1) hx hb dL_law_585 (by decide) ?_
  refine lv_iadd hx hb dL_law_586 ?_
  refine m_vi (y := 1) (by decide) ?_
  refine va_sld hx hb hX hbl hbA hM.2 (m_in (by decide)) dL_law_587 ?_
  refine m_vi (y := xs 1) rfl ?_
  refine lv_aload_n hx hb dL_law_588 rfl (lv_at hl 3 rfl) ?_
  refine lv_iload_n hx hb dL_law_589 rfl (lv_at hl 0 rfl) ?_
  refine lv_iconst (v := 2) hx hb dL_law_590 (by decide) ?_
  refine lv_iadd hx hb dL_law_591 ?_
  refine m_vi (y := 2) (by decide) ?_
  refine va_sld hx hb hX hbl hbA hM.2 (m_in (by decide)) dL_law_592 ?_
  refine m_vi (y := xs 2) rfl ?_
  have h192_1 : f1 192 = .inr (13, [.ref (b + 193), .ref (b + 194), .ref (b + 195), .int 0, .int 0, .int 0, .ref (b + 196), .ref (b + 197), .int 0, .int 0, .int 0, .int 0, .int 0, .int 0, .int 0, .int (-1), .ref (b + 198), .ref (b + 199), .ref (b + 200), .ref (b + 201), .ref (b + 202), .ref (b + 203), .ref (b + 204), .ref (b + 205), .ref (b + 206), .ref (b + 207), .ref (b + 208), .int 0, .ref (b + 209), .ref (b + 210), .ref (b + 211), .ref (b + 212), .ref (b + 213), .ref (b + 214), .ref (b + 215), .int 0, .int 0, .int 0, .int 0, .ref (b + 216), .ref (b + 217), .ref (b + 218), .ref (b + 219)]) := (fr1 192 (by decide)).trans h192
  refine m_goi (m_runV calV_X13_unasked wd_1455 (k_m_unasked l D kc b f1 (xs 1) (xs 2) h192_1) C hM (by decide) h192_1 rfl hl.1 rfl rfl (Nat.le_of_ble_eq_true rfl) dL_law_593 ⟨Nat.le_of_ble_eq_true rfl, Nat.le_of_ble_eq_true rfl⟩ ⟨Nat.le_of_ble_eq_true rfl, Nat.le_of_ble_eq_true rfl⟩) hM (fun r3 n4 f2 H locs hp hM => ?_)
  have er3 : r3 = (-1) := hp
  refine lv_icmp_eq (tgt := 775) hx hb dL_law_596 (by decide) (fun _ => ?_) (fun h => absurd (er1.trans er3.symm) h)
  exact law_tail C hX hbl hsz hr hlk hM hl
set_option maxHeartbeats 4000000 in
set_option maxRecDepth 100000 in
theorem law_case16 {p : Program} {l : Launch} {e : Env} {s : State} {m : MethodId} {below : List Frame} {meth : Method} {c : Code} {D : va_G} {kc : Nat → ClassId} {sb : Nat} {xs : Nat → Int32} {H : Heap} {locs : List Loc} {ls : Array Slot} {b : Nat} {f : Nat → va_E} (C : mC p s m #[Value.ref sb] c code 4 RL D kc b) (hX : va_X sb 6 xs s s.heap) (hbl : sb < s.heap.size) (hsz : s.heap.size = b) (hr : meth.sig.returnType = ret) (hlk : meth.locks = false) (hM : mS D b s 220 f H locs) (hl : lv_has ls 4 [(3, .int 0), (2, .ref (b + 192)), (1, .ref (b + 0)), (0, .ref sb)]) (h0 : f 0 = .inr (11, [.ref (b + 1), .ref (b + 3), .ref (b + 4), .ref (b + 6), .ref (b + 8), .ref (b + 10), .ref (b + 174), .ref (b + 177), .ref (b + 178), .ref (b + 181), .ref (b + 183), .ref (b + 190)])) (h4 : f 4 = .inr (8, [.ref (b + 5), .int 0])) (h6 : f 6 = .inr (8, [.ref (b + 7), .int 0])) (h8 : f 8 = .inr (8, [.ref (b + 9), .int 0])) (h181 : f 181 = .inr (6, [.ref (b + 182)])) (h182 : f 182 = .inl (kc 1, 301, .inl (fun _ => 0))) (h192 : f 192 = .inr (13, [.ref (b + 193), .ref (b + 194), .ref (b + 195), .int 0, .int 0, .int 0, .ref (b + 196), .ref (b + 197), .int 0, .int 0, .int 0, .int 0, .int 0, .int 0, .int 0, .int (-1), .ref (b + 198), .ref (b + 199), .ref (b + 200), .ref (b + 201), .ref (b + 202), .ref (b + 203), .ref (b + 204), .ref (b + 205), .ref (b + 206), .ref (b + 207), .ref (b + 208), .int 0, .ref (b + 209), .ref (b + 210), .ref (b + 211), .ref (b + 212), .ref (b + 213), .ref (b + 214), .ref (b + 215), .int 0, .int 0, .int 0, .int 0, .ref (b + 216), .ref (b + 217), .ref (b + 218), .ref (b + 219)])) (h215 : f 215 = .inl (kc 1, 103041, .inl (fun _ => 0))) : W p l e room_1 s m #[Value.ref sb] below meth c H locs 220 112647 (lw_Z below #[Value.ref sb] s) (F0 m 601 ls []) := by
  obtain ⟨hx, hb, hml, hown, hts, hE, hbs⟩ := id C
  have hbA : ¬ b ≤ sb := by omega
  refine lv_aload_n hx hb dL_law_601 rfl (lv_at hl 2 rfl) ?_
  refine lv_aload_n hx hb dL_law_602 rfl (lv_at hl 3 rfl) ?_
  refine lv_iload_n hx hb dL_law_603 rfl (lv_at hl 0 rfl) ?_
  refine lv_iconst (v := 1) hx hb dL_law_604 (by decide) ?_
  refine lv_iadd hx hb dL_law_605 ?_
  refine m_vi (y := 1) (by decide) ?_
  refine va_sld hx hb hX hbl hbA hM.2 (m_in (by decide)) dL_law_606 ?_
  refine m_vi (y := xs 1) rfl ?_
  refine lv_aload_n hx hb dL_law_607 rfl (lv_at hl 3 rfl) ?_
  refine lv_iload_n hx hb dL_law_608 rfl (lv_at hl 0 rfl) ?_
  refine lv_iconst (v := 2) hx hb dL_law_609 (by decide) ?_
  refine lv_iadd hx hb dL_law_610 ?_
  refine m_vi (y := 2) (by decide) ?_
  refine va_sld hx hb hX hbl hbA hM.2 (m_in (by decide)) dL_law_611 ?_
  refine m_vi (y := xs 2) rfl ?_
  refine m_goi (m_runV calV_X11_distance wd_965 (k_x_distance l D kc b f (xs 1) (xs 2) h0 h4 h181 h182 h6 h8) C hM (by decide) h0 rfl hl.1 rfl rfl (Nat.le_of_ble_eq_true rfl) dL_law_612 ⟨Nat.le_of_ble_eq_true rfl, Nat.le_of_ble_eq_true rfl⟩ ⟨Nat.le_of_ble_eq_true rfl, Nat.le_of_ble_eq_true rfl⟩) hM (fun r1 n2 f1 H locs hp hM => ?_)
  obtain ⟨er1, rfl, fr1⟩ : r1 = p_distance (xs 1) (xs 2) ∧ n2 = 220 ∧ ∀ j, 192 ≤ j → f1 j = f j := hp
  refine lv_aload_n hx hb dL_law_615 rfl (lv_at hl 1 rfl) ?_
  refine lv_aload_n hx hb dL_law_616 rfl (lv_at hl 3 rfl) ?_
  refine lv_iload_n hx hb dL_law_617 rfl (lv_at hl 0 rfl) ?_
  refine lv_iconst (v := 1) hx hb dL_law_618 (by decide) ?_
  refine lv_iadd hx hb dL_law_619 ?_
  refine m_vi (y := 1) (by decide) ?_
  refine va_sld hx hb hX hbl hbA hM.2 (m_in (by decide)) dL_law_620 ?_
  refine m_vi (y := xs 1) rfl ?_
  refine lv_aload_n hx hb dL_law_621 rfl (lv_at hl 3 rfl) ?_
  refine lv_iload_n hx hb dL_law_622 rfl (lv_at hl 0 rfl) ?_
  refine lv_iconst (v := 2) hx hb dL_law_623 (by decide) ?_
  refine lv_iadd hx hb dL_law_624 ?_
  refine m_vi (y := 2) (by decide) ?_
  refine va_sld hx hb hX hbl hbA hM.2 (m_in (by decide)) dL_law_625 ?_
  refine m_vi (y := xs 2) rfl ?_
  have h192_1 : f1 192 = .inr (13, [.ref (b + 193), .ref (b + 194), .ref (b + 195), .int 0, .int 0, .int 0, .ref (b + 196), .ref (b + 197), .int 0, .int 0, .int 0, .int 0, .int 0, .int 0, .int 0, .int (-1), .ref (b + 198), .ref (b + 199), .ref (b + 200), .ref (b + 201), .ref (b + 202), .ref (b + 203), .ref (b + 204), .ref (b + 205), .ref (b + 206), .ref (b + 207), .ref (b + 208), .int 0, .ref (b + 209), .ref (b + 210), .ref (b + 211), .ref (b + 212), .ref (b + 213), .ref (b + 214), .ref (b + 215), .int 0, .int 0, .int 0, .int 0, .ref (b + 216), .ref (b + 217), .ref (b + 218), .ref (b + 219)]) := (fr1 192 (by decide)).trans h192
  have h215_1 : f1 215 = .inl (kc 1, 103041, .inl (fun _ => 0)) := (fr1 215 (by decide)).trans h215
  refine m_goi (m_runV calV_X13_distance wd_1424 (k_m_distance l D kc b f1 (xs 1) (xs 2) h192_1 h215_1) C hM (by decide) h192_1 rfl hl.1 rfl rfl (Nat.le_of_ble_eq_true rfl) dL_law_626 ⟨Nat.le_of_ble_eq_true rfl, Nat.le_of_ble_eq_true rfl⟩ ⟨Nat.le_of_ble_eq_true rfl, Nat.le_of_ble_eq_true rfl⟩) hM (fun r3 n4 f2 H locs hp hM => ?_)
  have er3 : r3 = p_distance (xs 1) (xs 2) := hp
  refine lv_icmp_eq (tgt := 775) hx hb dL_law_629 (by decide) (fun _ => ?_) (fun h => absurd (er1.trans er3.symm) h)
  exact law_tail C hX hbl hsz hr hlk hM hl
set_option maxHeartbeats 4000000 in
set_option maxRecDepth 100000 in
theorem law_case17 {p : Program} {l : Launch} {e : Env} {s : State} {m : MethodId} {below : List Frame} {meth : Method} {c : Code} {D : va_G} {kc : Nat → ClassId} {sb : Nat} {xs : Nat → Int32} {H : Heap} {locs : List Loc} {ls : Array Slot} {b : Nat} {f : Nat → va_E} (C : mC p s m #[Value.ref sb] c code 4 RL D kc b) (hX : va_X sb 6 xs s s.heap) (hbl : sb < s.heap.size) (hsz : s.heap.size = b) (hr : meth.sig.returnType = ret) (hlk : meth.locks = false) (hM : mS D b s 220 f H locs) (hl : lv_has ls 4 [(3, .int 0), (2, .ref (b + 192)), (1, .ref (b + 0)), (0, .ref sb)]) (h0 : f 0 = .inr (11, [.ref (b + 1), .ref (b + 3), .ref (b + 4), .ref (b + 6), .ref (b + 8), .ref (b + 10), .ref (b + 174), .ref (b + 177), .ref (b + 178), .ref (b + 181), .ref (b + 183), .ref (b + 190)])) (h6 : f 6 = .inr (8, [.ref (b + 7), .int 0])) (h192 : f 192 = .inr (13, [.ref (b + 193), .ref (b + 194), .ref (b + 195), .int 0, .int 0, .int 0, .ref (b + 196), .ref (b + 197), .int 0, .int 0, .int 0, .int 0, .int 0, .int 0, .int 0, .int (-1), .ref (b + 198), .ref (b + 199), .ref (b + 200), .ref (b + 201), .ref (b + 202), .ref (b + 203), .ref (b + 204), .ref (b + 205), .ref (b + 206), .ref (b + 207), .ref (b + 208), .int 0, .ref (b + 209), .ref (b + 210), .ref (b + 211), .ref (b + 212), .ref (b + 213), .ref (b + 214), .ref (b + 215), .int 0, .int 0, .int 0, .int 0, .ref (b + 216), .ref (b + 217), .ref (b + 218), .ref (b + 219)])) : W p l e room_1 s m #[Value.ref sb] below meth c H locs 220 112647 (lw_Z below #[Value.ref sb] s) (F0 m 634 ls []) := by
  obtain ⟨hx, hb, hml, hown, hts, hE, hbs⟩ := id C
  have hbA : ¬ b ≤ sb := by omega
  refine lv_aload_n hx hb dL_law_634 rfl (lv_at hl 2 rfl) ?_
  refine m_goi (m_runV calV_X11_next wd_970 (k_x_next l D kc b f  h0 h6) C hM (by decide) h0 rfl hl.1 rfl rfl (Nat.le_of_ble_eq_true rfl) dL_law_635 ⟨Nat.le_of_ble_eq_true rfl, Nat.le_of_ble_eq_true rfl⟩ ⟨Nat.le_of_ble_eq_true rfl, Nat.le_of_ble_eq_true rfl⟩) hM (fun r1 n2 f1 H locs hp hM => ?_)
  obtain ⟨er1, rfl, fr1⟩ : r1 = (-4) ∧ n2 = 220 ∧ ∀ j, 192 ≤ j → f1 j = f j := hp
  refine lv_aload_n hx hb dL_law_638 rfl (lv_at hl 1 rfl) ?_
  have h192_1 : f1 192 = .inr (13, [.ref (b + 193), .ref (b + 194), .ref (b + 195), .int 0, .int 0, .int 0, .ref (b + 196), .ref (b + 197), .int 0, .int 0, .int 0, .int 0, .int 0, .int 0, .int 0, .int (-1), .ref (b + 198), .ref (b + 199), .ref (b + 200), .ref (b + 201), .ref (b + 202), .ref (b + 203), .ref (b + 204), .ref (b + 205), .ref (b + 206), .ref (b + 207), .ref (b + 208), .int 0, .ref (b + 209), .ref (b + 210), .ref (b + 211), .ref (b + 212), .ref (b + 213), .ref (b + 214), .ref (b + 215), .int 0, .int 0, .int 0, .int 0, .ref (b + 216), .ref (b + 217), .ref (b + 218), .ref (b + 219)]) := (fr1 192 (by decide)).trans h192
  refine m_goi (m_runV calV_X13_next wd_1459 (k_m_next l D kc b f1  h192_1) C hM (by decide) h192_1 rfl hl.1 rfl rfl (Nat.le_of_ble_eq_true rfl) dL_law_639 ⟨Nat.le_of_ble_eq_true rfl, Nat.le_of_ble_eq_true rfl⟩ ⟨Nat.le_of_ble_eq_true rfl, Nat.le_of_ble_eq_true rfl⟩) hM (fun r3 n4 f2 H locs hp hM => ?_)
  have er3 : r3 = (-4) := hp
  refine lv_icmp_eq (tgt := 775) hx hb dL_law_642 (by decide) (fun _ => ?_) (fun h => absurd (er1.trans er3.symm) h)
  exact law_tail C hX hbl hsz hr hlk hM hl
set_option maxHeartbeats 4000000 in
set_option maxRecDepth 100000 in
theorem law_case18 {p : Program} {l : Launch} {e : Env} {s : State} {m : MethodId} {below : List Frame} {meth : Method} {c : Code} {D : va_G} {kc : Nat → ClassId} {sb : Nat} {xs : Nat → Int32} {H : Heap} {locs : List Loc} {ls : Array Slot} {b : Nat} {f : Nat → va_E} (C : mC p s m #[Value.ref sb] c code 4 RL D kc b) (hX : va_X sb 6 xs s s.heap) (hbl : sb < s.heap.size) (hsz : s.heap.size = b) (hr : meth.sig.returnType = ret) (hlk : meth.locks = false) (hM : mS D b s 220 f H locs) (hl : lv_has ls 4 [(3, .int 0), (2, .ref (b + 192)), (1, .ref (b + 0)), (0, .ref sb)]) (h0 : f 0 = .inr (11, [.ref (b + 1), .ref (b + 3), .ref (b + 4), .ref (b + 6), .ref (b + 8), .ref (b + 10), .ref (b + 174), .ref (b + 177), .ref (b + 178), .ref (b + 181), .ref (b + 183), .ref (b + 190)])) (h10 : f 10 = .inr (5, [.ref (b + 11), .ref (b + 12), .ref (b + 13), .int 0, .int 0, .int 0])) (h192 : f 192 = .inr (13, [.ref (b + 193), .ref (b + 194), .ref (b + 195), .int 0, .int 0, .int 0, .ref (b + 196), .ref (b + 197), .int 0, .int 0, .int 0, .int 0, .int 0, .int 0, .int 0, .int (-1), .ref (b + 198), .ref (b + 199), .ref (b + 200), .ref (b + 201), .ref (b + 202), .ref (b + 203), .ref (b + 204), .ref (b + 205), .ref (b + 206), .ref (b + 207), .ref (b + 208), .int 0, .ref (b + 209), .ref (b + 210), .ref (b + 211), .ref (b + 212), .ref (b + 213), .ref (b + 214), .ref (b + 215), .int 0, .int 0, .int 0, .int 0, .ref (b + 216), .ref (b + 217), .ref (b + 218), .ref (b + 219)])) : W p l e room_1 s m #[Value.ref sb] below meth c H locs 220 112647 (lw_Z below #[Value.ref sb] s) (F0 m 647 ls []) := by
  obtain ⟨hx, hb, hml, hown, hts, hE, hbs⟩ := id C
  have hbA : ¬ b ≤ sb := by omega
  refine lv_aload_n hx hb dL_law_647 rfl (lv_at hl 2 rfl) ?_
  refine lv_aload_n hx hb dL_law_648 rfl (lv_at hl 3 rfl) ?_
  refine lv_iload_n hx hb dL_law_649 rfl (lv_at hl 0 rfl) ?_
  refine lv_iconst (v := 1) hx hb dL_law_650 (by decide) ?_
  refine lv_iadd hx hb dL_law_651 ?_
  refine m_vi (y := 1) (by decide) ?_
  refine va_sld hx hb hX hbl hbA hM.2 (m_in (by decide)) dL_law_652 ?_
  refine m_vi (y := xs 1) rfl ?_
  refine lv_aload_n hx hb dL_law_653 rfl (lv_at hl 3 rfl) ?_
  refine lv_iload_n hx hb dL_law_654 rfl (lv_at hl 0 rfl) ?_
  refine lv_iconst (v := 2) hx hb dL_law_655 (by decide) ?_
  refine lv_iadd hx hb dL_law_656 ?_
  refine m_vi (y := 2) (by decide) ?_
  refine va_sld hx hb hX hbl hbA hM.2 (m_in (by decide)) dL_law_657 ?_
  refine m_vi (y := xs 2) rfl ?_
  refine lv_if_eq (tgt := 665) hx hb dL_law_658 (by decide) (fun c1 => ?_) (fun c1 => ?_)
  · refine lv_iconst (v := 0) hx hb dL_law_665 (by decide) ?_
    refine m_goi (m_runV calV_X11_error wd_975 (k_x_error l D kc b f (xs 1) 0 h0 h10) C hM (by decide) h0 rfl hl.1 rfl rfl (Nat.le_of_ble_eq_true rfl) dL_law_666 ⟨Nat.le_of_ble_eq_true rfl, Nat.le_of_ble_eq_true rfl⟩ ⟨Nat.le_of_ble_eq_true rfl, Nat.le_of_ble_eq_true rfl⟩) hM (fun r2 n3 f1 H locs hp hM => ?_)
    obtain ⟨er2, rfl, fr1⟩ : r2 = (-2) ∧ n3 = 220 ∧ ∀ j, 192 ≤ j → f1 j = f j := hp
    refine lv_aload_n hx hb dL_law_669 rfl (lv_at hl 1 rfl) ?_
    refine lv_aload_n hx hb dL_law_670 rfl (lv_at hl 3 rfl) ?_
    refine lv_iload_n hx hb dL_law_671 rfl (lv_at hl 0 rfl) ?_
    refine lv_iconst (v := 1) hx hb dL_law_672 (by decide) ?_
    refine lv_iadd hx hb dL_law_673 ?_
    refine m_vi (y := 1) (by decide) ?_
    refine va_sld hx hb hX hbl hbA hM.2 (m_in (by decide)) dL_law_674 ?_
    refine m_vi (y := xs 1) rfl ?_
    refine lv_aload_n hx hb dL_law_675 rfl (lv_at hl 3 rfl) ?_
    refine lv_iload_n hx hb dL_law_676 rfl (lv_at hl 0 rfl) ?_
    refine lv_iconst (v := 2) hx hb dL_law_677 (by decide) ?_
    refine lv_iadd hx hb dL_law_678 ?_
    refine m_vi (y := 2) (by decide) ?_
    refine va_sld hx hb hX hbl hbA hM.2 (m_in (by decide)) dL_law_679 ?_
    refine m_vi (y := xs 2) rfl ?_
    refine lv_if_eq (tgt := 687) hx hb dL_law_680 (by decide) (fun c4 => ?_) (fun c4 => ?_)
    · refine lv_iconst (v := 0) hx hb dL_law_687 (by decide) ?_
      have h192_1 : f1 192 = .inr (13, [.ref (b + 193), .ref (b + 194), .ref (b + 195), .int 0, .int 0, .int 0, .ref (b + 196), .ref (b + 197), .int 0, .int 0, .int 0, .int 0, .int 0, .int 0, .int 0, .int (-1), .ref (b + 198), .ref (b + 199), .ref (b + 200), .ref (b + 201), .ref (b + 202), .ref (b + 203), .ref (b + 204), .ref (b + 205), .ref (b + 206), .ref (b + 207), .ref (b + 208), .int 0, .ref (b + 209), .ref (b + 210), .ref (b + 211), .ref (b + 212), .ref (b + 213), .ref (b + 214), .ref (b + 215), .int 0, .int 0, .int 0, .int 0, .ref (b + 216), .ref (b + 217), .ref (b + 218), .ref (b + 219)]) := (fr1 192 (by decide)).trans h192
      refine m_goi (m_runV calV_X13_error wd_1464 (k_m_error l D kc b f1 (xs 1) 0 h192_1) C hM (by decide) h192_1 rfl hl.1 rfl rfl (Nat.le_of_ble_eq_true rfl) dL_law_688 ⟨Nat.le_of_ble_eq_true rfl, Nat.le_of_ble_eq_true rfl⟩ ⟨Nat.le_of_ble_eq_true rfl, Nat.le_of_ble_eq_true rfl⟩) hM (fun r5 n6 f2 H locs hp hM => ?_)
      have er5 : r5 = (-2) := hp
      refine lv_icmp_eq (tgt := 775) hx hb dL_law_691 (by decide) (fun _ => ?_) (fun h => absurd (er2.trans er5.symm) h)
      exact law_tail C hX hbl hsz hr hlk hM hl
    · refine lv_iconst (v := 1) hx hb dL_law_683 (by decide) ?_
      refine lv_goto (tgt := 688) hx hb dL_law_684 (by decide) ?_
      have h192_1 : f1 192 = .inr (13, [.ref (b + 193), .ref (b + 194), .ref (b + 195), .int 0, .int 0, .int 0, .ref (b + 196), .ref (b + 197), .int 0, .int 0, .int 0, .int 0, .int 0, .int 0, .int 0, .int (-1), .ref (b + 198), .ref (b + 199), .ref (b + 200), .ref (b + 201), .ref (b + 202), .ref (b + 203), .ref (b + 204), .ref (b + 205), .ref (b + 206), .ref (b + 207), .ref (b + 208), .int 0, .ref (b + 209), .ref (b + 210), .ref (b + 211), .ref (b + 212), .ref (b + 213), .ref (b + 214), .ref (b + 215), .int 0, .int 0, .int 0, .int 0, .ref (b + 216), .ref (b + 217), .ref (b + 218), .ref (b + 219)]) := (fr1 192 (by decide)).trans h192
      refine m_goi (m_runV calV_X13_error wd_1464 (k_m_error l D kc b f1 (xs 1) 1 h192_1) C hM (by decide) h192_1 rfl hl.1 rfl rfl (Nat.le_of_ble_eq_true rfl) dL_law_688 ⟨Nat.le_of_ble_eq_true rfl, Nat.le_of_ble_eq_true rfl⟩ ⟨Nat.le_of_ble_eq_true rfl, Nat.le_of_ble_eq_true rfl⟩) hM (fun r7 n8 f2 H locs hp hM => ?_)
      have er7 : r7 = (-2) := hp
      refine lv_icmp_eq (tgt := 775) hx hb dL_law_691 (by decide) (fun _ => ?_) (fun h => absurd (er2.trans er7.symm) h)
      exact law_tail C hX hbl hsz hr hlk hM hl
  · refine lv_iconst (v := 1) hx hb dL_law_661 (by decide) ?_
    refine lv_goto (tgt := 666) hx hb dL_law_662 (by decide) ?_
    refine m_goi (m_runV calV_X11_error wd_975 (k_x_error l D kc b f (xs 1) 1 h0 h10) C hM (by decide) h0 rfl hl.1 rfl rfl (Nat.le_of_ble_eq_true rfl) dL_law_666 ⟨Nat.le_of_ble_eq_true rfl, Nat.le_of_ble_eq_true rfl⟩ ⟨Nat.le_of_ble_eq_true rfl, Nat.le_of_ble_eq_true rfl⟩) hM (fun r9 n10 f1 H locs hp hM => ?_)
    obtain ⟨er9, rfl, fr1⟩ : r9 = (-2) ∧ n10 = 220 ∧ ∀ j, 192 ≤ j → f1 j = f j := hp
    refine lv_aload_n hx hb dL_law_669 rfl (lv_at hl 1 rfl) ?_
    refine lv_aload_n hx hb dL_law_670 rfl (lv_at hl 3 rfl) ?_
    refine lv_iload_n hx hb dL_law_671 rfl (lv_at hl 0 rfl) ?_
    refine lv_iconst (v := 1) hx hb dL_law_672 (by decide) ?_
    refine lv_iadd hx hb dL_law_673 ?_
    refine m_vi (y := 1) (by decide) ?_
    refine va_sld hx hb hX hbl hbA hM.2 (m_in (by decide)) dL_law_674 ?_
    refine m_vi (y := xs 1) rfl ?_
    refine lv_aload_n hx hb dL_law_675 rfl (lv_at hl 3 rfl) ?_
    refine lv_iload_n hx hb dL_law_676 rfl (lv_at hl 0 rfl) ?_
    refine lv_iconst (v := 2) hx hb dL_law_677 (by decide) ?_
    refine lv_iadd hx hb dL_law_678 ?_
    refine m_vi (y := 2) (by decide) ?_
    refine va_sld hx hb hX hbl hbA hM.2 (m_in (by decide)) dL_law_679 ?_
    refine m_vi (y := xs 2) rfl ?_
    refine lv_if_eq (tgt := 687) hx hb dL_law_680 (by decide) (fun c11 => ?_) (fun c11 => ?_)
    · refine lv_iconst (v := 0) hx hb dL_law_687 (by decide) ?_
      have h192_1 : f1 192 = .inr (13, [.ref (b + 193), .ref (b + 194), .ref (b + 195), .int 0, .int 0, .int 0, .ref (b + 196), .ref (b + 197), .int 0, .int 0, .int 0, .int 0, .int 0, .int 0, .int 0, .int (-1), .ref (b + 198), .ref (b + 199), .ref (b + 200), .ref (b + 201), .ref (b + 202), .ref (b + 203), .ref (b + 204), .ref (b + 205), .ref (b + 206), .ref (b + 207), .ref (b + 208), .int 0, .ref (b + 209), .ref (b + 210), .ref (b + 211), .ref (b + 212), .ref (b + 213), .ref (b + 214), .ref (b + 215), .int 0, .int 0, .int 0, .int 0, .ref (b + 216), .ref (b + 217), .ref (b + 218), .ref (b + 219)]) := (fr1 192 (by decide)).trans h192
      refine m_goi (m_runV calV_X13_error wd_1464 (k_m_error l D kc b f1 (xs 1) 0 h192_1) C hM (by decide) h192_1 rfl hl.1 rfl rfl (Nat.le_of_ble_eq_true rfl) dL_law_688 ⟨Nat.le_of_ble_eq_true rfl, Nat.le_of_ble_eq_true rfl⟩ ⟨Nat.le_of_ble_eq_true rfl, Nat.le_of_ble_eq_true rfl⟩) hM (fun r12 n13 f2 H locs hp hM => ?_)
      have er12 : r12 = (-2) := hp
      refine lv_icmp_eq (tgt := 775) hx hb dL_law_691 (by decide) (fun _ => ?_) (fun h => absurd (er9.trans er12.symm) h)
      exact law_tail C hX hbl hsz hr hlk hM hl
    · refine lv_iconst (v := 1) hx hb dL_law_683 (by decide) ?_
      refine lv_goto (tgt := 688) hx hb dL_law_684 (by decide) ?_
      have h192_1 : f1 192 = .inr (13, [.ref (b + 193), .ref (b + 194), .ref (b + 195), .int 0, .int 0, .int 0, .ref (b + 196), .ref (b + 197), .int 0, .int 0, .int 0, .int 0, .int 0, .int 0, .int 0, .int (-1), .ref (b + 198), .ref (b + 199), .ref (b + 200), .ref (b + 201), .ref (b + 202), .ref (b + 203), .ref (b + 204), .ref (b + 205), .ref (b + 206), .ref (b + 207), .ref (b + 208), .int 0, .ref (b + 209), .ref (b + 210), .ref (b + 211), .ref (b + 212), .ref (b + 213), .ref (b + 214), .ref (b + 215), .int 0, .int 0, .int 0, .int 0, .ref (b + 216), .ref (b + 217), .ref (b + 218), .ref (b + 219)]) := (fr1 192 (by decide)).trans h192
      refine m_goi (m_runV calV_X13_error wd_1464 (k_m_error l D kc b f1 (xs 1) 1 h192_1) C hM (by decide) h192_1 rfl hl.1 rfl rfl (Nat.le_of_ble_eq_true rfl) dL_law_688 ⟨Nat.le_of_ble_eq_true rfl, Nat.le_of_ble_eq_true rfl⟩ ⟨Nat.le_of_ble_eq_true rfl, Nat.le_of_ble_eq_true rfl⟩) hM (fun r14 n15 f2 H locs hp hM => ?_)
      have er14 : r14 = (-2) := hp
      refine lv_icmp_eq (tgt := 775) hx hb dL_law_691 (by decide) (fun _ => ?_) (fun h => absurd (er9.trans er14.symm) h)
      exact law_tail C hX hbl hsz hr hlk hM hl
set_option maxHeartbeats 4000000 in
set_option maxRecDepth 100000 in
theorem law_case19 {p : Program} {l : Launch} {e : Env} {s : State} {m : MethodId} {below : List Frame} {meth : Method} {c : Code} {D : va_G} {kc : Nat → ClassId} {sb : Nat} {xs : Nat → Int32} {H : Heap} {locs : List Loc} {ls : Array Slot} {b : Nat} {f : Nat → va_E} (C : mC p s m #[Value.ref sb] c code 4 RL D kc b) (hX : va_X sb 6 xs s s.heap) (hbl : sb < s.heap.size) (hsz : s.heap.size = b) (hr : meth.sig.returnType = ret) (hlk : meth.locks = false) (hM : mS D b s 220 f H locs) (hl : lv_has ls 4 [(3, .int 0), (2, .ref (b + 192)), (1, .ref (b + 0)), (0, .ref sb)]) (h0 : f 0 = .inr (11, [.ref (b + 1), .ref (b + 3), .ref (b + 4), .ref (b + 6), .ref (b + 8), .ref (b + 10), .ref (b + 174), .ref (b + 177), .ref (b + 178), .ref (b + 181), .ref (b + 183), .ref (b + 190)])) (h190 : f 190 = .inr (0, [.ref (b + 191)])) (h191 : f 191 = .inl (kc 1, 5, .inl (mPr))) (h192 : f 192 = .inr (13, [.ref (b + 193), .ref (b + 194), .ref (b + 195), .int 0, .int 0, .int 0, .ref (b + 196), .ref (b + 197), .int 0, .int 0, .int 0, .int 0, .int 0, .int 0, .int 0, .int (-1), .ref (b + 198), .ref (b + 199), .ref (b + 200), .ref (b + 201), .ref (b + 202), .ref (b + 203), .ref (b + 204), .ref (b + 205), .ref (b + 206), .ref (b + 207), .ref (b + 208), .int 0, .ref (b + 209), .ref (b + 210), .ref (b + 211), .ref (b + 212), .ref (b + 213), .ref (b + 214), .ref (b + 215), .int 0, .int 0, .int 0, .int 0, .ref (b + 216), .ref (b + 217), .ref (b + 218), .ref (b + 219)])) (h210 : f 210 = .inl (kc 1, 5, .inl (mPr))) : W p l e room_1 s m #[Value.ref sb] below meth c H locs 220 112647 (lw_Z below #[Value.ref sb] s) (F0 m 696 ls []) := by
  obtain ⟨hx, hb, hml, hown, hts, hE, hbs⟩ := id C
  have hbA : ¬ b ≤ sb := by omega
  refine lv_aload_n hx hb dL_law_696 rfl (lv_at hl 2 rfl) ?_
  refine lv_aload_n hx hb dL_law_697 rfl (lv_at hl 3 rfl) ?_
  refine lv_iload_n hx hb dL_law_698 rfl (lv_at hl 0 rfl) ?_
  refine lv_iconst (v := 1) hx hb dL_law_699 (by decide) ?_
  refine lv_iadd hx hb dL_law_700 ?_
  refine m_vi (y := 1) (by decide) ?_
  refine va_sld hx hb hX hbl hbA hM.2 (m_in (by decide)) dL_law_701 ?_
  refine m_vi (y := xs 1) rfl ?_
  refine lv_aload_n hx hb dL_law_702 rfl (lv_at hl 3 rfl) ?_
  refine lv_iload_n hx hb dL_law_703 rfl (lv_at hl 0 rfl) ?_
  refine lv_iconst (v := 2) hx hb dL_law_704 (by decide) ?_
  refine lv_iadd hx hb dL_law_705 ?_
  refine m_vi (y := 2) (by decide) ?_
  refine va_sld hx hb hX hbl hbA hM.2 (m_in (by decide)) dL_law_706 ?_
  refine m_vi (y := xs 2) rfl ?_
  refine m_goi (m_runV calV_X11_price wd_979 (k_x_price l D kc b f (xs 1) (xs 2) h0 h190 h191) C hM (by decide) h0 rfl hl.1 rfl rfl (Nat.le_of_ble_eq_true rfl) dL_law_707 ⟨Nat.le_of_ble_eq_true rfl, Nat.le_of_ble_eq_true rfl⟩ ⟨Nat.le_of_ble_eq_true rfl, Nat.le_of_ble_eq_true rfl⟩) hM (fun r1 n2 f1 H locs hp hM => ?_)
  obtain ⟨er1, rfl, fr1⟩ : r1 = p_price (xs 1) (xs 2) ∧ n2 = 220 ∧ ∀ j, 192 ≤ j → f1 j = f j := hp
  refine lv_aload_n hx hb dL_law_710 rfl (lv_at hl 1 rfl) ?_
  refine lv_aload_n hx hb dL_law_711 rfl (lv_at hl 3 rfl) ?_
  refine lv_iload_n hx hb dL_law_712 rfl (lv_at hl 0 rfl) ?_
  refine lv_iconst (v := 1) hx hb dL_law_713 (by decide) ?_
  refine lv_iadd hx hb dL_law_714 ?_
  refine m_vi (y := 1) (by decide) ?_
  refine va_sld hx hb hX hbl hbA hM.2 (m_in (by decide)) dL_law_715 ?_
  refine m_vi (y := xs 1) rfl ?_
  refine lv_aload_n hx hb dL_law_716 rfl (lv_at hl 3 rfl) ?_
  refine lv_iload_n hx hb dL_law_717 rfl (lv_at hl 0 rfl) ?_
  refine lv_iconst (v := 2) hx hb dL_law_718 (by decide) ?_
  refine lv_iadd hx hb dL_law_719 ?_
  refine m_vi (y := 2) (by decide) ?_
  refine va_sld hx hb hX hbl hbA hM.2 (m_in (by decide)) dL_law_720 ?_
  refine m_vi (y := xs 2) rfl ?_
  have h192_1 : f1 192 = .inr (13, [.ref (b + 193), .ref (b + 194), .ref (b + 195), .int 0, .int 0, .int 0, .ref (b + 196), .ref (b + 197), .int 0, .int 0, .int 0, .int 0, .int 0, .int 0, .int 0, .int (-1), .ref (b + 198), .ref (b + 199), .ref (b + 200), .ref (b + 201), .ref (b + 202), .ref (b + 203), .ref (b + 204), .ref (b + 205), .ref (b + 206), .ref (b + 207), .ref (b + 208), .int 0, .ref (b + 209), .ref (b + 210), .ref (b + 211), .ref (b + 212), .ref (b + 213), .ref (b + 214), .ref (b + 215), .int 0, .int 0, .int 0, .int 0, .ref (b + 216), .ref (b + 217), .ref (b + 218), .ref (b + 219)]) := (fr1 192 (by decide)).trans h192
  have h210_1 : f1 210 = .inl (kc 1, 5, .inl (mPr)) := (fr1 210 (by decide)).trans h210
  refine m_goi (m_runV calV_X13_price wd_1468 (k_m_price l D kc b f1 (xs 1) (xs 2) h192_1 h210_1) C hM (by decide) h192_1 rfl hl.1 rfl rfl (Nat.le_of_ble_eq_true rfl) dL_law_721 ⟨Nat.le_of_ble_eq_true rfl, Nat.le_of_ble_eq_true rfl⟩ ⟨Nat.le_of_ble_eq_true rfl, Nat.le_of_ble_eq_true rfl⟩) hM (fun r3 n4 f2 H locs hp hM => ?_)
  have er3 : r3 = p_price (xs 1) (xs 2) := hp
  refine lv_icmp_eq (tgt := 775) hx hb dL_law_724 (by decide) (fun _ => ?_) (fun h => absurd (er1.trans er3.symm) h)
  exact law_tail C hX hbl hsz hr hlk hM hl
set_option maxHeartbeats 4000000 in
set_option maxRecDepth 100000 in
theorem law_case20 {p : Program} {l : Launch} {e : Env} {s : State} {m : MethodId} {below : List Frame} {meth : Method} {c : Code} {D : va_G} {kc : Nat → ClassId} {sb : Nat} {xs : Nat → Int32} {H : Heap} {locs : List Loc} {ls : Array Slot} {b : Nat} {f : Nat → va_E} (C : mC p s m #[Value.ref sb] c code 4 RL D kc b) (hX : va_X sb 6 xs s s.heap) (hbl : sb < s.heap.size) (hsz : s.heap.size = b) (hr : meth.sig.returnType = ret) (hlk : meth.locks = false) (hM : mS D b s 220 f H locs) (hl : lv_has ls 4 [(3, .int 0), (2, .ref (b + 192)), (1, .ref (b + 0)), (0, .ref sb)]) (h0 : f 0 = .inr (11, [.ref (b + 1), .ref (b + 3), .ref (b + 4), .ref (b + 6), .ref (b + 8), .ref (b + 10), .ref (b + 174), .ref (b + 177), .ref (b + 178), .ref (b + 181), .ref (b + 183), .ref (b + 190)])) (h10 : f 10 = .inr (5, [.ref (b + 11), .ref (b + 12), .ref (b + 13), .int 0, .int 0, .int 0])) (h190 : f 190 = .inr (0, [.ref (b + 191)])) (h192 : f 192 = .inr (13, [.ref (b + 193), .ref (b + 194), .ref (b + 195), .int 0, .int 0, .int 0, .ref (b + 196), .ref (b + 197), .int 0, .int 0, .int 0, .int 0, .int 0, .int 0, .int 0, .int (-1), .ref (b + 198), .ref (b + 199), .ref (b + 200), .ref (b + 201), .ref (b + 202), .ref (b + 203), .ref (b + 204), .ref (b + 205), .ref (b + 206), .ref (b + 207), .ref (b + 208), .int 0, .ref (b + 209), .ref (b + 210), .ref (b + 211), .ref (b + 212), .ref (b + 213), .ref (b + 214), .ref (b + 215), .int 0, .int 0, .int 0, .int 0, .ref (b + 216), .ref (b + 217), .ref (b + 218), .ref (b + 219)])) : W p l e room_1 s m #[Value.ref sb] below meth c H locs 220 112647 (lw_Z below #[Value.ref sb] s) (F0 m 729 ls []) := by
  obtain ⟨hx, hb, hml, hown, hts, hE, hbs⟩ := id C
  have hbA : ¬ b ≤ sb := by omega
  refine lv_aload_n hx hb dL_law_729 rfl (lv_at hl 2 rfl) ?_
  refine lv_aload_n hx hb dL_law_730 rfl (lv_at hl 3 rfl) ?_
  refine lv_iload_n hx hb dL_law_731 rfl (lv_at hl 0 rfl) ?_
  refine lv_iconst (v := 1) hx hb dL_law_732 (by decide) ?_
  refine lv_iadd hx hb dL_law_733 ?_
  refine m_vi (y := 1) (by decide) ?_
  refine va_sld hx hb hX hbl hbA hM.2 (m_in (by decide)) dL_law_734 ?_
  refine m_vi (y := xs 1) rfl ?_
  refine m_goi (m_runV calV_X11_pays wd_991 (k_x_pays l D kc b f (xs 1) h0 h10 h190) C hM (by decide) h0 rfl hl.1 rfl rfl (Nat.le_of_ble_eq_true rfl) dL_law_735 ⟨Nat.le_of_ble_eq_true rfl, Nat.le_of_ble_eq_true rfl⟩ ⟨Nat.le_of_ble_eq_true rfl, Nat.le_of_ble_eq_true rfl⟩) hM (fun r1 n2 f1 H locs hp hM => ?_)
  obtain ⟨er1, rfl, fr1⟩ : r1 = p_pays (xs 1) ∧ n2 = 220 ∧ ∀ j, 192 ≤ j → f1 j = f j := hp
  refine lv_aload_n hx hb dL_law_738 rfl (lv_at hl 1 rfl) ?_
  refine lv_aload_n hx hb dL_law_739 rfl (lv_at hl 3 rfl) ?_
  refine lv_iload_n hx hb dL_law_740 rfl (lv_at hl 0 rfl) ?_
  refine lv_iconst (v := 1) hx hb dL_law_741 (by decide) ?_
  refine lv_iadd hx hb dL_law_742 ?_
  refine m_vi (y := 1) (by decide) ?_
  refine va_sld hx hb hX hbl hbA hM.2 (m_in (by decide)) dL_law_743 ?_
  refine m_vi (y := xs 1) rfl ?_
  have h192_1 : f1 192 = .inr (13, [.ref (b + 193), .ref (b + 194), .ref (b + 195), .int 0, .int 0, .int 0, .ref (b + 196), .ref (b + 197), .int 0, .int 0, .int 0, .int 0, .int 0, .int 0, .int 0, .int (-1), .ref (b + 198), .ref (b + 199), .ref (b + 200), .ref (b + 201), .ref (b + 202), .ref (b + 203), .ref (b + 204), .ref (b + 205), .ref (b + 206), .ref (b + 207), .ref (b + 208), .int 0, .ref (b + 209), .ref (b + 210), .ref (b + 211), .ref (b + 212), .ref (b + 213), .ref (b + 214), .ref (b + 215), .int 0, .int 0, .int 0, .int 0, .ref (b + 216), .ref (b + 217), .ref (b + 218), .ref (b + 219)]) := (fr1 192 (by decide)).trans h192
  refine m_goi (m_runV calV_X13_pays wd_1474 (k_m_pays l D kc b f1 (xs 1) h192_1) C hM (by decide) h192_1 rfl hl.1 rfl rfl (Nat.le_of_ble_eq_true rfl) dL_law_744 ⟨Nat.le_of_ble_eq_true rfl, Nat.le_of_ble_eq_true rfl⟩ ⟨Nat.le_of_ble_eq_true rfl, Nat.le_of_ble_eq_true rfl⟩) hM (fun r3 n4 f2 H locs hp hM => ?_)
  have er3 : r3 = p_pays (xs 1) := hp
  refine lv_icmp_eq (tgt := 775) hx hb dL_law_747 (by decide) (fun _ => ?_) (fun h => absurd (er1.trans er3.symm) h)
  exact law_tail C hX hbl hsz hr hlk hM hl
set_option maxHeartbeats 4000000 in
set_option maxRecDepth 100000 in
theorem law_case21 {p : Program} {l : Launch} {e : Env} {s : State} {m : MethodId} {below : List Frame} {meth : Method} {c : Code} {D : va_G} {kc : Nat → ClassId} {sb : Nat} {xs : Nat → Int32} {H : Heap} {locs : List Loc} {ls : Array Slot} {b : Nat} {f : Nat → va_E} (C : mC p s m #[Value.ref sb] c code 4 RL D kc b) (hX : va_X sb 6 xs s s.heap) (hbl : sb < s.heap.size) (hsz : s.heap.size = b) (hr : meth.sig.returnType = ret) (hlk : meth.locks = false) (hM : mS D b s 220 f H locs) (hl : lv_has ls 4 [(3, .int 0), (2, .ref (b + 192)), (1, .ref (b + 0)), (0, .ref sb)]) (h0 : f 0 = .inr (11, [.ref (b + 1), .ref (b + 3), .ref (b + 4), .ref (b + 6), .ref (b + 8), .ref (b + 10), .ref (b + 174), .ref (b + 177), .ref (b + 178), .ref (b + 181), .ref (b + 183), .ref (b + 190)])) (h1 : f 1 = .inr (10, [.ref (b + 2), .int 0])) (h4 : f 4 = .inr (8, [.ref (b + 5), .int 0])) (h6 : f 6 = .inr (8, [.ref (b + 7), .int 0])) (h8 : f 8 = .inr (8, [.ref (b + 9), .int 0])) (h10 : f 10 = .inr (5, [.ref (b + 11), .ref (b + 12), .ref (b + 13), .int 0, .int 0, .int 0])) (h12 : f 12 = .inl (kc 1, 3, .inl (mRk))) (h192 : f 192 = .inr (13, [.ref (b + 193), .ref (b + 194), .ref (b + 195), .int 0, .int 0, .int 0, .ref (b + 196), .ref (b + 197), .int 0, .int 0, .int 0, .int 0, .int 0, .int 0, .int 0, .int (-1), .ref (b + 198), .ref (b + 199), .ref (b + 200), .ref (b + 201), .ref (b + 202), .ref (b + 203), .ref (b + 204), .ref (b + 205), .ref (b + 206), .ref (b + 207), .ref (b + 208), .int 0, .ref (b + 209), .ref (b + 210), .ref (b + 211), .ref (b + 212), .ref (b + 213), .ref (b + 214), .ref (b + 215), .int 0, .int 0, .int 0, .int 0, .ref (b + 216), .ref (b + 217), .ref (b + 218), .ref (b + 219)])) (h209 : f 209 = .inl (kc 1, 3, .inl (mRk))) : W p l e room_1 s m #[Value.ref sb] below meth c H locs 220 112647 (lw_Z below #[Value.ref sb] s) (F0 m 752 ls []) := by
  obtain ⟨hx, hb, hml, hown, hts, hE, hbs⟩ := id C
  have hbA : ¬ b ≤ sb := by omega
  refine lv_aload_n hx hb dL_law_752 rfl (lv_at hl 2 rfl) ?_
  refine lv_aload_n hx hb dL_law_753 rfl (lv_at hl 3 rfl) ?_
  refine lv_iload_n hx hb dL_law_754 rfl (lv_at hl 0 rfl) ?_
  refine lv_iconst (v := 1) hx hb dL_law_755 (by decide) ?_
  refine lv_iadd hx hb dL_law_756 ?_
  refine m_vi (y := 1) (by decide) ?_
  refine va_sld hx hb hX hbl hbA hM.2 (m_in (by decide)) dL_law_757 ?_
  refine m_vi (y := xs 1) rfl ?_
  refine m_goi (m_runV calV_X11_count wd_1001 (k_x_count l D kc b f (xs 1) h0 h4 h6 h8 h10 h1 h12) C hM (by decide) h0 rfl hl.1 rfl rfl (Nat.le_of_ble_eq_true rfl) dL_law_758 ⟨Nat.le_of_ble_eq_true rfl, Nat.le_of_ble_eq_true rfl⟩ ⟨Nat.le_of_ble_eq_true rfl, Nat.le_of_ble_eq_true rfl⟩) hM (fun r1 n2 f1 H locs hp hM => ?_)
  obtain ⟨er1, rfl, fr1⟩ : r1 = p_count (xs 1) ∧ n2 = 220 ∧ ∀ j, 192 ≤ j → f1 j = f j := hp
  refine lv_aload_n hx hb dL_law_761 rfl (lv_at hl 1 rfl) ?_
  refine lv_aload_n hx hb dL_law_762 rfl (lv_at hl 3 rfl) ?_
  refine lv_iload_n hx hb dL_law_763 rfl (lv_at hl 0 rfl) ?_
  refine lv_iconst (v := 1) hx hb dL_law_764 (by decide) ?_
  refine lv_iadd hx hb dL_law_765 ?_
  refine m_vi (y := 1) (by decide) ?_
  refine va_sld hx hb hX hbl hbA hM.2 (m_in (by decide)) dL_law_766 ?_
  refine m_vi (y := xs 1) rfl ?_
  have h192_1 : f1 192 = .inr (13, [.ref (b + 193), .ref (b + 194), .ref (b + 195), .int 0, .int 0, .int 0, .ref (b + 196), .ref (b + 197), .int 0, .int 0, .int 0, .int 0, .int 0, .int 0, .int 0, .int (-1), .ref (b + 198), .ref (b + 199), .ref (b + 200), .ref (b + 201), .ref (b + 202), .ref (b + 203), .ref (b + 204), .ref (b + 205), .ref (b + 206), .ref (b + 207), .ref (b + 208), .int 0, .ref (b + 209), .ref (b + 210), .ref (b + 211), .ref (b + 212), .ref (b + 213), .ref (b + 214), .ref (b + 215), .int 0, .int 0, .int 0, .int 0, .ref (b + 216), .ref (b + 217), .ref (b + 218), .ref (b + 219)]) := (fr1 192 (by decide)).trans h192
  have h209_1 : f1 209 = .inl (kc 1, 3, .inl (mRk)) := (fr1 209 (by decide)).trans h209
  refine m_goi (m_runV calV_X13_count wd_1478 (k_m_count l D kc b f1 (xs 1) h192_1 h209_1) C hM (by decide) h192_1 rfl hl.1 rfl rfl (Nat.le_of_ble_eq_true rfl) dL_law_767 ⟨Nat.le_of_ble_eq_true rfl, Nat.le_of_ble_eq_true rfl⟩ ⟨Nat.le_of_ble_eq_true rfl, Nat.le_of_ble_eq_true rfl⟩) hM (fun r3 n4 f2 H locs hp hM => ?_)
  have er3 : r3 = p_count (xs 1) := hp
  refine lv_icmp_eq (tgt := 775) hx hb dL_law_770 (by decide) (fun _ => ?_) (fun h => absurd (er1.trans er3.symm) h)
  exact law_tail C hX hbl hsz hr hlk hM hl
