def hc_feed (Inv : SS → SS → Prop) : Prop := ∀ (S T : SS) (a1 : Int) (a2 : Int) (a3 : Int) (a4 : Int) (a5 : Int), rng S → rng T → i32 a1 → i32 a2 → i32 a3 → i32 a4 → i32 a5 → Inv S T → ∃ (r : Int) (S1 : SS) (t : Int) (T1 : SS), f_MP_feed S a1 a2 a3 a4 a5 = some (r, S1) ∧ f_M_feed T a1 a2 a3 a4 a5 = some (t, T1) ∧ Inv S1 T1
def hc_end (Inv : SS → SS → Prop) : Prop := ∀ (S T : SS) (a1 : Int), rng S → rng T → i32 a1 → Inv S T → ∃ (r : Int) (S1 : SS) (t : Int) (T1 : SS), f_MP_end S a1 = some (r, S1) ∧ f_M_end T a1 = some (t, T1) ∧ Inv S1 T1
def hc_first (Inv : SS → SS → Prop) : Prop := ∀ (S T : SS), rng S → rng T → Inv S T → ∃ (r : Int) (S1 : SS) (t : Int) (T1 : SS), f_MP_first S = some (r, S1) ∧ f_M_first T = some (t, T1) ∧ Inv S1 T1
def hc_second (Inv : SS → SS → Prop) : Prop := ∀ (S T : SS), rng S → rng T → Inv S T → ∃ (r : Int) (S1 : SS) (t : Int) (T1 : SS), f_MP_second S = some (r, S1) ∧ f_M_second T = some (t, T1) ∧ Inv S1 T1
def hc_marks (Inv : SS → SS → Prop) : Prop := ∀ (S T : SS), rng S → rng T → Inv S T → ∃ (r : Int) (S1 : SS) (t : Int) (T1 : SS), f_MP_marks S = some (r, S1) ∧ f_M_marks T = some (t, T1) ∧ Inv S1 T1
def hc_fault (Inv : SS → SS → Prop) : Prop := ∀ (S T : SS) (a1 : Int), rng S → rng T → i32 a1 → Inv S T → ∃ (r : Int) (t : Int), f_MP_fault S a1 = r ∧ f_M_fault T a1 = t ∧ Inv S T
def hc_word (Inv : SS → SS → Prop) : Prop := ∀ (S T : SS) (a1 : Int) (a2 : Int), rng S → rng T → i32 a1 → i32 a2 → Inv S T → ∃ (r : Int64) (t : Int64) (T1 : SS), f_MP_word S a1 a2 = some r ∧ f_M_word T a1 a2 = some (t, T1) ∧ Inv S T1
def hc_mark (Inv : SS → SS → Prop) : Prop := ∀ (S T : SS) (a1 : Int) (a2 : Int), rng S → rng T → i32 a1 → i32 a2 → Inv S T → ∃ (r : Int) (t : Int) (T1 : SS), f_MP_mark S a1 a2 = some r ∧ f_M_mark T a1 a2 = some (t, T1) ∧ Inv S T1
def hc_answer (Inv : SS → SS → Prop) : Prop := ∀ (S T : SS) (a1 : Int) (a2 : Int), rng S → rng T → i32 a1 → i32 a2 → (a2 = 0 ∨ a2 = 1) → Inv S T → ∃ (r : Int) (S1 : SS) (t : Int) (T1 : SS), f_MP_answer S a1 a2 = some (r, S1) ∧ f_M_answer T a1 a2 = some (t, T1) ∧ Inv S1 T1
def hc_rank (Inv : SS → SS → Prop) : Prop := ∀ (S T : SS) (a1 : Int) (a2 : Int), rng S → rng T → i32 a1 → i32 a2 → Inv S T → ∃ (r : Int) (S1 : SS) (t : Int) (T1 : SS), f_MP_rank S a1 a2 = some (r, S1) ∧ f_M_rank T a1 a2 = some (t, T1) ∧ Inv S1 T1
def hc_meet (Inv : SS → SS → Prop) : Prop := ∀ (S T : SS) (a1 : Int) (a2 : Int), rng S → rng T → i32 a1 → i32 a2 → Inv S T → ∃ (r : Int) (t : Int), f_MP_meet S a1 a2 = some r ∧ f_M_meet T a1 a2 = some t ∧ Inv S T
def hc_within (Inv : SS → SS → Prop) : Prop := ∀ (S T : SS) (a1 : Int) (a2 : Int), rng S → rng T → i32 a1 → i32 a2 → Inv S T → ∃ (r : Int) (t : Int), f_MP_within S a1 a2 = some r ∧ f_M_within T a1 a2 = some t ∧ Inv S T
def hc_costs (Inv : SS → SS → Prop) : Prop := ∀ (S T : SS) (a1 : Int) (a2 : Int), rng S → rng T → i32 a1 → i32 a2 → Inv S T → ∃ (r : Int) (S1 : SS) (t : Int) (T1 : SS), f_MP_costs S a1 a2 = some (r, S1) ∧ f_M_costs T a1 a2 = some (t, T1) ∧ Inv S1 T1
def hc_hold (Inv : SS → SS → Prop) : Prop := ∀ (S T : SS), rng S → rng T → Inv S T → ∃ (r : Int) (S1 : SS) (t : Int) (T1 : SS), f_MP_hold S = some (r, S1) ∧ f_M_hold T = some (t, T1) ∧ Inv S1 T1
def hc_held (Inv : SS → SS → Prop) : Prop := ∀ (S T : SS) (a1 : Int), rng S → rng T → i32 a1 → Inv S T → ∃ (r : Int) (t : Int), f_MP_held S a1 = some r ∧ f_M_held T a1 = some t ∧ Inv S T
def hc_unasked (Inv : SS → SS → Prop) : Prop := ∀ (S T : SS) (a1 : Int) (a2 : Int), rng S → rng T → i32 a1 → i32 a2 → Inv S T → ∃ (r : Int) (t : Int), f_MP_unasked S a1 a2 = some r ∧ f_M_unasked T a1 a2 = some t ∧ Inv S T
def hc_distance (Inv : SS → SS → Prop) : Prop := ∀ (S T : SS) (a1 : Int) (a2 : Int), rng S → rng T → i32 a1 → i32 a2 → Inv S T → ∃ (r : Int) (S1 : SS) (t : Int) (T1 : SS), f_MP_distance S a1 a2 = some (r, S1) ∧ f_M_distance T a1 a2 = some (t, T1) ∧ Inv S1 T1 ∧ r = t
def hc_next (Inv : SS → SS → Prop) : Prop := ∀ (S T : SS), rng S → rng T → Inv S T → ∃ (r : Int) (S1 : SS) (t : Int) (T1 : SS), f_MP_next S = some (r, S1) ∧ f_M_next T = some (t, T1) ∧ Inv S1 T1
def hc_error (Inv : SS → SS → Prop) : Prop := ∀ (S T : SS) (a1 : Int) (a2 : Int), rng S → rng T → i32 a1 → i32 a2 → (a2 = 0 ∨ a2 = 1) → Inv S T → ∃ (r : Int) (S1 : SS) (t : Int) (T1 : SS), f_MP_error S a1 a2 = some (r, S1) ∧ f_M_error T a1 a2 = some (t, T1) ∧ Inv S1 T1
def hc_price (Inv : SS → SS → Prop) : Prop := ∀ (S T : SS) (a1 : Int) (a2 : Int), rng S → rng T → i32 a1 → i32 a2 → Inv S T → ∃ (r : Int) (S1 : SS) (t : Int) (T1 : SS), f_MP_price S a1 a2 = some (r, S1) ∧ f_M_price T a1 a2 = some (t, T1) ∧ Inv S1 T1
def hc_pays (Inv : SS → SS → Prop) : Prop := ∀ (S T : SS) (a1 : Int), rng S → rng T → i32 a1 → Inv S T → ∃ (r : Int) (t : Int) (T1 : SS), f_MP_pays S a1 = some r ∧ f_M_pays T a1 = some (t, T1) ∧ Inv S T1
def hc_count (Inv : SS → SS → Prop) : Prop := ∀ (S T : SS) (a1 : Int), rng S → rng T → i32 a1 → Inv S T → ∃ (r : Int) (t : Int) (T1 : SS), f_MP_count S a1 = some r ∧ f_M_count T a1 = some (t, T1) ∧ Inv S T1
set_option maxHeartbeats 4000000 in
set_option maxRecDepth 100000 in
theorem law_case0 {p : Program} {l : Launch} {e : Env} {s : State} {m : MethodId} {below : List Frame} {meth : Method} {c : Code} {D : va_G} {kc : Nat → ClassId} {sb L k : Nat} {xs : Nat → Int32} {H : Heap} {locs : List Loc} {ls : Array Slot} {b : Nat} {S T : SS} {Q : State → Prop} (Inv : SS → SS → Prop) (hc : hc_feed Inv) (C : mC p s m #[Value.ref sb] c code 4 RL D kc b) (hX : va_X sb L xs s s.heap) (hbl : sb < s.heap.size) (hsz : s.heap.size = b) (hk : 6 * k + 6 ≤ L) (hL : L ≤ 3072) (hS : rng S) (hT : rng T) (hI : Inv S T) (hM : mS D b s 220 (jX b kc T S) H locs) (hl : lv_has ls 4 [(3, .int (nI (6 * k))), (2, .ref (b + 192)), (1, .ref (b + 0)), (0, .ref sb)]) (kk : ∀ (S1 T1 : SS) (H1 : Heap) (locs1 : List Loc), rng S1 → rng T1 → Inv S1 T1 → mS D b s 220 (jX b kc T1 S1) H1 locs1 → W p l e room_1 s m #[Value.ref sb] below meth c H1 locs1 220 112647 Q (F0 m 774 ls [])) : W p l e room_1 s m #[Value.ref sb] below meth c H locs 220 112647 Q (F0 m 136 ls []) := by
  obtain ⟨hx, hb, hml, hown, hts, hE, hbs⟩ := id C
  have hbA : ¬ b ≤ sb := by omega
  refine lv_aload_n hx hb dL_law_136 rfl (lv_at hl 2 rfl) ?_
  refine lv_aload_n hx hb dL_law_137 rfl (lv_at hl 3 rfl) ?_
  refine lv_iload_n hx hb dL_law_138 rfl (lv_at hl 0 rfl) ?_
  refine lv_iconst (v := 1) hx hb dL_law_139 (by decide) ?_
  refine lv_iadd hx hb dL_law_140 ?_
  refine m_vi (y := nI (6 * k + 1)) (by rw [show (1 : Int32) = nI 1 from rfl, nI_add]) ?_
  refine va_sld hx hb hX hbl hbA hM.2 (vp_in_nI (by omega) (by omega)) dL_law_141 ?_
  refine m_vi (y := xs (6 * k + 1)) (by rw [nI_clamp (by omega)]) ?_
  refine lv_aload_n hx hb dL_law_142 rfl (lv_at hl 3 rfl) ?_
  refine lv_iload_n hx hb dL_law_143 rfl (lv_at hl 0 rfl) ?_
  refine lv_iconst (v := 2) hx hb dL_law_144 (by decide) ?_
  refine lv_iadd hx hb dL_law_145 ?_
  refine m_vi (y := nI (6 * k + 2)) (by rw [show (2 : Int32) = nI 2 from rfl, nI_add]) ?_
  refine va_sld hx hb hX hbl hbA hM.2 (vp_in_nI (by omega) (by omega)) dL_law_146 ?_
  refine m_vi (y := xs (6 * k + 2)) (by rw [nI_clamp (by omega)]) ?_
  refine lv_aload_n hx hb dL_law_147 rfl (lv_at hl 3 rfl) ?_
  refine lv_iload_n hx hb dL_law_148 rfl (lv_at hl 0 rfl) ?_
  refine lv_iconst (v := 3) hx hb dL_law_149 (by decide) ?_
  refine lv_iadd hx hb dL_law_150 ?_
  refine m_vi (y := nI (6 * k + 3)) (by rw [show (3 : Int32) = nI 3 from rfl, nI_add]) ?_
  refine va_sld hx hb hX hbl hbA hM.2 (vp_in_nI (by omega) (by omega)) dL_law_151 ?_
  refine m_vi (y := xs (6 * k + 3)) (by rw [nI_clamp (by omega)]) ?_
  refine lv_aload_n hx hb dL_law_152 rfl (lv_at hl 3 rfl) ?_
  refine lv_iload_n hx hb dL_law_153 rfl (lv_at hl 0 rfl) ?_
  refine lv_iconst (v := 4) hx hb dL_law_154 (by decide) ?_
  refine lv_iadd hx hb dL_law_155 ?_
  refine m_vi (y := nI (6 * k + 4)) (by rw [show (4 : Int32) = nI 4 from rfl, nI_add]) ?_
  refine va_sld hx hb hX hbl hbA hM.2 (vp_in_nI (by omega) (by omega)) dL_law_156 ?_
  refine m_vi (y := xs (6 * k + 4)) (by rw [nI_clamp (by omega)]) ?_
  refine lv_aload_n hx hb dL_law_157 rfl (lv_at hl 3 rfl) ?_
  refine lv_iload_n hx hb dL_law_158 rfl (lv_at hl 0 rfl) ?_
  refine lv_iconst (v := 5) hx hb dL_law_159 (by decide) ?_
  refine lv_iadd hx hb dL_law_160 ?_
  refine m_vi (y := nI (6 * k + 5)) (by rw [show (5 : Int32) = nI 5 from rfl, nI_add]) ?_
  refine va_sld hx hb hX hbl hbA hM.2 (vp_in_nI (by omega) (by omega)) dL_law_161 ?_
  refine m_vi (y := xs (6 * k + 5)) (by rw [nI_clamp (by omega)]) ?_
  obtain ⟨r, S1, t, T1, ex, ey, hI1⟩ := hc S T ((xs (6 * k + 1)).toInt) ((xs (6 * k + 2)).toInt) ((xs (6 * k + 3)).toInt) ((xs (6 * k + 4)).toInt) ((xs (6 * k + 5)).toInt) hS hT (i32_of (show (xs (6 * k + 1)).toInt = (xs (6 * k + 1)).toInt from rfl)) (i32_of (show (xs (6 * k + 2)).toInt = (xs (6 * k + 2)).toInt from rfl)) (i32_of (show (xs (6 * k + 3)).toInt = (xs (6 * k + 3)).toInt from rfl)) (i32_of (show (xs (6 * k + 4)).toInt = (xs (6 * k + 4)).toInt from rfl)) (i32_of (show (xs (6 * k + 5)).toInt = (xs (6 * k + 5)).toInt from rfl)) hI
  refine g_callI (J := jX b kc T) (m_runV calV_X11_feed wd_437 (g_MP_feed l D kc b T S (xs (6 * k + 1)) ((xs (6 * k + 1)).toInt) rfl (xs (6 * k + 2)) ((xs (6 * k + 2)).toInt) rfl (xs (6 * k + 3)) ((xs (6 * k + 3)).toInt) rfl (xs (6 * k + 4)) ((xs (6 * k + 4)).toInt) rfl (xs (6 * k + 5)) ((xs (6 * k + 5)).toInt) rfl hS ex) C hM (i := 0) (by omega) (e_0 b kc T S) rfl hl.1 rfl rfl (Nat.le_of_ble_eq_true rfl) dL_law_162 ⟨Nat.le_of_ble_eq_true rfl, Nat.le_of_ble_eq_true rfl⟩ ⟨Nat.le_of_ble_eq_true rfl, Nat.le_of_ble_eq_true rfl⟩) hM (fun zx H locs bzx hM hS => ?_)
  refine lv_pop hx hb dL_law_165 rfl ?_
  refine lv_aload_n hx hb dL_law_166 rfl (lv_at hl 1 rfl) ?_
  refine lv_aload_n hx hb dL_law_167 rfl (lv_at hl 3 rfl) ?_
  refine lv_iload_n hx hb dL_law_168 rfl (lv_at hl 0 rfl) ?_
  refine lv_iconst (v := 1) hx hb dL_law_169 (by decide) ?_
  refine lv_iadd hx hb dL_law_170 ?_
  refine m_vi (y := nI (6 * k + 1)) (by rw [show (1 : Int32) = nI 1 from rfl, nI_add]) ?_
  refine va_sld hx hb hX hbl hbA hM.2 (vp_in_nI (by omega) (by omega)) dL_law_171 ?_
  refine m_vi (y := xs (6 * k + 1)) (by rw [nI_clamp (by omega)]) ?_
  refine lv_aload_n hx hb dL_law_172 rfl (lv_at hl 3 rfl) ?_
  refine lv_iload_n hx hb dL_law_173 rfl (lv_at hl 0 rfl) ?_
  refine lv_iconst (v := 2) hx hb dL_law_174 (by decide) ?_
  refine lv_iadd hx hb dL_law_175 ?_
  refine m_vi (y := nI (6 * k + 2)) (by rw [show (2 : Int32) = nI 2 from rfl, nI_add]) ?_
  refine va_sld hx hb hX hbl hbA hM.2 (vp_in_nI (by omega) (by omega)) dL_law_176 ?_
  refine m_vi (y := xs (6 * k + 2)) (by rw [nI_clamp (by omega)]) ?_
  refine lv_aload_n hx hb dL_law_177 rfl (lv_at hl 3 rfl) ?_
  refine lv_iload_n hx hb dL_law_178 rfl (lv_at hl 0 rfl) ?_
  refine lv_iconst (v := 3) hx hb dL_law_179 (by decide) ?_
  refine lv_iadd hx hb dL_law_180 ?_
  refine m_vi (y := nI (6 * k + 3)) (by rw [show (3 : Int32) = nI 3 from rfl, nI_add]) ?_
  refine va_sld hx hb hX hbl hbA hM.2 (vp_in_nI (by omega) (by omega)) dL_law_181 ?_
  refine m_vi (y := xs (6 * k + 3)) (by rw [nI_clamp (by omega)]) ?_
  refine lv_aload_n hx hb dL_law_182 rfl (lv_at hl 3 rfl) ?_
  refine lv_iload_n hx hb dL_law_183 rfl (lv_at hl 0 rfl) ?_
  refine lv_iconst (v := 4) hx hb dL_law_184 (by decide) ?_
  refine lv_iadd hx hb dL_law_185 ?_
  refine m_vi (y := nI (6 * k + 4)) (by rw [show (4 : Int32) = nI 4 from rfl, nI_add]) ?_
  refine va_sld hx hb hX hbl hbA hM.2 (vp_in_nI (by omega) (by omega)) dL_law_186 ?_
  refine m_vi (y := xs (6 * k + 4)) (by rw [nI_clamp (by omega)]) ?_
  refine lv_aload_n hx hb dL_law_187 rfl (lv_at hl 3 rfl) ?_
  refine lv_iload_n hx hb dL_law_188 rfl (lv_at hl 0 rfl) ?_
  refine lv_iconst (v := 5) hx hb dL_law_189 (by decide) ?_
  refine lv_iadd hx hb dL_law_190 ?_
  refine m_vi (y := nI (6 * k + 5)) (by rw [show (5 : Int32) = nI 5 from rfl, nI_add]) ?_
  refine va_sld hx hb hX hbl hbA hM.2 (vp_in_nI (by omega) (by omega)) dL_law_191 ?_
  refine m_vi (y := xs (6 * k + 5)) (by rw [nI_clamp (by omega)]) ?_
  have hM : mS D b s 220 (jM b kc S1 T) _ _ := hM
  refine g_callI (J := jM b kc S1) (m_runV calV_X13_feed wd_1209 (g_M_feed l D kc b S1 T (xs (6 * k + 1)) ((xs (6 * k + 1)).toInt) rfl (xs (6 * k + 2)) ((xs (6 * k + 2)).toInt) rfl (xs (6 * k + 3)) ((xs (6 * k + 3)).toInt) rfl (xs (6 * k + 4)) ((xs (6 * k + 4)).toInt) rfl (xs (6 * k + 5)) ((xs (6 * k + 5)).toInt) rfl hT ey) C hM (i := 192) (by omega) (e_192 b kc S1 T) rfl hl.1 rfl rfl (Nat.le_of_ble_eq_true rfl) dL_law_192 ⟨Nat.le_of_ble_eq_true rfl, Nat.le_of_ble_eq_true rfl⟩ ⟨Nat.le_of_ble_eq_true rfl, Nat.le_of_ble_eq_true rfl⟩) hM (fun zm H locs bzm hM hT => ?_)
  have hM : mS D b s 220 (jX b kc T1 S1) _ _ := hM
  refine lv_pop hx hb dL_law_195 rfl ?_
  refine lv_goto (tgt := 774) hx hb dL_law_196 (by decide) ?_
  exact kk S1 T1 _ _ hS hT hI1 hM
set_option maxHeartbeats 4000000 in
set_option maxRecDepth 100000 in
theorem law_case1 {p : Program} {l : Launch} {e : Env} {s : State} {m : MethodId} {below : List Frame} {meth : Method} {c : Code} {D : va_G} {kc : Nat → ClassId} {sb L k : Nat} {xs : Nat → Int32} {H : Heap} {locs : List Loc} {ls : Array Slot} {b : Nat} {S T : SS} {Q : State → Prop} (Inv : SS → SS → Prop) (hc : hc_end Inv) (C : mC p s m #[Value.ref sb] c code 4 RL D kc b) (hX : va_X sb L xs s s.heap) (hbl : sb < s.heap.size) (hsz : s.heap.size = b) (hk : 6 * k + 6 ≤ L) (hL : L ≤ 3072) (hS : rng S) (hT : rng T) (hI : Inv S T) (hM : mS D b s 220 (jX b kc T S) H locs) (hl : lv_has ls 4 [(3, .int (nI (6 * k))), (2, .ref (b + 192)), (1, .ref (b + 0)), (0, .ref sb)]) (kk : ∀ (S1 T1 : SS) (H1 : Heap) (locs1 : List Loc), rng S1 → rng T1 → Inv S1 T1 → mS D b s 220 (jX b kc T1 S1) H1 locs1 → W p l e room_1 s m #[Value.ref sb] below meth c H1 locs1 220 112647 Q (F0 m 774 ls [])) : W p l e room_1 s m #[Value.ref sb] below meth c H locs 220 112647 Q (F0 m 199 ls []) := by
  obtain ⟨hx, hb, hml, hown, hts, hE, hbs⟩ := id C
  have hbA : ¬ b ≤ sb := by omega
  refine lv_aload_n hx hb dL_law_199 rfl (lv_at hl 2 rfl) ?_
  refine lv_aload_n hx hb dL_law_200 rfl (lv_at hl 3 rfl) ?_
  refine lv_iload_n hx hb dL_law_201 rfl (lv_at hl 0 rfl) ?_
  refine lv_iconst (v := 1) hx hb dL_law_202 (by decide) ?_
  refine lv_iadd hx hb dL_law_203 ?_
  refine m_vi (y := nI (6 * k + 1)) (by rw [show (1 : Int32) = nI 1 from rfl, nI_add]) ?_
  refine va_sld hx hb hX hbl hbA hM.2 (vp_in_nI (by omega) (by omega)) dL_law_204 ?_
  refine m_vi (y := xs (6 * k + 1)) (by rw [nI_clamp (by omega)]) ?_
  obtain ⟨r, S1, t, T1, ex, ey, hI1⟩ := hc S T ((xs (6 * k + 1)).toInt) hS hT (i32_of (show (xs (6 * k + 1)).toInt = (xs (6 * k + 1)).toInt from rfl)) hI
  refine g_callI (J := jX b kc T) (m_runV calV_X11_end wd_445 (g_MP_end l D kc b T S (xs (6 * k + 1)) ((xs (6 * k + 1)).toInt) rfl hS ex) C hM (i := 0) (by omega) (e_0 b kc T S) rfl hl.1 rfl rfl (Nat.le_of_ble_eq_true rfl) dL_law_205 ⟨Nat.le_of_ble_eq_true rfl, Nat.le_of_ble_eq_true rfl⟩ ⟨Nat.le_of_ble_eq_true rfl, Nat.le_of_ble_eq_true rfl⟩) hM (fun zx H locs bzx hM hS => ?_)
  refine lv_pop hx hb dL_law_208 rfl ?_
  refine lv_aload_n hx hb dL_law_209 rfl (lv_at hl 1 rfl) ?_
  refine lv_aload_n hx hb dL_law_210 rfl (lv_at hl 3 rfl) ?_
  refine lv_iload_n hx hb dL_law_211 rfl (lv_at hl 0 rfl) ?_
  refine lv_iconst (v := 1) hx hb dL_law_212 (by decide) ?_
  refine lv_iadd hx hb dL_law_213 ?_
  refine m_vi (y := nI (6 * k + 1)) (by rw [show (1 : Int32) = nI 1 from rfl, nI_add]) ?_
  refine va_sld hx hb hX hbl hbA hM.2 (vp_in_nI (by omega) (by omega)) dL_law_214 ?_
  refine m_vi (y := xs (6 * k + 1)) (by rw [nI_clamp (by omega)]) ?_
  have hM : mS D b s 220 (jM b kc S1 T) _ _ := hM
  refine g_callI (J := jM b kc S1) (m_runV calV_X13_end wd_1217 (g_M_end l D kc b S1 T (xs (6 * k + 1)) ((xs (6 * k + 1)).toInt) rfl hT ey) C hM (i := 192) (by omega) (e_192 b kc S1 T) rfl hl.1 rfl rfl (Nat.le_of_ble_eq_true rfl) dL_law_215 ⟨Nat.le_of_ble_eq_true rfl, Nat.le_of_ble_eq_true rfl⟩ ⟨Nat.le_of_ble_eq_true rfl, Nat.le_of_ble_eq_true rfl⟩) hM (fun zm H locs bzm hM hT => ?_)
  have hM : mS D b s 220 (jX b kc T1 S1) _ _ := hM
  refine lv_pop hx hb dL_law_218 rfl ?_
  refine lv_goto (tgt := 774) hx hb dL_law_219 (by decide) ?_
  exact kk S1 T1 _ _ hS hT hI1 hM
set_option maxHeartbeats 4000000 in
set_option maxRecDepth 100000 in
theorem law_case2 {p : Program} {l : Launch} {e : Env} {s : State} {m : MethodId} {below : List Frame} {meth : Method} {c : Code} {D : va_G} {kc : Nat → ClassId} {sb L k : Nat} {xs : Nat → Int32} {H : Heap} {locs : List Loc} {ls : Array Slot} {b : Nat} {S T : SS} {Q : State → Prop} (Inv : SS → SS → Prop) (hc : hc_first Inv) (C : mC p s m #[Value.ref sb] c code 4 RL D kc b) (hX : va_X sb L xs s s.heap) (hbl : sb < s.heap.size) (hsz : s.heap.size = b) (hk : 6 * k + 6 ≤ L) (hL : L ≤ 3072) (hS : rng S) (hT : rng T) (hI : Inv S T) (hM : mS D b s 220 (jX b kc T S) H locs) (hl : lv_has ls 4 [(3, .int (nI (6 * k))), (2, .ref (b + 192)), (1, .ref (b + 0)), (0, .ref sb)]) (kk : ∀ (S1 T1 : SS) (H1 : Heap) (locs1 : List Loc), rng S1 → rng T1 → Inv S1 T1 → mS D b s 220 (jX b kc T1 S1) H1 locs1 → W p l e room_1 s m #[Value.ref sb] below meth c H1 locs1 220 112647 Q (F0 m 774 ls [])) : W p l e room_1 s m #[Value.ref sb] below meth c H locs 220 112647 Q (F0 m 222 ls []) := by
  obtain ⟨hx, hb, hml, hown, hts, hE, hbs⟩ := id C
  have hbA : ¬ b ≤ sb := by omega
  refine lv_aload_n hx hb dL_law_222 rfl (lv_at hl 2 rfl) ?_
  obtain ⟨r, S1, t, T1, ex, ey, hI1⟩ := hc S T hS hT hI
  refine g_callI (J := jX b kc T) (m_runV calV_X11_first wd_449 (g_MP_first l D kc b T S hS ex) C hM (i := 0) (by omega) (e_0 b kc T S) rfl hl.1 rfl rfl (Nat.le_of_ble_eq_true rfl) dL_law_223 ⟨Nat.le_of_ble_eq_true rfl, Nat.le_of_ble_eq_true rfl⟩ ⟨Nat.le_of_ble_eq_true rfl, Nat.le_of_ble_eq_true rfl⟩) hM (fun zx H locs bzx hM hS => ?_)
  refine lv_pop hx hb dL_law_226 rfl ?_
  refine lv_aload_n hx hb dL_law_227 rfl (lv_at hl 1 rfl) ?_
  have hM : mS D b s 220 (jM b kc S1 T) _ _ := hM
  refine g_callI (J := jM b kc S1) (m_runVW calW_X13_first wd_1224 (g_M_first l D kc b S1 T hT ey) C hM (i := 192) (by omega) (e_192 b kc S1 T) rfl hl.1 rfl rfl (Nat.le_of_ble_eq_true rfl) dL_law_228 ⟨Nat.le_of_ble_eq_true rfl, Nat.le_of_ble_eq_true rfl⟩ ⟨Nat.le_of_ble_eq_true rfl, Nat.le_of_ble_eq_true rfl⟩) hM (fun zm H locs bzm hM hT => ?_)
  have hM : mS D b s 220 (jX b kc T1 S1) _ _ := hM
  refine lv_pop hx hb dL_law_231 rfl ?_
  refine lv_goto (tgt := 774) hx hb dL_law_232 (by decide) ?_
  exact kk S1 T1 _ _ hS hT hI1 hM
set_option maxHeartbeats 4000000 in
set_option maxRecDepth 100000 in
theorem law_case3 {p : Program} {l : Launch} {e : Env} {s : State} {m : MethodId} {below : List Frame} {meth : Method} {c : Code} {D : va_G} {kc : Nat → ClassId} {sb L k : Nat} {xs : Nat → Int32} {H : Heap} {locs : List Loc} {ls : Array Slot} {b : Nat} {S T : SS} {Q : State → Prop} (Inv : SS → SS → Prop) (hc : hc_second Inv) (C : mC p s m #[Value.ref sb] c code 4 RL D kc b) (hX : va_X sb L xs s s.heap) (hbl : sb < s.heap.size) (hsz : s.heap.size = b) (hk : 6 * k + 6 ≤ L) (hL : L ≤ 3072) (hS : rng S) (hT : rng T) (hI : Inv S T) (hM : mS D b s 220 (jX b kc T S) H locs) (hl : lv_has ls 4 [(3, .int (nI (6 * k))), (2, .ref (b + 192)), (1, .ref (b + 0)), (0, .ref sb)]) (kk : ∀ (S1 T1 : SS) (H1 : Heap) (locs1 : List Loc), rng S1 → rng T1 → Inv S1 T1 → mS D b s 220 (jX b kc T1 S1) H1 locs1 → W p l e room_1 s m #[Value.ref sb] below meth c H1 locs1 220 112647 Q (F0 m 774 ls [])) : W p l e room_1 s m #[Value.ref sb] below meth c H locs 220 112647 Q (F0 m 235 ls []) := by
  obtain ⟨hx, hb, hml, hown, hts, hE, hbs⟩ := id C
  have hbA : ¬ b ≤ sb := by omega
  refine lv_aload_n hx hb dL_law_235 rfl (lv_at hl 2 rfl) ?_
  obtain ⟨r, S1, t, T1, ex, ey, hI1⟩ := hc S T hS hT hI
  refine g_callI (J := jX b kc T) (m_runV calV_X11_second wd_696 (g_MP_second l D kc b T S hS ex) C hM (i := 0) (by omega) (e_0 b kc T S) rfl hl.1 rfl rfl (Nat.le_of_ble_eq_true rfl) dL_law_236 ⟨Nat.le_of_ble_eq_true rfl, Nat.le_of_ble_eq_true rfl⟩ ⟨Nat.le_of_ble_eq_true rfl, Nat.le_of_ble_eq_true rfl⟩) hM (fun zx H locs bzx hM hS => ?_)
  refine lv_pop hx hb dL_law_239 rfl ?_
  refine lv_aload_n hx hb dL_law_240 rfl (lv_at hl 1 rfl) ?_
  have hM : mS D b s 220 (jM b kc S1 T) _ _ := hM
  refine g_callI (J := jM b kc S1) (m_runVW calW_X13_second wd_1256 (g_M_second l D kc b S1 T hT ey) C hM (i := 192) (by omega) (e_192 b kc S1 T) rfl hl.1 rfl rfl (Nat.le_of_ble_eq_true rfl) dL_law_241 ⟨Nat.le_of_ble_eq_true rfl, Nat.le_of_ble_eq_true rfl⟩ ⟨Nat.le_of_ble_eq_true rfl, Nat.le_of_ble_eq_true rfl⟩) hM (fun zm H locs bzm hM hT => ?_)
  have hM : mS D b s 220 (jX b kc T1 S1) _ _ := hM
  refine lv_pop hx hb dL_law_244 rfl ?_
  refine lv_goto (tgt := 774) hx hb dL_law_245 (by decide) ?_
  exact kk S1 T1 _ _ hS hT hI1 hM
set_option maxHeartbeats 4000000 in
set_option maxRecDepth 100000 in
theorem law_case4 {p : Program} {l : Launch} {e : Env} {s : State} {m : MethodId} {below : List Frame} {meth : Method} {c : Code} {D : va_G} {kc : Nat → ClassId} {sb L k : Nat} {xs : Nat → Int32} {H : Heap} {locs : List Loc} {ls : Array Slot} {b : Nat} {S T : SS} {Q : State → Prop} (Inv : SS → SS → Prop) (hc : hc_marks Inv) (C : mC p s m #[Value.ref sb] c code 4 RL D kc b) (hX : va_X sb L xs s s.heap) (hbl : sb < s.heap.size) (hsz : s.heap.size = b) (hk : 6 * k + 6 ≤ L) (hL : L ≤ 3072) (hS : rng S) (hT : rng T) (hI : Inv S T) (hM : mS D b s 220 (jX b kc T S) H locs) (hl : lv_has ls 4 [(3, .int (nI (6 * k))), (2, .ref (b + 192)), (1, .ref (b + 0)), (0, .ref sb)]) (kk : ∀ (S1 T1 : SS) (H1 : Heap) (locs1 : List Loc), rng S1 → rng T1 → Inv S1 T1 → mS D b s 220 (jX b kc T1 S1) H1 locs1 → W p l e room_1 s m #[Value.ref sb] below meth c H1 locs1 220 112647 Q (F0 m 774 ls [])) : W p l e room_1 s m #[Value.ref sb] below meth c H locs 220 112647 Q (F0 m 248 ls []) := by
  obtain ⟨hx, hb, hml, hown, hts, hE, hbs⟩ := id C
  have hbA : ¬ b ≤ sb := by omega
  refine lv_aload_n hx hb dL_law_248 rfl (lv_at hl 2 rfl) ?_
  obtain ⟨r, S1, t, T1, ex, ey, hI1⟩ := hc S T hS hT hI
  refine g_callI (J := jX b kc T) (m_runV calV_X11_marks wd_700 (g_MP_marks l D kc b T S hS ex) C hM (i := 0) (by omega) (e_0 b kc T S) rfl hl.1 rfl rfl (Nat.le_of_ble_eq_true rfl) dL_law_249 ⟨Nat.le_of_ble_eq_true rfl, Nat.le_of_ble_eq_true rfl⟩ ⟨Nat.le_of_ble_eq_true rfl, Nat.le_of_ble_eq_true rfl⟩) hM (fun zx H locs bzx hM hS => ?_)
  refine lv_pop hx hb dL_law_252 rfl ?_
  refine lv_aload_n hx hb dL_law_253 rfl (lv_at hl 1 rfl) ?_
  have hM : mS D b s 220 (jM b kc S1 T) _ _ := hM
  refine g_callI (J := jM b kc S1) (m_runVW calW_X13_marks wd_1260 (g_M_marks l D kc b S1 T hT ey) C hM (i := 192) (by omega) (e_192 b kc S1 T) rfl hl.1 rfl rfl (Nat.le_of_ble_eq_true rfl) dL_law_254 ⟨Nat.le_of_ble_eq_true rfl, Nat.le_of_ble_eq_true rfl⟩ ⟨Nat.le_of_ble_eq_true rfl, Nat.le_of_ble_eq_true rfl⟩) hM (fun zm H locs bzm hM hT => ?_)
  have hM : mS D b s 220 (jX b kc T1 S1) _ _ := hM
  refine lv_pop hx hb dL_law_257 rfl ?_
  refine lv_goto (tgt := 774) hx hb dL_law_258 (by decide) ?_
  exact kk S1 T1 _ _ hS hT hI1 hM
set_option maxHeartbeats 4000000 in
set_option maxRecDepth 100000 in
theorem law_case5 {p : Program} {l : Launch} {e : Env} {s : State} {m : MethodId} {below : List Frame} {meth : Method} {c : Code} {D : va_G} {kc : Nat → ClassId} {sb L k : Nat} {xs : Nat → Int32} {H : Heap} {locs : List Loc} {ls : Array Slot} {b : Nat} {S T : SS} {Q : State → Prop} (Inv : SS → SS → Prop) (hc : hc_fault Inv) (C : mC p s m #[Value.ref sb] c code 4 RL D kc b) (hX : va_X sb L xs s s.heap) (hbl : sb < s.heap.size) (hsz : s.heap.size = b) (hk : 6 * k + 6 ≤ L) (hL : L ≤ 3072) (hS : rng S) (hT : rng T) (hI : Inv S T) (hM : mS D b s 220 (jX b kc T S) H locs) (hl : lv_has ls 4 [(3, .int (nI (6 * k))), (2, .ref (b + 192)), (1, .ref (b + 0)), (0, .ref sb)]) (kk : ∀ (S1 T1 : SS) (H1 : Heap) (locs1 : List Loc), rng S1 → rng T1 → Inv S1 T1 → mS D b s 220 (jX b kc T1 S1) H1 locs1 → W p l e room_1 s m #[Value.ref sb] below meth c H1 locs1 220 112647 Q (F0 m 774 ls [])) : W p l e room_1 s m #[Value.ref sb] below meth c H locs 220 112647 Q (F0 m 261 ls []) := by
  obtain ⟨hx, hb, hml, hown, hts, hE, hbs⟩ := id C
  have hbA : ¬ b ≤ sb := by omega
  refine lv_aload_n hx hb dL_law_261 rfl (lv_at hl 2 rfl) ?_
  refine lv_aload_n hx hb dL_law_262 rfl (lv_at hl 3 rfl) ?_
  refine lv_iload_n hx hb dL_law_263 rfl (lv_at hl 0 rfl) ?_
  refine lv_iconst (v := 1) hx hb dL_law_264 (by decide) ?_
  refine lv_iadd hx hb dL_law_265 ?_
  refine m_vi (y := nI (6 * k + 1)) (by rw [show (1 : Int32) = nI 1 from rfl, nI_add]) ?_
  refine va_sld hx hb hX hbl hbA hM.2 (vp_in_nI (by omega) (by omega)) dL_law_266 ?_
  refine m_vi (y := xs (6 * k + 1)) (by rw [nI_clamp (by omega)]) ?_
  obtain ⟨r, t, ex, ey, hI1⟩ := hc S T ((xs (6 * k + 1)).toInt) hS hT (i32_of (show (xs (6 * k + 1)).toInt = (xs (6 * k + 1)).toInt from rfl)) hI
  refine g_callI (J := jX b kc T) (m_runV calV_X11_fault wd_837 (g_MP_fault l D kc b T S (xs (6 * k + 1)) ((xs (6 * k + 1)).toInt) rfl hS ex) C hM (i := 0) (by omega) (e_0 b kc T S) rfl hl.1 rfl rfl (Nat.le_of_ble_eq_true rfl) dL_law_267 ⟨Nat.le_of_ble_eq_true rfl, Nat.le_of_ble_eq_true rfl⟩ ⟨Nat.le_of_ble_eq_true rfl, Nat.le_of_ble_eq_true rfl⟩) hM (fun zx H locs bzx hM hS => ?_)
  refine lv_pop hx hb dL_law_270 rfl ?_
  refine lv_aload_n hx hb dL_law_271 rfl (lv_at hl 1 rfl) ?_
  refine lv_aload_n hx hb dL_law_272 rfl (lv_at hl 3 rfl) ?_
  refine lv_iload_n hx hb dL_law_273 rfl (lv_at hl 0 rfl) ?_
  refine lv_iconst (v := 1) hx hb dL_law_274 (by decide) ?_
  refine lv_iadd hx hb dL_law_275 ?_
  refine m_vi (y := nI (6 * k + 1)) (by rw [show (1 : Int32) = nI 1 from rfl, nI_add]) ?_
  refine va_sld hx hb hX hbl hbA hM.2 (vp_in_nI (by omega) (by omega)) dL_law_276 ?_
  refine m_vi (y := xs (6 * k + 1)) (by rw [nI_clamp (by omega)]) ?_
  have hM : mS D b s 220 (jM b kc S T) _ _ := hM
  refine g_callI (J := jM b kc S) (m_runV calV_X13_fault wd_1302 (g_M_fault l D kc b S T (xs (6 * k + 1)) ((xs (6 * k + 1)).toInt) rfl hT ey) C hM (i := 192) (by omega) (e_192 b kc S T) rfl hl.1 rfl rfl (Nat.le_of_ble_eq_true rfl) dL_law_277 ⟨Nat.le_of_ble_eq_true rfl, Nat.le_of_ble_eq_true rfl⟩ ⟨Nat.le_of_ble_eq_true rfl, Nat.le_of_ble_eq_true rfl⟩) hM (fun zm H locs bzm hM hT => ?_)
  have hM : mS D b s 220 (jX b kc T S) _ _ := hM
  refine lv_pop hx hb dL_law_280 rfl ?_
  refine lv_goto (tgt := 774) hx hb dL_law_281 (by decide) ?_
  exact kk S T _ _ hS hT hI1 hM
set_option maxHeartbeats 4000000 in
set_option maxRecDepth 100000 in
theorem law_case6 {p : Program} {l : Launch} {e : Env} {s : State} {m : MethodId} {below : List Frame} {meth : Method} {c : Code} {D : va_G} {kc : Nat → ClassId} {sb L k : Nat} {xs : Nat → Int32} {H : Heap} {locs : List Loc} {ls : Array Slot} {b : Nat} {S T : SS} {Q : State → Prop} (Inv : SS → SS → Prop) (hc : hc_word Inv) (C : mC p s m #[Value.ref sb] c code 4 RL D kc b) (hX : va_X sb L xs s s.heap) (hbl : sb < s.heap.size) (hsz : s.heap.size = b) (hk : 6 * k + 6 ≤ L) (hL : L ≤ 3072) (hS : rng S) (hT : rng T) (hI : Inv S T) (hM : mS D b s 220 (jX b kc T S) H locs) (hl : lv_has ls 4 [(3, .int (nI (6 * k))), (2, .ref (b + 192)), (1, .ref (b + 0)), (0, .ref sb)]) (kk : ∀ (S1 T1 : SS) (H1 : Heap) (locs1 : List Loc), rng S1 → rng T1 → Inv S1 T1 → mS D b s 220 (jX b kc T1 S1) H1 locs1 → W p l e room_1 s m #[Value.ref sb] below meth c H1 locs1 220 112647 Q (F0 m 774 ls [])) : W p l e room_1 s m #[Value.ref sb] below meth c H locs 220 112647 Q (F0 m 284 ls []) := by
  obtain ⟨hx, hb, hml, hown, hts, hE, hbs⟩ := id C
  have hbA : ¬ b ≤ sb := by omega
  refine lv_aload_n hx hb dL_law_284 rfl (lv_at hl 2 rfl) ?_
  refine lv_aload_n hx hb dL_law_285 rfl (lv_at hl 3 rfl) ?_
  refine lv_iload_n hx hb dL_law_286 rfl (lv_at hl 0 rfl) ?_
  refine lv_iconst (v := 1) hx hb dL_law_287 (by decide) ?_
  refine lv_iadd hx hb dL_law_288 ?_
  refine m_vi (y := nI (6 * k + 1)) (by rw [show (1 : Int32) = nI 1 from rfl, nI_add]) ?_
  refine va_sld hx hb hX hbl hbA hM.2 (vp_in_nI (by omega) (by omega)) dL_law_289 ?_
  refine m_vi (y := xs (6 * k + 1)) (by rw [nI_clamp (by omega)]) ?_
  refine lv_aload_n hx hb dL_law_290 rfl (lv_at hl 3 rfl) ?_
  refine lv_iload_n hx hb dL_law_291 rfl (lv_at hl 0 rfl) ?_
  refine lv_iconst (v := 2) hx hb dL_law_292 (by decide) ?_
  refine lv_iadd hx hb dL_law_293 ?_
  refine m_vi (y := nI (6 * k + 2)) (by rw [show (2 : Int32) = nI 2 from rfl, nI_add]) ?_
  refine va_sld hx hb hX hbl hbA hM.2 (vp_in_nI (by omega) (by omega)) dL_law_294 ?_
  refine m_vi (y := xs (6 * k + 2)) (by rw [nI_clamp (by omega)]) ?_
  obtain ⟨r, t, T1, ex, ey, hI1⟩ := hc S T ((xs (6 * k + 1)).toInt) ((xs (6 * k + 2)).toInt) hS hT (i32_of (show (xs (6 * k + 1)).toInt = (xs (6 * k + 1)).toInt from rfl)) (i32_of (show (xs (6 * k + 2)).toInt = (xs (6 * k + 2)).toInt from rfl)) hI
  refine g_callL (J := jX b kc T) (m_runV calV_X11_word wd_841 (g_MP_word l D kc b T S (xs (6 * k + 1)) ((xs (6 * k + 1)).toInt) rfl (xs (6 * k + 2)) ((xs (6 * k + 2)).toInt) rfl hS ex) C hM (i := 0) (by omega) (e_0 b kc T S) rfl hl.1 rfl rfl (Nat.le_of_ble_eq_true rfl) dL_law_295 ⟨Nat.le_of_ble_eq_true rfl, Nat.le_of_ble_eq_true rfl⟩ ⟨Nat.le_of_ble_eq_true rfl, Nat.le_of_ble_eq_true rfl⟩) hM (fun zx H locs bzx hM hS => ?_)
  refine lv_pop2_2 hx hb dL_law_298 rfl ?_
  refine lv_aload_n hx hb dL_law_299 rfl (lv_at hl 1 rfl) ?_
  refine lv_aload_n hx hb dL_law_300 rfl (lv_at hl 3 rfl) ?_
  refine lv_iload_n hx hb dL_law_301 rfl (lv_at hl 0 rfl) ?_
  refine lv_iconst (v := 1) hx hb dL_law_302 (by decide) ?_
  refine lv_iadd hx hb dL_law_303 ?_
  refine m_vi (y := nI (6 * k + 1)) (by rw [show (1 : Int32) = nI 1 from rfl, nI_add]) ?_
  refine va_sld hx hb hX hbl hbA hM.2 (vp_in_nI (by omega) (by omega)) dL_law_304 ?_
  refine m_vi (y := xs (6 * k + 1)) (by rw [nI_clamp (by omega)]) ?_
  refine lv_aload_n hx hb dL_law_305 rfl (lv_at hl 3 rfl) ?_
  refine lv_iload_n hx hb dL_law_306 rfl (lv_at hl 0 rfl) ?_
  refine lv_iconst (v := 2) hx hb dL_law_307 (by decide) ?_
  refine lv_iadd hx hb dL_law_308 ?_
  refine m_vi (y := nI (6 * k + 2)) (by rw [show (2 : Int32) = nI 2 from rfl, nI_add]) ?_
  refine va_sld hx hb hX hbl hbA hM.2 (vp_in_nI (by omega) (by omega)) dL_law_309 ?_
  refine m_vi (y := xs (6 * k + 2)) (by rw [nI_clamp (by omega)]) ?_
  have hM : mS D b s 220 (jM b kc S T) _ _ := hM
  refine g_callL (J := jM b kc S) (m_runV calV_X13_word wd_1369 (g_M_word l D kc b S T (xs (6 * k + 1)) ((xs (6 * k + 1)).toInt) rfl (xs (6 * k + 2)) ((xs (6 * k + 2)).toInt) rfl hT ey) C hM (i := 192) (by omega) (e_192 b kc S T) rfl hl.1 rfl rfl (Nat.le_of_ble_eq_true rfl) dL_law_310 ⟨Nat.le_of_ble_eq_true rfl, Nat.le_of_ble_eq_true rfl⟩ ⟨Nat.le_of_ble_eq_true rfl, Nat.le_of_ble_eq_true rfl⟩) hM (fun zm H locs bzm hM hT => ?_)
  have hM : mS D b s 220 (jX b kc T1 S) _ _ := hM
  refine lv_pop2_2 hx hb dL_law_313 rfl ?_
  refine lv_goto (tgt := 774) hx hb dL_law_314 (by decide) ?_
  exact kk S T1 _ _ hS hT hI1 hM
set_option maxHeartbeats 4000000 in
set_option maxRecDepth 100000 in
theorem law_case7 {p : Program} {l : Launch} {e : Env} {s : State} {m : MethodId} {below : List Frame} {meth : Method} {c : Code} {D : va_G} {kc : Nat → ClassId} {sb L k : Nat} {xs : Nat → Int32} {H : Heap} {locs : List Loc} {ls : Array Slot} {b : Nat} {S T : SS} {Q : State → Prop} (Inv : SS → SS → Prop) (hc : hc_mark Inv) (C : mC p s m #[Value.ref sb] c code 4 RL D kc b) (hX : va_X sb L xs s s.heap) (hbl : sb < s.heap.size) (hsz : s.heap.size = b) (hk : 6 * k + 6 ≤ L) (hL : L ≤ 3072) (hS : rng S) (hT : rng T) (hI : Inv S T) (hM : mS D b s 220 (jX b kc T S) H locs) (hl : lv_has ls 4 [(3, .int (nI (6 * k))), (2, .ref (b + 192)), (1, .ref (b + 0)), (0, .ref sb)]) (kk : ∀ (S1 T1 : SS) (H1 : Heap) (locs1 : List Loc), rng S1 → rng T1 → Inv S1 T1 → mS D b s 220 (jX b kc T1 S1) H1 locs1 → W p l e room_1 s m #[Value.ref sb] below meth c H1 locs1 220 112647 Q (F0 m 774 ls [])) : W p l e room_1 s m #[Value.ref sb] below meth c H locs 220 112647 Q (F0 m 317 ls []) := by
  obtain ⟨hx, hb, hml, hown, hts, hE, hbs⟩ := id C
  have hbA : ¬ b ≤ sb := by omega
  refine lv_aload_n hx hb dL_law_317 rfl (lv_at hl 2 rfl) ?_
  refine lv_aload_n hx hb dL_law_318 rfl (lv_at hl 3 rfl) ?_
  refine lv_iload_n hx hb dL_law_319 rfl (lv_at hl 0 rfl) ?_
  refine lv_iconst (v := 1) hx hb dL_law_320 (by decide) ?_
  refine lv_iadd hx hb dL_law_321 ?_
  refine m_vi (y := nI (6 * k + 1)) (by rw [show (1 : Int32) = nI 1 from rfl, nI_add]) ?_
  refine va_sld hx hb hX hbl hbA hM.2 (vp_in_nI (by omega) (by omega)) dL_law_322 ?_
  refine m_vi (y := xs (6 * k + 1)) (by rw [nI_clamp (by omega)]) ?_
  refine lv_aload_n hx hb dL_law_323 rfl (lv_at hl 3 rfl) ?_
  refine lv_iload_n hx hb dL_law_324 rfl (lv_at hl 0 rfl) ?_
  refine lv_iconst (v := 2) hx hb dL_law_325 (by decide) ?_
  refine lv_iadd hx hb dL_law_326 ?_
  refine m_vi (y := nI (6 * k + 2)) (by rw [show (2 : Int32) = nI 2 from rfl, nI_add]) ?_
  refine va_sld hx hb hX hbl hbA hM.2 (vp_in_nI (by omega) (by omega)) dL_law_327 ?_
  refine m_vi (y := xs (6 * k + 2)) (by rw [nI_clamp (by omega)]) ?_
  obtain ⟨r, t, T1, ex, ey, hI1⟩ := hc S T ((xs (6 * k + 1)).toInt) ((xs (6 * k + 2)).toInt) hS hT (i32_of (show (xs (6 * k + 1)).toInt = (xs (6 * k + 1)).toInt from rfl)) (i32_of (show (xs (6 * k + 2)).toInt = (xs (6 * k + 2)).toInt from rfl)) hI
  refine g_callI (J := jX b kc T) (m_runV calV_X11_mark wd_850 (g_MP_mark l D kc b T S (xs (6 * k + 1)) ((xs (6 * k + 1)).toInt) rfl (xs (6 * k + 2)) ((xs (6 * k + 2)).toInt) rfl hS ex) C hM (i := 0) (by omega) (e_0 b kc T S) rfl hl.1 rfl rfl (Nat.le_of_ble_eq_true rfl) dL_law_328 ⟨Nat.le_of_ble_eq_true rfl, Nat.le_of_ble_eq_true rfl⟩ ⟨Nat.le_of_ble_eq_true rfl, Nat.le_of_ble_eq_true rfl⟩) hM (fun zx H locs bzx hM hS => ?_)
  refine lv_pop hx hb dL_law_331 rfl ?_
  refine lv_aload_n hx hb dL_law_332 rfl (lv_at hl 1 rfl) ?_
  refine lv_aload_n hx hb dL_law_333 rfl (lv_at hl 3 rfl) ?_
  refine lv_iload_n hx hb dL_law_334 rfl (lv_at hl 0 rfl) ?_
  refine lv_iconst (v := 1) hx hb dL_law_335 (by decide) ?_
  refine lv_iadd hx hb dL_law_336 ?_
  refine m_vi (y := nI (6 * k + 1)) (by rw [show (1 : Int32) = nI 1 from rfl, nI_add]) ?_
  refine va_sld hx hb hX hbl hbA hM.2 (vp_in_nI (by omega) (by omega)) dL_law_337 ?_
  refine m_vi (y := xs (6 * k + 1)) (by rw [nI_clamp (by omega)]) ?_
  refine lv_aload_n hx hb dL_law_338 rfl (lv_at hl 3 rfl) ?_
  refine lv_iload_n hx hb dL_law_339 rfl (lv_at hl 0 rfl) ?_
  refine lv_iconst (v := 2) hx hb dL_law_340 (by decide) ?_
  refine lv_iadd hx hb dL_law_341 ?_
  refine m_vi (y := nI (6 * k + 2)) (by rw [show (2 : Int32) = nI 2 from rfl, nI_add]) ?_
  refine va_sld hx hb hX hbl hbA hM.2 (vp_in_nI (by omega) (by omega)) dL_law_342 ?_
  refine m_vi (y := xs (6 * k + 2)) (by rw [nI_clamp (by omega)]) ?_
  have hM : mS D b s 220 (jM b kc S T) _ _ := hM
  refine g_callI (J := jM b kc S) (m_runV calV_X13_mark wd_1346 (g_M_mark l D kc b S T (xs (6 * k + 1)) ((xs (6 * k + 1)).toInt) rfl (xs (6 * k + 2)) ((xs (6 * k + 2)).toInt) rfl hT ey) C hM (i := 192) (by omega) (e_192 b kc S T) rfl hl.1 rfl rfl (Nat.le_of_ble_eq_true rfl) dL_law_343 ⟨Nat.le_of_ble_eq_true rfl, Nat.le_of_ble_eq_true rfl⟩ ⟨Nat.le_of_ble_eq_true rfl, Nat.le_of_ble_eq_true rfl⟩) hM (fun zm H locs bzm hM hT => ?_)
  have hM : mS D b s 220 (jX b kc T1 S) _ _ := hM
  refine lv_pop hx hb dL_law_346 rfl ?_
  refine lv_goto (tgt := 774) hx hb dL_law_347 (by decide) ?_
  exact kk S T1 _ _ hS hT hI1 hM
set_option maxHeartbeats 4000000 in
set_option maxRecDepth 100000 in
theorem law_case8 {p : Program} {l : Launch} {e : Env} {s : State} {m : MethodId} {below : List Frame} {meth : Method} {c : Code} {D : va_G} {kc : Nat → ClassId} {sb L k : Nat} {xs : Nat → Int32} {H : Heap} {locs : List Loc} {ls : Array Slot} {b : Nat} {S T : SS} {Q : State → Prop} (Inv : SS → SS → Prop) (hc : hc_answer Inv) (C : mC p s m #[Value.ref sb] c code 4 RL D kc b) (hX : va_X sb L xs s s.heap) (hbl : sb < s.heap.size) (hsz : s.heap.size = b) (hk : 6 * k + 6 ≤ L) (hL : L ≤ 3072) (hS : rng S) (hT : rng T) (hI : Inv S T) (hM : mS D b s 220 (jX b kc T S) H locs) (hl : lv_has ls 4 [(3, .int (nI (6 * k))), (2, .ref (b + 192)), (1, .ref (b + 0)), (0, .ref sb)]) (kk : ∀ (S1 T1 : SS) (H1 : Heap) (locs1 : List Loc), rng S1 → rng T1 → Inv S1 T1 → mS D b s 220 (jX b kc T1 S1) H1 locs1 → W p l e room_1 s m #[Value.ref sb] below meth c H1 locs1 220 112647 Q (F0 m 774 ls [])) : W p l e room_1 s m #[Value.ref sb] below meth c H locs 220 112647 Q (F0 m 350 ls []) := by
  obtain ⟨hx, hb, hml, hown, hts, hE, hbs⟩ := id C
  have hbA : ¬ b ≤ sb := by omega
  refine lv_aload_n hx hb dL_law_350 rfl (lv_at hl 2 rfl) ?_
  refine lv_aload_n hx hb dL_law_351 rfl (lv_at hl 3 rfl) ?_
  refine lv_iload_n hx hb dL_law_352 rfl (lv_at hl 0 rfl) ?_
  refine lv_iconst (v := 1) hx hb dL_law_353 (by decide) ?_
  refine lv_iadd hx hb dL_law_354 ?_
  refine m_vi (y := nI (6 * k + 1)) (by rw [show (1 : Int32) = nI 1 from rfl, nI_add]) ?_
  refine va_sld hx hb hX hbl hbA hM.2 (vp_in_nI (by omega) (by omega)) dL_law_355 ?_
  refine m_vi (y := xs (6 * k + 1)) (by rw [nI_clamp (by omega)]) ?_
  refine lv_aload_n hx hb dL_law_356 rfl (lv_at hl 3 rfl) ?_
  refine lv_iload_n hx hb dL_law_357 rfl (lv_at hl 0 rfl) ?_
  refine lv_iconst (v := 2) hx hb dL_law_358 (by decide) ?_
  refine lv_iadd hx hb dL_law_359 ?_
  refine m_vi (y := nI (6 * k + 2)) (by rw [show (2 : Int32) = nI 2 from rfl, nI_add]) ?_
  refine va_sld hx hb hX hbl hbA hM.2 (vp_in_nI (by omega) (by omega)) dL_law_360 ?_
  refine m_vi (y := xs (6 * k + 2)) (by rw [nI_clamp (by omega)]) ?_
  refine t_if_eq (tgt := 368) (a := (xs (6 * k + 2)).toInt) hx hb rfl dL_law_361 (by decide) (fun cz => ?_) (fun cz => ?_)
  · refine lv_iconst (v := 0) hx hb dL_law_368 (by decide) ?_
    obtain ⟨r, S1, t, T1, ex, ey, hI1⟩ := hc S T ((xs (6 * k + 1)).toInt) (0) hS hT (i32_of (show (xs (6 * k + 1)).toInt = (xs (6 * k + 1)).toInt from rfl)) (i32_of (show (0 : Int32).toInt = 0 by decide)) (by decide) hI
    refine g_callI (J := jX b kc T) (m_runV calV_X11_answer wd_868 (g_MP_answer l D kc b T S (xs (6 * k + 1)) ((xs (6 * k + 1)).toInt) rfl (0) (0) (show (0 : Int32).toInt = 0 by decide) hS ex) C hM (i := 0) (by omega) (e_0 b kc T S) rfl hl.1 rfl rfl (Nat.le_of_ble_eq_true rfl) dL_law_369 ⟨Nat.le_of_ble_eq_true rfl, Nat.le_of_ble_eq_true rfl⟩ ⟨Nat.le_of_ble_eq_true rfl, Nat.le_of_ble_eq_true rfl⟩) hM (fun zx H locs bzx hM hS => ?_)
    refine lv_pop hx hb dL_law_372 rfl ?_
    refine lv_aload_n hx hb dL_law_373 rfl (lv_at hl 1 rfl) ?_
    refine lv_aload_n hx hb dL_law_374 rfl (lv_at hl 3 rfl) ?_
    refine lv_iload_n hx hb dL_law_375 rfl (lv_at hl 0 rfl) ?_
    refine lv_iconst (v := 1) hx hb dL_law_376 (by decide) ?_
    refine lv_iadd hx hb dL_law_377 ?_
    refine m_vi (y := nI (6 * k + 1)) (by rw [show (1 : Int32) = nI 1 from rfl, nI_add]) ?_
    refine va_sld hx hb hX hbl hbA hM.2 (vp_in_nI (by omega) (by omega)) dL_law_378 ?_
    refine m_vi (y := xs (6 * k + 1)) (by rw [nI_clamp (by omega)]) ?_
    refine lv_aload_n hx hb dL_law_379 rfl (lv_at hl 3 rfl) ?_
    refine lv_iload_n hx hb dL_law_380 rfl (lv_at hl 0 rfl) ?_
    refine lv_iconst (v := 2) hx hb dL_law_381 (by decide) ?_
    refine lv_iadd hx hb dL_law_382 ?_
    refine m_vi (y := nI (6 * k + 2)) (by rw [show (2 : Int32) = nI 2 from rfl, nI_add]) ?_
    refine va_sld hx hb hX hbl hbA hM.2 (vp_in_nI (by omega) (by omega)) dL_law_383 ?_
    refine m_vi (y := xs (6 * k + 2)) (by rw [nI_clamp (by omega)]) ?_
    refine t_if_eq (tgt := 391) (a := (xs (6 * k + 2)).toInt) hx hb rfl dL_law_384 (by decide) (fun _ => ?_) (fun cy => absurd cz cy)
    refine lv_iconst (v := 0) hx hb dL_law_391 (by decide) ?_
    have hM : mS D b s 220 (jM b kc S1 T) _ _ := hM
    refine g_callI (J := jM b kc S1) (m_runV calV_X13_answer wd_1360 (g_M_answer l D kc b S1 T (xs (6 * k + 1)) ((xs (6 * k + 1)).toInt) rfl (0) (0) (show (0 : Int32).toInt = 0 by decide) hT ey) C hM (i := 192) (by omega) (e_192 b kc S1 T) rfl hl.1 rfl rfl (Nat.le_of_ble_eq_true rfl) dL_law_392 ⟨Nat.le_of_ble_eq_true rfl, Nat.le_of_ble_eq_true rfl⟩ ⟨Nat.le_of_ble_eq_true rfl, Nat.le_of_ble_eq_true rfl⟩) hM (fun zm H locs bzm hM hT => ?_)
    have hM : mS D b s 220 (jX b kc T1 S1) _ _ := hM
    refine lv_pop hx hb dL_law_395 rfl ?_
    refine lv_goto (tgt := 774) hx hb dL_law_396 (by decide) ?_
    exact kk S1 T1 _ _ hS hT hI1 hM
  · refine lv_iconst (v := 1) hx hb dL_law_364 (by decide) ?_
    refine lv_goto (tgt := 369) hx hb dL_law_365 (by decide) ?_
    obtain ⟨r, S1, t, T1, ex, ey, hI1⟩ := hc S T ((xs (6 * k + 1)).toInt) (1) hS hT (i32_of (show (xs (6 * k + 1)).toInt = (xs (6 * k + 1)).toInt from rfl)) (i32_of (show (1 : Int32).toInt = 1 by decide)) (by decide) hI
    refine g_callI (J := jX b kc T) (m_runV calV_X11_answer wd_868 (g_MP_answer l D kc b T S (xs (6 * k + 1)) ((xs (6 * k + 1)).toInt) rfl (1) (1) (show (1 : Int32).toInt = 1 by decide) hS ex) C hM (i := 0) (by omega) (e_0 b kc T S) rfl hl.1 rfl rfl (Nat.le_of_ble_eq_true rfl) dL_law_369 ⟨Nat.le_of_ble_eq_true rfl, Nat.le_of_ble_eq_true rfl⟩ ⟨Nat.le_of_ble_eq_true rfl, Nat.le_of_ble_eq_true rfl⟩) hM (fun zx H locs bzx hM hS => ?_)
    refine lv_pop hx hb dL_law_372 rfl ?_
    refine lv_aload_n hx hb dL_law_373 rfl (lv_at hl 1 rfl) ?_
    refine lv_aload_n hx hb dL_law_374 rfl (lv_at hl 3 rfl) ?_
    refine lv_iload_n hx hb dL_law_375 rfl (lv_at hl 0 rfl) ?_
    refine lv_iconst (v := 1) hx hb dL_law_376 (by decide) ?_
    refine lv_iadd hx hb dL_law_377 ?_
    refine m_vi (y := nI (6 * k + 1)) (by rw [show (1 : Int32) = nI 1 from rfl, nI_add]) ?_
    refine va_sld hx hb hX hbl hbA hM.2 (vp_in_nI (by omega) (by omega)) dL_law_378 ?_
    refine m_vi (y := xs (6 * k + 1)) (by rw [nI_clamp (by omega)]) ?_
    refine lv_aload_n hx hb dL_law_379 rfl (lv_at hl 3 rfl) ?_
    refine lv_iload_n hx hb dL_law_380 rfl (lv_at hl 0 rfl) ?_
    refine lv_iconst (v := 2) hx hb dL_law_381 (by decide) ?_
    refine lv_iadd hx hb dL_law_382 ?_
    refine m_vi (y := nI (6 * k + 2)) (by rw [show (2 : Int32) = nI 2 from rfl, nI_add]) ?_
    refine va_sld hx hb hX hbl hbA hM.2 (vp_in_nI (by omega) (by omega)) dL_law_383 ?_
    refine m_vi (y := xs (6 * k + 2)) (by rw [nI_clamp (by omega)]) ?_
    refine t_if_eq (tgt := 391) (a := (xs (6 * k + 2)).toInt) hx hb rfl dL_law_384 (by decide) (fun cy => absurd cy cz) (fun _ => ?_)
    refine lv_iconst (v := 1) hx hb dL_law_387 (by decide) ?_
    refine lv_goto (tgt := 392) hx hb dL_law_388 (by decide) ?_
    have hM : mS D b s 220 (jM b kc S1 T) _ _ := hM
    refine g_callI (J := jM b kc S1) (m_runV calV_X13_answer wd_1360 (g_M_answer l D kc b S1 T (xs (6 * k + 1)) ((xs (6 * k + 1)).toInt) rfl (1) (1) (show (1 : Int32).toInt = 1 by decide) hT ey) C hM (i := 192) (by omega) (e_192 b kc S1 T) rfl hl.1 rfl rfl (Nat.le_of_ble_eq_true rfl) dL_law_392 ⟨Nat.le_of_ble_eq_true rfl, Nat.le_of_ble_eq_true rfl⟩ ⟨Nat.le_of_ble_eq_true rfl, Nat.le_of_ble_eq_true rfl⟩) hM (fun zm H locs bzm hM hT => ?_)
    have hM : mS D b s 220 (jX b kc T1 S1) _ _ := hM
    refine lv_pop hx hb dL_law_395 rfl ?_
    refine lv_goto (tgt := 774) hx hb dL_law_396 (by decide) ?_
    exact kk S1 T1 _ _ hS hT hI1 hM
set_option maxHeartbeats 4000000 in
set_option maxRecDepth 100000 in
theorem law_case9 {p : Program} {l : Launch} {e : Env} {s : State} {m : MethodId} {below : List Frame} {meth : Method} {c : Code} {D : va_G} {kc : Nat → ClassId} {sb L k : Nat} {xs : Nat → Int32} {H : Heap} {locs : List Loc} {ls : Array Slot} {b : Nat} {S T : SS} {Q : State → Prop} (Inv : SS → SS → Prop) (hc : hc_rank Inv) (C : mC p s m #[Value.ref sb] c code 4 RL D kc b) (hX : va_X sb L xs s s.heap) (hbl : sb < s.heap.size) (hsz : s.heap.size = b) (hk : 6 * k + 6 ≤ L) (hL : L ≤ 3072) (hS : rng S) (hT : rng T) (hI : Inv S T) (hM : mS D b s 220 (jX b kc T S) H locs) (hl : lv_has ls 4 [(3, .int (nI (6 * k))), (2, .ref (b + 192)), (1, .ref (b + 0)), (0, .ref sb)]) (kk : ∀ (S1 T1 : SS) (H1 : Heap) (locs1 : List Loc), rng S1 → rng T1 → Inv S1 T1 → mS D b s 220 (jX b kc T1 S1) H1 locs1 → W p l e room_1 s m #[Value.ref sb] below meth c H1 locs1 220 112647 Q (F0 m 774 ls [])) : W p l e room_1 s m #[Value.ref sb] below meth c H locs 220 112647 Q (F0 m 399 ls []) := by
  obtain ⟨hx, hb, hml, hown, hts, hE, hbs⟩ := id C
  have hbA : ¬ b ≤ sb := by omega
  refine lv_aload_n hx hb dL_law_399 rfl (lv_at hl 2 rfl) ?_
  refine lv_aload_n hx hb dL_law_400 rfl (lv_at hl 3 rfl) ?_
  refine lv_iload_n hx hb dL_law_401 rfl (lv_at hl 0 rfl) ?_
  refine lv_iconst (v := 1) hx hb dL_law_402 (by decide) ?_
  refine lv_iadd hx hb dL_law_403 ?_
  refine m_vi (y := nI (6 * k + 1)) (by rw [show (1 : Int32) = nI 1 from rfl, nI_add]) ?_
  refine va_sld hx hb hX hbl hbA hM.2 (vp_in_nI (by omega) (by omega)) dL_law_404 ?_
  refine m_vi (y := xs (6 * k + 1)) (by rw [nI_clamp (by omega)]) ?_
  refine lv_aload_n hx hb dL_law_405 rfl (lv_at hl 3 rfl) ?_
  refine lv_iload_n hx hb dL_law_406 rfl (lv_at hl 0 rfl) ?_
  refine lv_iconst (v := 2) hx hb dL_law_407 (by decide) ?_
  refine lv_iadd hx hb dL_law_408 ?_
  refine m_vi (y := nI (6 * k + 2)) (by rw [show (2 : Int32) = nI 2 from rfl, nI_add]) ?_
  refine va_sld hx hb hX hbl hbA hM.2 (vp_in_nI (by omega) (by omega)) dL_law_409 ?_
  refine m_vi (y := xs (6 * k + 2)) (by rw [nI_clamp (by omega)]) ?_
  obtain ⟨r, S1, t, T1, ex, ey, hI1⟩ := hc S T ((xs (6 * k + 1)).toInt) ((xs (6 * k + 2)).toInt) hS hT (i32_of (show (xs (6 * k + 1)).toInt = (xs (6 * k + 1)).toInt from rfl)) (i32_of (show (xs (6 * k + 2)).toInt = (xs (6 * k + 2)).toInt from rfl)) hI
  refine g_callI (J := jX b kc T) (m_runV calV_X11_rank wd_872 (g_MP_rank l D kc b T S (xs (6 * k + 1)) ((xs (6 * k + 1)).toInt) rfl (xs (6 * k + 2)) ((xs (6 * k + 2)).toInt) rfl hS ex) C hM (i := 0) (by omega) (e_0 b kc T S) rfl hl.1 rfl rfl (Nat.le_of_ble_eq_true rfl) dL_law_410 ⟨Nat.le_of_ble_eq_true rfl, Nat.le_of_ble_eq_true rfl⟩ ⟨Nat.le_of_ble_eq_true rfl, Nat.le_of_ble_eq_true rfl⟩) hM (fun zx H locs bzx hM hS => ?_)
  refine lv_pop hx hb dL_law_413 rfl ?_
  refine lv_aload_n hx hb dL_law_414 rfl (lv_at hl 1 rfl) ?_
  refine lv_aload_n hx hb dL_law_415 rfl (lv_at hl 3 rfl) ?_
  refine lv_iload_n hx hb dL_law_416 rfl (lv_at hl 0 rfl) ?_
  refine lv_iconst (v := 1) hx hb dL_law_417 (by decide) ?_
  refine lv_iadd hx hb dL_law_418 ?_
  refine m_vi (y := nI (6 * k + 1)) (by rw [show (1 : Int32) = nI 1 from rfl, nI_add]) ?_
  refine va_sld hx hb hX hbl hbA hM.2 (vp_in_nI (by omega) (by omega)) dL_law_419 ?_
  refine m_vi (y := xs (6 * k + 1)) (by rw [nI_clamp (by omega)]) ?_
  refine lv_aload_n hx hb dL_law_420 rfl (lv_at hl 3 rfl) ?_
  refine lv_iload_n hx hb dL_law_421 rfl (lv_at hl 0 rfl) ?_
  refine lv_iconst (v := 2) hx hb dL_law_422 (by decide) ?_
  refine lv_iadd hx hb dL_law_423 ?_
  refine m_vi (y := nI (6 * k + 2)) (by rw [show (2 : Int32) = nI 2 from rfl, nI_add]) ?_
  refine va_sld hx hb hX hbl hbA hM.2 (vp_in_nI (by omega) (by omega)) dL_law_424 ?_
  refine m_vi (y := xs (6 * k + 2)) (by rw [nI_clamp (by omega)]) ?_
  have hM : mS D b s 220 (jM b kc S1 T) _ _ := hM
  refine g_callI (J := jM b kc S1) (m_runV calV_X13_rank wd_1364 (g_M_rank l D kc b S1 T (xs (6 * k + 1)) ((xs (6 * k + 1)).toInt) rfl (xs (6 * k + 2)) ((xs (6 * k + 2)).toInt) rfl hT ey) C hM (i := 192) (by omega) (e_192 b kc S1 T) rfl hl.1 rfl rfl (Nat.le_of_ble_eq_true rfl) dL_law_425 ⟨Nat.le_of_ble_eq_true rfl, Nat.le_of_ble_eq_true rfl⟩ ⟨Nat.le_of_ble_eq_true rfl, Nat.le_of_ble_eq_true rfl⟩) hM (fun zm H locs bzm hM hT => ?_)
  have hM : mS D b s 220 (jX b kc T1 S1) _ _ := hM
  refine lv_pop hx hb dL_law_428 rfl ?_
  refine lv_goto (tgt := 774) hx hb dL_law_429 (by decide) ?_
  exact kk S1 T1 _ _ hS hT hI1 hM
set_option maxHeartbeats 4000000 in
set_option maxRecDepth 100000 in
theorem law_case10 {p : Program} {l : Launch} {e : Env} {s : State} {m : MethodId} {below : List Frame} {meth : Method} {c : Code} {D : va_G} {kc : Nat → ClassId} {sb L k : Nat} {xs : Nat → Int32} {H : Heap} {locs : List Loc} {ls : Array Slot} {b : Nat} {S T : SS} {Q : State → Prop} (Inv : SS → SS → Prop) (hc : hc_meet Inv) (C : mC p s m #[Value.ref sb] c code 4 RL D kc b) (hX : va_X sb L xs s s.heap) (hbl : sb < s.heap.size) (hsz : s.heap.size = b) (hk : 6 * k + 6 ≤ L) (hL : L ≤ 3072) (hS : rng S) (hT : rng T) (hI : Inv S T) (hM : mS D b s 220 (jX b kc T S) H locs) (hl : lv_has ls 4 [(3, .int (nI (6 * k))), (2, .ref (b + 192)), (1, .ref (b + 0)), (0, .ref sb)]) (kk : ∀ (S1 T1 : SS) (H1 : Heap) (locs1 : List Loc), rng S1 → rng T1 → Inv S1 T1 → mS D b s 220 (jX b kc T1 S1) H1 locs1 → W p l e room_1 s m #[Value.ref sb] below meth c H1 locs1 220 112647 Q (F0 m 774 ls [])) : W p l e room_1 s m #[Value.ref sb] below meth c H locs 220 112647 Q (F0 m 432 ls []) := by
  obtain ⟨hx, hb, hml, hown, hts, hE, hbs⟩ := id C
  have hbA : ¬ b ≤ sb := by omega
  refine lv_aload_n hx hb dL_law_432 rfl (lv_at hl 2 rfl) ?_
  refine lv_aload_n hx hb dL_law_433 rfl (lv_at hl 3 rfl) ?_
  refine lv_iload_n hx hb dL_law_434 rfl (lv_at hl 0 rfl) ?_
  refine lv_iconst (v := 1) hx hb dL_law_435 (by decide) ?_
  refine lv_iadd hx hb dL_law_436 ?_
  refine m_vi (y := nI (6 * k + 1)) (by rw [show (1 : Int32) = nI 1 from rfl, nI_add]) ?_
  refine va_sld hx hb hX hbl hbA hM.2 (vp_in_nI (by omega) (by omega)) dL_law_437 ?_
  refine m_vi (y := xs (6 * k + 1)) (by rw [nI_clamp (by omega)]) ?_
  refine lv_aload_n hx hb dL_law_438 rfl (lv_at hl 3 rfl) ?_
  refine lv_iload_n hx hb dL_law_439 rfl (lv_at hl 0 rfl) ?_
  refine lv_iconst (v := 2) hx hb dL_law_440 (by decide) ?_
  refine lv_iadd hx hb dL_law_441 ?_
  refine m_vi (y := nI (6 * k + 2)) (by rw [show (2 : Int32) = nI 2 from rfl, nI_add]) ?_
  refine va_sld hx hb hX hbl hbA hM.2 (vp_in_nI (by omega) (by omega)) dL_law_442 ?_
  refine m_vi (y := xs (6 * k + 2)) (by rw [nI_clamp (by omega)]) ?_
  obtain ⟨r, t, ex, ey, hI1⟩ := hc S T ((xs (6 * k + 1)).toInt) ((xs (6 * k + 2)).toInt) hS hT (i32_of (show (xs (6 * k + 1)).toInt = (xs (6 * k + 1)).toInt from rfl)) (i32_of (show (xs (6 * k + 2)).toInt = (xs (6 * k + 2)).toInt from rfl)) hI
  refine g_callI (J := jX b kc T) (m_runV calV_X11_meet wd_877 (g_MP_meet l D kc b T S (xs (6 * k + 1)) ((xs (6 * k + 1)).toInt) rfl (xs (6 * k + 2)) ((xs (6 * k + 2)).toInt) rfl hS ex) C hM (i := 0) (by omega) (e_0 b kc T S) rfl hl.1 rfl rfl (Nat.le_of_ble_eq_true rfl) dL_law_443 ⟨Nat.le_of_ble_eq_true rfl, Nat.le_of_ble_eq_true rfl⟩ ⟨Nat.le_of_ble_eq_true rfl, Nat.le_of_ble_eq_true rfl⟩) hM (fun zx H locs bzx hM hS => ?_)
  refine lv_pop hx hb dL_law_446 rfl ?_
  refine lv_aload_n hx hb dL_law_447 rfl (lv_at hl 1 rfl) ?_
  refine lv_aload_n hx hb dL_law_448 rfl (lv_at hl 3 rfl) ?_
  refine lv_iload_n hx hb dL_law_449 rfl (lv_at hl 0 rfl) ?_
  refine lv_iconst (v := 1) hx hb dL_law_450 (by decide) ?_
  refine lv_iadd hx hb dL_law_451 ?_
  refine m_vi (y := nI (6 * k + 1)) (by rw [show (1 : Int32) = nI 1 from rfl, nI_add]) ?_
  refine va_sld hx hb hX hbl hbA hM.2 (vp_in_nI (by omega) (by omega)) dL_law_452 ?_
  refine m_vi (y := xs (6 * k + 1)) (by rw [nI_clamp (by omega)]) ?_
  refine lv_aload_n hx hb dL_law_453 rfl (lv_at hl 3 rfl) ?_
  refine lv_iload_n hx hb dL_law_454 rfl (lv_at hl 0 rfl) ?_
  refine lv_iconst (v := 2) hx hb dL_law_455 (by decide) ?_
  refine lv_iadd hx hb dL_law_456 ?_
  refine m_vi (y := nI (6 * k + 2)) (by rw [show (2 : Int32) = nI 2 from rfl, nI_add]) ?_
  refine va_sld hx hb hX hbl hbA hM.2 (vp_in_nI (by omega) (by omega)) dL_law_457 ?_
  refine m_vi (y := xs (6 * k + 2)) (by rw [nI_clamp (by omega)]) ?_
  have hM : mS D b s 220 (jM b kc S T) _ _ := hM
  refine g_callI (J := jM b kc S) (m_runV calV_X13_meet wd_1306 (g_M_meet l D kc b S T (xs (6 * k + 1)) ((xs (6 * k + 1)).toInt) rfl (xs (6 * k + 2)) ((xs (6 * k + 2)).toInt) rfl hT ey) C hM (i := 192) (by omega) (e_192 b kc S T) rfl hl.1 rfl rfl (Nat.le_of_ble_eq_true rfl) dL_law_458 ⟨Nat.le_of_ble_eq_true rfl, Nat.le_of_ble_eq_true rfl⟩ ⟨Nat.le_of_ble_eq_true rfl, Nat.le_of_ble_eq_true rfl⟩) hM (fun zm H locs bzm hM hT => ?_)
  have hM : mS D b s 220 (jX b kc T S) _ _ := hM
  refine lv_pop hx hb dL_law_461 rfl ?_
  refine lv_goto (tgt := 774) hx hb dL_law_462 (by decide) ?_
  exact kk S T _ _ hS hT hI1 hM
set_option maxHeartbeats 4000000 in
set_option maxRecDepth 100000 in
theorem law_case11 {p : Program} {l : Launch} {e : Env} {s : State} {m : MethodId} {below : List Frame} {meth : Method} {c : Code} {D : va_G} {kc : Nat → ClassId} {sb L k : Nat} {xs : Nat → Int32} {H : Heap} {locs : List Loc} {ls : Array Slot} {b : Nat} {S T : SS} {Q : State → Prop} (Inv : SS → SS → Prop) (hc : hc_within Inv) (C : mC p s m #[Value.ref sb] c code 4 RL D kc b) (hX : va_X sb L xs s s.heap) (hbl : sb < s.heap.size) (hsz : s.heap.size = b) (hk : 6 * k + 6 ≤ L) (hL : L ≤ 3072) (hS : rng S) (hT : rng T) (hI : Inv S T) (hM : mS D b s 220 (jX b kc T S) H locs) (hl : lv_has ls 4 [(3, .int (nI (6 * k))), (2, .ref (b + 192)), (1, .ref (b + 0)), (0, .ref sb)]) (kk : ∀ (S1 T1 : SS) (H1 : Heap) (locs1 : List Loc), rng S1 → rng T1 → Inv S1 T1 → mS D b s 220 (jX b kc T1 S1) H1 locs1 → W p l e room_1 s m #[Value.ref sb] below meth c H1 locs1 220 112647 Q (F0 m 774 ls [])) : W p l e room_1 s m #[Value.ref sb] below meth c H locs 220 112647 Q (F0 m 465 ls []) := by
  obtain ⟨hx, hb, hml, hown, hts, hE, hbs⟩ := id C
  have hbA : ¬ b ≤ sb := by omega
  refine lv_aload_n hx hb dL_law_465 rfl (lv_at hl 2 rfl) ?_
  refine lv_aload_n hx hb dL_law_466 rfl (lv_at hl 3 rfl) ?_
  refine lv_iload_n hx hb dL_law_467 rfl (lv_at hl 0 rfl) ?_
  refine lv_iconst (v := 1) hx hb dL_law_468 (by decide) ?_
  refine lv_iadd hx hb dL_law_469 ?_
  refine m_vi (y := nI (6 * k + 1)) (by rw [show (1 : Int32) = nI 1 from rfl, nI_add]) ?_
  refine va_sld hx hb hX hbl hbA hM.2 (vp_in_nI (by omega) (by omega)) dL_law_470 ?_
  refine m_vi (y := xs (6 * k + 1)) (by rw [nI_clamp (by omega)]) ?_
  refine lv_aload_n hx hb dL_law_471 rfl (lv_at hl 3 rfl) ?_
  refine lv_iload_n hx hb dL_law_472 rfl (lv_at hl 0 rfl) ?_
  refine lv_iconst (v := 2) hx hb dL_law_473 (by decide) ?_
  refine lv_iadd hx hb dL_law_474 ?_
  refine m_vi (y := nI (6 * k + 2)) (by rw [show (2 : Int32) = nI 2 from rfl, nI_add]) ?_
  refine va_sld hx hb hX hbl hbA hM.2 (vp_in_nI (by omega) (by omega)) dL_law_475 ?_
  refine m_vi (y := xs (6 * k + 2)) (by rw [nI_clamp (by omega)]) ?_
  obtain ⟨r, t, ex, ey, hI1⟩ := hc S T ((xs (6 * k + 1)).toInt) ((xs (6 * k + 2)).toInt) hS hT (i32_of (show (xs (6 * k + 1)).toInt = (xs (6 * k + 1)).toInt from rfl)) (i32_of (show (xs (6 * k + 2)).toInt = (xs (6 * k + 2)).toInt from rfl)) hI
  refine g_callI (J := jX b kc T) (m_runV calV_X11_within wd_886 (g_MP_within l D kc b T S (xs (6 * k + 1)) ((xs (6 * k + 1)).toInt) rfl (xs (6 * k + 2)) ((xs (6 * k + 2)).toInt) rfl hS ex) C hM (i := 0) (by omega) (e_0 b kc T S) rfl hl.1 rfl rfl (Nat.le_of_ble_eq_true rfl) dL_law_476 ⟨Nat.le_of_ble_eq_true rfl, Nat.le_of_ble_eq_true rfl⟩ ⟨Nat.le_of_ble_eq_true rfl, Nat.le_of_ble_eq_true rfl⟩) hM (fun zx H locs bzx hM hS => ?_)
  refine lv_pop hx hb dL_law_479 rfl ?_
  refine lv_aload_n hx hb dL_law_480 rfl (lv_at hl 1 rfl) ?_
  refine lv_aload_n hx hb dL_law_481 rfl (lv_at hl 3 rfl) ?_
  refine lv_iload_n hx hb dL_law_482 rfl (lv_at hl 0 rfl) ?_
  refine lv_iconst (v := 1) hx hb dL_law_483 (by decide) ?_
  refine lv_iadd hx hb dL_law_484 ?_
  refine m_vi (y := nI (6 * k + 1)) (by rw [show (1 : Int32) = nI 1 from rfl, nI_add]) ?_
  refine va_sld hx hb hX hbl hbA hM.2 (vp_in_nI (by omega) (by omega)) dL_law_485 ?_
  refine m_vi (y := xs (6 * k + 1)) (by rw [nI_clamp (by omega)]) ?_
  refine lv_aload_n hx hb dL_law_486 rfl (lv_at hl 3 rfl) ?_
  refine lv_iload_n hx hb dL_law_487 rfl (lv_at hl 0 rfl) ?_
  refine lv_iconst (v := 2) hx hb dL_law_488 (by decide) ?_
  refine lv_iadd hx hb dL_law_489 ?_
  refine m_vi (y := nI (6 * k + 2)) (by rw [show (2 : Int32) = nI 2 from rfl, nI_add]) ?_
  refine va_sld hx hb hX hbl hbA hM.2 (vp_in_nI (by omega) (by omega)) dL_law_490 ?_
  refine m_vi (y := xs (6 * k + 2)) (by rw [nI_clamp (by omega)]) ?_
  have hM : mS D b s 220 (jM b kc S T) _ _ := hM
  refine g_callI (J := jM b kc S) (m_runV calV_X13_within wd_1342 (g_M_within l D kc b S T (xs (6 * k + 1)) ((xs (6 * k + 1)).toInt) rfl (xs (6 * k + 2)) ((xs (6 * k + 2)).toInt) rfl hT ey) C hM (i := 192) (by omega) (e_192 b kc S T) rfl hl.1 rfl rfl (Nat.le_of_ble_eq_true rfl) dL_law_491 ⟨Nat.le_of_ble_eq_true rfl, Nat.le_of_ble_eq_true rfl⟩ ⟨Nat.le_of_ble_eq_true rfl, Nat.le_of_ble_eq_true rfl⟩) hM (fun zm H locs bzm hM hT => ?_)
  have hM : mS D b s 220 (jX b kc T S) _ _ := hM
  refine lv_pop hx hb dL_law_494 rfl ?_
  refine lv_goto (tgt := 774) hx hb dL_law_495 (by decide) ?_
  exact kk S T _ _ hS hT hI1 hM
set_option maxHeartbeats 4000000 in
set_option maxRecDepth 100000 in
theorem law_case12 {p : Program} {l : Launch} {e : Env} {s : State} {m : MethodId} {below : List Frame} {meth : Method} {c : Code} {D : va_G} {kc : Nat → ClassId} {sb L k : Nat} {xs : Nat → Int32} {H : Heap} {locs : List Loc} {ls : Array Slot} {b : Nat} {S T : SS} {Q : State → Prop} (Inv : SS → SS → Prop) (hc : hc_costs Inv) (C : mC p s m #[Value.ref sb] c code 4 RL D kc b) (hX : va_X sb L xs s s.heap) (hbl : sb < s.heap.size) (hsz : s.heap.size = b) (hk : 6 * k + 6 ≤ L) (hL : L ≤ 3072) (hS : rng S) (hT : rng T) (hI : Inv S T) (hM : mS D b s 220 (jX b kc T S) H locs) (hl : lv_has ls 4 [(3, .int (nI (6 * k))), (2, .ref (b + 192)), (1, .ref (b + 0)), (0, .ref sb)]) (kk : ∀ (S1 T1 : SS) (H1 : Heap) (locs1 : List Loc), rng S1 → rng T1 → Inv S1 T1 → mS D b s 220 (jX b kc T1 S1) H1 locs1 → W p l e room_1 s m #[Value.ref sb] below meth c H1 locs1 220 112647 Q (F0 m 774 ls [])) : W p l e room_1 s m #[Value.ref sb] below meth c H locs 220 112647 Q (F0 m 498 ls []) := by
  obtain ⟨hx, hb, hml, hown, hts, hE, hbs⟩ := id C
  have hbA : ¬ b ≤ sb := by omega
  refine lv_aload_n hx hb dL_law_498 rfl (lv_at hl 2 rfl) ?_
  refine lv_aload_n hx hb dL_law_499 rfl (lv_at hl 3 rfl) ?_
  refine lv_iload_n hx hb dL_law_500 rfl (lv_at hl 0 rfl) ?_
  refine lv_iconst (v := 1) hx hb dL_law_501 (by decide) ?_
  refine lv_iadd hx hb dL_law_502 ?_
  refine m_vi (y := nI (6 * k + 1)) (by rw [show (1 : Int32) = nI 1 from rfl, nI_add]) ?_
  refine va_sld hx hb hX hbl hbA hM.2 (vp_in_nI (by omega) (by omega)) dL_law_503 ?_
  refine m_vi (y := xs (6 * k + 1)) (by rw [nI_clamp (by omega)]) ?_
  refine lv_aload_n hx hb dL_law_504 rfl (lv_at hl 3 rfl) ?_
  refine lv_iload_n hx hb dL_law_505 rfl (lv_at hl 0 rfl) ?_
  refine lv_iconst (v := 2) hx hb dL_law_506 (by decide) ?_
  refine lv_iadd hx hb dL_law_507 ?_
  refine m_vi (y := nI (6 * k + 2)) (by rw [show (2 : Int32) = nI 2 from rfl, nI_add]) ?_
  refine va_sld hx hb hX hbl hbA hM.2 (vp_in_nI (by omega) (by omega)) dL_law_508 ?_
  refine m_vi (y := xs (6 * k + 2)) (by rw [nI_clamp (by omega)]) ?_
  obtain ⟨r, S1, t, T1, ex, ey, hI1⟩ := hc S T ((xs (6 * k + 1)).toInt) ((xs (6 * k + 2)).toInt) hS hT (i32_of (show (xs (6 * k + 1)).toInt = (xs (6 * k + 1)).toInt from rfl)) (i32_of (show (xs (6 * k + 2)).toInt = (xs (6 * k + 2)).toInt from rfl)) hI
  refine g_callI (J := jX b kc T) (m_runV calV_X11_costs wd_891 (g_MP_costs l D kc b T S (xs (6 * k + 1)) ((xs (6 * k + 1)).toInt) rfl (xs (6 * k + 2)) ((xs (6 * k + 2)).toInt) rfl hS ex) C hM (i := 0) (by omega) (e_0 b kc T S) rfl hl.1 rfl rfl (Nat.le_of_ble_eq_true rfl) dL_law_509 ⟨Nat.le_of_ble_eq_true rfl, Nat.le_of_ble_eq_true rfl⟩ ⟨Nat.le_of_ble_eq_true rfl, Nat.le_of_ble_eq_true rfl⟩) hM (fun zx H locs bzx hM hS => ?_)
  refine lv_pop hx hb dL_law_512 rfl ?_
  refine lv_aload_n hx hb dL_law_513 rfl (lv_at hl 1 rfl) ?_
  refine lv_aload_n hx hb dL_law_514 rfl (lv_at hl 3 rfl) ?_
  refine lv_iload_n hx hb dL_law_515 rfl (lv_at hl 0 rfl) ?_
  refine lv_iconst (v := 1) hx hb dL_law_516 (by decide) ?_
  refine lv_iadd hx hb dL_law_517 ?_
  refine m_vi (y := nI (6 * k + 1)) (by rw [show (1 : Int32) = nI 1 from rfl, nI_add]) ?_
  refine va_sld hx hb hX hbl hbA hM.2 (vp_in_nI (by omega) (by omega)) dL_law_518 ?_
  refine m_vi (y := xs (6 * k + 1)) (by rw [nI_clamp (by omega)]) ?_
  refine lv_aload_n hx hb dL_law_519 rfl (lv_at hl 3 rfl) ?_
  refine lv_iload_n hx hb dL_law_520 rfl (lv_at hl 0 rfl) ?_
  refine lv_iconst (v := 2) hx hb dL_law_521 (by decide) ?_
  refine lv_iadd hx hb dL_law_522 ?_
  refine m_vi (y := nI (6 * k + 2)) (by rw [show (2 : Int32) = nI 2 from rfl, nI_add]) ?_
  refine va_sld hx hb hX hbl hbA hM.2 (vp_in_nI (by omega) (by omega)) dL_law_523 ?_
  refine m_vi (y := xs (6 * k + 2)) (by rw [nI_clamp (by omega)]) ?_
  have hM : mS D b s 220 (jM b kc S1 T) _ _ := hM
  refine g_callI (J := jM b kc S1) (m_runV calV_X13_costs wd_1436 (g_M_costs l D kc b S1 T (xs (6 * k + 1)) ((xs (6 * k + 1)).toInt) rfl (xs (6 * k + 2)) ((xs (6 * k + 2)).toInt) rfl hT ey) C hM (i := 192) (by omega) (e_192 b kc S1 T) rfl hl.1 rfl rfl (Nat.le_of_ble_eq_true rfl) dL_law_524 ⟨Nat.le_of_ble_eq_true rfl, Nat.le_of_ble_eq_true rfl⟩ ⟨Nat.le_of_ble_eq_true rfl, Nat.le_of_ble_eq_true rfl⟩) hM (fun zm H locs bzm hM hT => ?_)
  have hM : mS D b s 220 (jX b kc T1 S1) _ _ := hM
  refine lv_pop hx hb dL_law_527 rfl ?_
  refine lv_goto (tgt := 774) hx hb dL_law_528 (by decide) ?_
  exact kk S1 T1 _ _ hS hT hI1 hM
set_option maxHeartbeats 4000000 in
set_option maxRecDepth 100000 in
theorem law_case13 {p : Program} {l : Launch} {e : Env} {s : State} {m : MethodId} {below : List Frame} {meth : Method} {c : Code} {D : va_G} {kc : Nat → ClassId} {sb L k : Nat} {xs : Nat → Int32} {H : Heap} {locs : List Loc} {ls : Array Slot} {b : Nat} {S T : SS} {Q : State → Prop} (Inv : SS → SS → Prop) (hc : hc_hold Inv) (C : mC p s m #[Value.ref sb] c code 4 RL D kc b) (hX : va_X sb L xs s s.heap) (hbl : sb < s.heap.size) (hsz : s.heap.size = b) (hk : 6 * k + 6 ≤ L) (hL : L ≤ 3072) (hS : rng S) (hT : rng T) (hI : Inv S T) (hM : mS D b s 220 (jX b kc T S) H locs) (hl : lv_has ls 4 [(3, .int (nI (6 * k))), (2, .ref (b + 192)), (1, .ref (b + 0)), (0, .ref sb)]) (kk : ∀ (S1 T1 : SS) (H1 : Heap) (locs1 : List Loc), rng S1 → rng T1 → Inv S1 T1 → mS D b s 220 (jX b kc T1 S1) H1 locs1 → W p l e room_1 s m #[Value.ref sb] below meth c H1 locs1 220 112647 Q (F0 m 774 ls [])) : W p l e room_1 s m #[Value.ref sb] below meth c H locs 220 112647 Q (F0 m 531 ls []) := by
  obtain ⟨hx, hb, hml, hown, hts, hE, hbs⟩ := id C
  have hbA : ¬ b ≤ sb := by omega
  refine lv_aload_n hx hb dL_law_531 rfl (lv_at hl 2 rfl) ?_
  obtain ⟨r, S1, t, T1, ex, ey, hI1⟩ := hc S T hS hT hI
  refine g_callI (J := jX b kc T) (m_runV calV_X11_hold wd_895 (g_MP_hold l D kc b T S hS ex) C hM (i := 0) (by omega) (e_0 b kc T S) rfl hl.1 rfl rfl (Nat.le_of_ble_eq_true rfl) dL_law_532 ⟨Nat.le_of_ble_eq_true rfl, Nat.le_of_ble_eq_true rfl⟩ ⟨Nat.le_of_ble_eq_true rfl, Nat.le_of_ble_eq_true rfl⟩) hM (fun zx H locs bzx hM hS => ?_)
  refine lv_pop hx hb dL_law_535 rfl ?_
  refine lv_aload_n hx hb dL_law_536 rfl (lv_at hl 1 rfl) ?_
  have hM : mS D b s 220 (jM b kc S1 T) _ _ := hM
  refine g_callI (J := jM b kc S1) (m_runV calV_X13_hold wd_1440 (g_M_hold l D kc b S1 T hT ey) C hM (i := 192) (by omega) (e_192 b kc S1 T) rfl hl.1 rfl rfl (Nat.le_of_ble_eq_true rfl) dL_law_537 ⟨Nat.le_of_ble_eq_true rfl, Nat.le_of_ble_eq_true rfl⟩ ⟨Nat.le_of_ble_eq_true rfl, Nat.le_of_ble_eq_true rfl⟩) hM (fun zm H locs bzm hM hT => ?_)
  have hM : mS D b s 220 (jX b kc T1 S1) _ _ := hM
  refine lv_pop hx hb dL_law_540 rfl ?_
  refine lv_goto (tgt := 774) hx hb dL_law_541 (by decide) ?_
  exact kk S1 T1 _ _ hS hT hI1 hM
set_option maxHeartbeats 4000000 in
set_option maxRecDepth 100000 in
theorem law_case14 {p : Program} {l : Launch} {e : Env} {s : State} {m : MethodId} {below : List Frame} {meth : Method} {c : Code} {D : va_G} {kc : Nat → ClassId} {sb L k : Nat} {xs : Nat → Int32} {H : Heap} {locs : List Loc} {ls : Array Slot} {b : Nat} {S T : SS} {Q : State → Prop} (Inv : SS → SS → Prop) (hc : hc_held Inv) (C : mC p s m #[Value.ref sb] c code 4 RL D kc b) (hX : va_X sb L xs s s.heap) (hbl : sb < s.heap.size) (hsz : s.heap.size = b) (hk : 6 * k + 6 ≤ L) (hL : L ≤ 3072) (hS : rng S) (hT : rng T) (hI : Inv S T) (hM : mS D b s 220 (jX b kc T S) H locs) (hl : lv_has ls 4 [(3, .int (nI (6 * k))), (2, .ref (b + 192)), (1, .ref (b + 0)), (0, .ref sb)]) (kk : ∀ (S1 T1 : SS) (H1 : Heap) (locs1 : List Loc), rng S1 → rng T1 → Inv S1 T1 → mS D b s 220 (jX b kc T1 S1) H1 locs1 → W p l e room_1 s m #[Value.ref sb] below meth c H1 locs1 220 112647 Q (F0 m 774 ls [])) : W p l e room_1 s m #[Value.ref sb] below meth c H locs 220 112647 Q (F0 m 544 ls []) := by
  obtain ⟨hx, hb, hml, hown, hts, hE, hbs⟩ := id C
  have hbA : ¬ b ≤ sb := by omega
  refine lv_aload_n hx hb dL_law_544 rfl (lv_at hl 2 rfl) ?_
  refine lv_aload_n hx hb dL_law_545 rfl (lv_at hl 3 rfl) ?_
  refine lv_iload_n hx hb dL_law_546 rfl (lv_at hl 0 rfl) ?_
  refine lv_iconst (v := 1) hx hb dL_law_547 (by decide) ?_
  refine lv_iadd hx hb dL_law_548 ?_
  refine m_vi (y := nI (6 * k + 1)) (by rw [show (1 : Int32) = nI 1 from rfl, nI_add]) ?_
  refine va_sld hx hb hX hbl hbA hM.2 (vp_in_nI (by omega) (by omega)) dL_law_549 ?_
  refine m_vi (y := xs (6 * k + 1)) (by rw [nI_clamp (by omega)]) ?_
  obtain ⟨r, t, ex, ey, hI1⟩ := hc S T ((xs (6 * k + 1)).toInt) hS hT (i32_of (show (xs (6 * k + 1)).toInt = (xs (6 * k + 1)).toInt from rfl)) hI
  refine g_callI (J := jX b kc T) (m_runV calV_X11_held wd_945 (g_MP_held l D kc b T S (xs (6 * k + 1)) ((xs (6 * k + 1)).toInt) rfl hS ex) C hM (i := 0) (by omega) (e_0 b kc T S) rfl hl.1 rfl rfl (Nat.le_of_ble_eq_true rfl) dL_law_550 ⟨Nat.le_of_ble_eq_true rfl, Nat.le_of_ble_eq_true rfl⟩ ⟨Nat.le_of_ble_eq_true rfl, Nat.le_of_ble_eq_true rfl⟩) hM (fun zx H locs bzx hM hS => ?_)
  refine lv_pop hx hb dL_law_553 rfl ?_
  refine lv_aload_n hx hb dL_law_554 rfl (lv_at hl 1 rfl) ?_
  refine lv_aload_n hx hb dL_law_555 rfl (lv_at hl 3 rfl) ?_
  refine lv_iload_n hx hb dL_law_556 rfl (lv_at hl 0 rfl) ?_
  refine lv_iconst (v := 1) hx hb dL_law_557 (by decide) ?_
  refine lv_iadd hx hb dL_law_558 ?_
  refine m_vi (y := nI (6 * k + 1)) (by rw [show (1 : Int32) = nI 1 from rfl, nI_add]) ?_
  refine va_sld hx hb hX hbl hbA hM.2 (vp_in_nI (by omega) (by omega)) dL_law_559 ?_
  refine m_vi (y := xs (6 * k + 1)) (by rw [nI_clamp (by omega)]) ?_
  have hM : mS D b s 220 (jM b kc S T) _ _ := hM
  refine g_callI (J := jM b kc S) (m_runV calV_X13_held wd_1451 (g_M_held l D kc b S T (xs (6 * k + 1)) ((xs (6 * k + 1)).toInt) rfl hT ey) C hM (i := 192) (by omega) (e_192 b kc S T) rfl hl.1 rfl rfl (Nat.le_of_ble_eq_true rfl) dL_law_560 ⟨Nat.le_of_ble_eq_true rfl, Nat.le_of_ble_eq_true rfl⟩ ⟨Nat.le_of_ble_eq_true rfl, Nat.le_of_ble_eq_true rfl⟩) hM (fun zm H locs bzm hM hT => ?_)
  have hM : mS D b s 220 (jX b kc T S) _ _ := hM
  refine lv_pop hx hb dL_law_563 rfl ?_
  refine lv_goto (tgt := 774) hx hb dL_law_564 (by decide) ?_
  exact kk S T _ _ hS hT hI1 hM
set_option maxHeartbeats 4000000 in
set_option maxRecDepth 100000 in
theorem law_case15 {p : Program} {l : Launch} {e : Env} {s : State} {m : MethodId} {below : List Frame} {meth : Method} {c : Code} {D : va_G} {kc : Nat → ClassId} {sb L k : Nat} {xs : Nat → Int32} {H : Heap} {locs : List Loc} {ls : Array Slot} {b : Nat} {S T : SS} {Q : State → Prop} (Inv : SS → SS → Prop) (hc : hc_unasked Inv) (C : mC p s m #[Value.ref sb] c code 4 RL D kc b) (hX : va_X sb L xs s s.heap) (hbl : sb < s.heap.size) (hsz : s.heap.size = b) (hk : 6 * k + 6 ≤ L) (hL : L ≤ 3072) (hS : rng S) (hT : rng T) (hI : Inv S T) (hM : mS D b s 220 (jX b kc T S) H locs) (hl : lv_has ls 4 [(3, .int (nI (6 * k))), (2, .ref (b + 192)), (1, .ref (b + 0)), (0, .ref sb)]) (kk : ∀ (S1 T1 : SS) (H1 : Heap) (locs1 : List Loc), rng S1 → rng T1 → Inv S1 T1 → mS D b s 220 (jX b kc T1 S1) H1 locs1 → W p l e room_1 s m #[Value.ref sb] below meth c H1 locs1 220 112647 Q (F0 m 774 ls [])) : W p l e room_1 s m #[Value.ref sb] below meth c H locs 220 112647 Q (F0 m 567 ls []) := by
  obtain ⟨hx, hb, hml, hown, hts, hE, hbs⟩ := id C
  have hbA : ¬ b ≤ sb := by omega
  refine lv_aload_n hx hb dL_law_567 rfl (lv_at hl 2 rfl) ?_
  refine lv_aload_n hx hb dL_law_568 rfl (lv_at hl 3 rfl) ?_
  refine lv_iload_n hx hb dL_law_569 rfl (lv_at hl 0 rfl) ?_
  refine lv_iconst (v := 1) hx hb dL_law_570 (by decide) ?_
  refine lv_iadd hx hb dL_law_571 ?_
  refine m_vi (y := nI (6 * k + 1)) (by rw [show (1 : Int32) = nI 1 from rfl, nI_add]) ?_
  refine va_sld hx hb hX hbl hbA hM.2 (vp_in_nI (by omega) (by omega)) dL_law_572 ?_
  refine m_vi (y := xs (6 * k + 1)) (by rw [nI_clamp (by omega)]) ?_
  refine lv_aload_n hx hb dL_law_573 rfl (lv_at hl 3 rfl) ?_
  refine lv_iload_n hx hb dL_law_574 rfl (lv_at hl 0 rfl) ?_
  refine lv_iconst (v := 2) hx hb dL_law_575 (by decide) ?_
  refine lv_iadd hx hb dL_law_576 ?_
  refine m_vi (y := nI (6 * k + 2)) (by rw [show (2 : Int32) = nI 2 from rfl, nI_add]) ?_
  refine va_sld hx hb hX hbl hbA hM.2 (vp_in_nI (by omega) (by omega)) dL_law_577 ?_
  refine m_vi (y := xs (6 * k + 2)) (by rw [nI_clamp (by omega)]) ?_
  obtain ⟨r, t, ex, ey, hI1⟩ := hc S T ((xs (6 * k + 1)).toInt) ((xs (6 * k + 2)).toInt) hS hT (i32_of (show (xs (6 * k + 1)).toInt = (xs (6 * k + 1)).toInt from rfl)) (i32_of (show (xs (6 * k + 2)).toInt = (xs (6 * k + 2)).toInt from rfl)) hI
  refine g_callI (J := jX b kc T) (m_runV calV_X11_unasked wd_957 (g_MP_unasked l D kc b T S (xs (6 * k + 1)) ((xs (6 * k + 1)).toInt) rfl (xs (6 * k + 2)) ((xs (6 * k + 2)).toInt) rfl hS ex) C hM (i := 0) (by omega) (e_0 b kc T S) rfl hl.1 rfl rfl (Nat.le_of_ble_eq_true rfl) dL_law_578 ⟨Nat.le_of_ble_eq_true rfl, Nat.le_of_ble_eq_true rfl⟩ ⟨Nat.le_of_ble_eq_true rfl, Nat.le_of_ble_eq_true rfl⟩) hM (fun zx H locs bzx hM hS => ?_)
  refine lv_pop hx hb dL_law_581 rfl ?_
  refine lv_aload_n hx hb dL_law_582 rfl (lv_at hl 1 rfl) ?_
  refine lv_aload_n hx hb dL_law_583 rfl (lv_at hl 3 rfl) ?_
  refine lv_iload_n hx hb dL_law_584 rfl (lv_at hl 0 rfl) ?_
  refine lv_iconst (v := 1) hx hb dL_law_585 (by decide) ?_
  refine lv_iadd hx hb dL_law_586 ?_
  refine m_vi (y := nI (6 * k + 1)) (by rw [show (1 : Int32) = nI 1 from rfl, nI_add]) ?_
  refine va_sld hx hb hX hbl hbA hM.2 (vp_in_nI (by omega) (by omega)) dL_law_587 ?_
  refine m_vi (y := xs (6 * k + 1)) (by rw [nI_clamp (by omega)]) ?_
  refine lv_aload_n hx hb dL_law_588 rfl (lv_at hl 3 rfl) ?_
  refine lv_iload_n hx hb dL_law_589 rfl (lv_at hl 0 rfl) ?_
  refine lv_iconst (v := 2) hx hb dL_law_590 (by decide) ?_
  refine lv_iadd hx hb dL_law_591 ?_
  refine m_vi (y := nI (6 * k + 2)) (by rw [show (2 : Int32) = nI 2 from rfl, nI_add]) ?_
  refine va_sld hx hb hX hbl hbA hM.2 (vp_in_nI (by omega) (by omega)) dL_law_592 ?_
  refine m_vi (y := xs (6 * k + 2)) (by rw [nI_clamp (by omega)]) ?_
  have hM : mS D b s 220 (jM b kc S T) _ _ := hM
  refine g_callI (J := jM b kc S) (m_runV calV_X13_unasked wd_1455 (g_M_unasked l D kc b S T (xs (6 * k + 1)) ((xs (6 * k + 1)).toInt) rfl (xs (6 * k + 2)) ((xs (6 * k + 2)).toInt) rfl hT ey) C hM (i := 192) (by omega) (e_192 b kc S T) rfl hl.1 rfl rfl (Nat.le_of_ble_eq_true rfl) dL_law_593 ⟨Nat.le_of_ble_eq_true rfl, Nat.le_of_ble_eq_true rfl⟩ ⟨Nat.le_of_ble_eq_true rfl, Nat.le_of_ble_eq_true rfl⟩) hM (fun zm H locs bzm hM hT => ?_)
  have hM : mS D b s 220 (jX b kc T S) _ _ := hM
  refine lv_pop hx hb dL_law_596 rfl ?_
  refine lv_goto (tgt := 774) hx hb dL_law_597 (by decide) ?_
  exact kk S T _ _ hS hT hI1 hM
set_option maxHeartbeats 4000000 in
set_option maxRecDepth 100000 in
theorem law_case16 {p : Program} {l : Launch} {e : Env} {s : State} {m : MethodId} {below : List Frame} {meth : Method} {c : Code} {D : va_G} {kc : Nat → ClassId} {sb L k : Nat} {xs : Nat → Int32} {H : Heap} {locs : List Loc} {ls : Array Slot} {b : Nat} {S T : SS} {Q : State → Prop} (Inv : SS → SS → Prop) (hc : hc_distance Inv) (C : mC p s m #[Value.ref sb] c code 4 RL D kc b) (hX : va_X sb L xs s s.heap) (hbl : sb < s.heap.size) (hsz : s.heap.size = b) (hk : 6 * k + 6 ≤ L) (hL : L ≤ 3072) (hS : rng S) (hT : rng T) (hI : Inv S T) (hM : mS D b s 220 (jX b kc T S) H locs) (hl : lv_has ls 4 [(3, .int (nI (6 * k))), (2, .ref (b + 192)), (1, .ref (b + 0)), (0, .ref sb)]) (kk : ∀ (S1 T1 : SS) (H1 : Heap) (locs1 : List Loc), rng S1 → rng T1 → Inv S1 T1 → mS D b s 220 (jX b kc T1 S1) H1 locs1 → W p l e room_1 s m #[Value.ref sb] below meth c H1 locs1 220 112647 Q (F0 m 774 ls [])) : W p l e room_1 s m #[Value.ref sb] below meth c H locs 220 112647 Q (F0 m 600 ls []) := by
  obtain ⟨hx, hb, hml, hown, hts, hE, hbs⟩ := id C
  have hbA : ¬ b ≤ sb := by omega
  refine lv_aload_n hx hb dL_law_600 rfl (lv_at hl 2 rfl) ?_
  refine lv_aload_n hx hb dL_law_601 rfl (lv_at hl 3 rfl) ?_
  refine lv_iload_n hx hb dL_law_602 rfl (lv_at hl 0 rfl) ?_
  refine lv_iconst (v := 1) hx hb dL_law_603 (by decide) ?_
  refine lv_iadd hx hb dL_law_604 ?_
  refine m_vi (y := nI (6 * k + 1)) (by rw [show (1 : Int32) = nI 1 from rfl, nI_add]) ?_
  refine va_sld hx hb hX hbl hbA hM.2 (vp_in_nI (by omega) (by omega)) dL_law_605 ?_
  refine m_vi (y := xs (6 * k + 1)) (by rw [nI_clamp (by omega)]) ?_
  refine lv_aload_n hx hb dL_law_606 rfl (lv_at hl 3 rfl) ?_
  refine lv_iload_n hx hb dL_law_607 rfl (lv_at hl 0 rfl) ?_
  refine lv_iconst (v := 2) hx hb dL_law_608 (by decide) ?_
  refine lv_iadd hx hb dL_law_609 ?_
  refine m_vi (y := nI (6 * k + 2)) (by rw [show (2 : Int32) = nI 2 from rfl, nI_add]) ?_
  refine va_sld hx hb hX hbl hbA hM.2 (vp_in_nI (by omega) (by omega)) dL_law_610 ?_
  refine m_vi (y := xs (6 * k + 2)) (by rw [nI_clamp (by omega)]) ?_
  obtain ⟨r, S1, t, T1, ex, ey, hI1, ert⟩ := hc S T ((xs (6 * k + 1)).toInt) ((xs (6 * k + 2)).toInt) hS hT (i32_of (show (xs (6 * k + 1)).toInt = (xs (6 * k + 1)).toInt from rfl)) (i32_of (show (xs (6 * k + 2)).toInt = (xs (6 * k + 2)).toInt from rfl)) hI
  refine g_callI (J := jX b kc T) (m_runV calV_X11_distance wd_965 (g_MP_distance l D kc b T S (xs (6 * k + 1)) ((xs (6 * k + 1)).toInt) rfl (xs (6 * k + 2)) ((xs (6 * k + 2)).toInt) rfl hS ex) C hM (i := 0) (by omega) (e_0 b kc T S) rfl hl.1 rfl rfl (Nat.le_of_ble_eq_true rfl) dL_law_611 ⟨Nat.le_of_ble_eq_true rfl, Nat.le_of_ble_eq_true rfl⟩ ⟨Nat.le_of_ble_eq_true rfl, Nat.le_of_ble_eq_true rfl⟩) hM (fun zx H locs bzx hM hS => ?_)
  refine lv_aload_n hx hb dL_law_614 rfl (lv_at hl 1 rfl) ?_
  refine lv_aload_n hx hb dL_law_615 rfl (lv_at hl 3 rfl) ?_
  refine lv_iload_n hx hb dL_law_616 rfl (lv_at hl 0 rfl) ?_
  refine lv_iconst (v := 1) hx hb dL_law_617 (by decide) ?_
  refine lv_iadd hx hb dL_law_618 ?_
  refine m_vi (y := nI (6 * k + 1)) (by rw [show (1 : Int32) = nI 1 from rfl, nI_add]) ?_
  refine va_sld hx hb hX hbl hbA hM.2 (vp_in_nI (by omega) (by omega)) dL_law_619 ?_
  refine m_vi (y := xs (6 * k + 1)) (by rw [nI_clamp (by omega)]) ?_
  refine lv_aload_n hx hb dL_law_620 rfl (lv_at hl 3 rfl) ?_
  refine lv_iload_n hx hb dL_law_621 rfl (lv_at hl 0 rfl) ?_
  refine lv_iconst (v := 2) hx hb dL_law_622 (by decide) ?_
  refine lv_iadd hx hb dL_law_623 ?_
  refine m_vi (y := nI (6 * k + 2)) (by rw [show (2 : Int32) = nI 2 from rfl, nI_add]) ?_
  refine va_sld hx hb hX hbl hbA hM.2 (vp_in_nI (by omega) (by omega)) dL_law_624 ?_
  refine m_vi (y := xs (6 * k + 2)) (by rw [nI_clamp (by omega)]) ?_
  have hM : mS D b s 220 (jM b kc S1 T) _ _ := hM
  refine g_callI (J := jM b kc S1) (m_runV calV_X13_distance wd_1424 (g_M_distance l D kc b S1 T (xs (6 * k + 1)) ((xs (6 * k + 1)).toInt) rfl (xs (6 * k + 2)) ((xs (6 * k + 2)).toInt) rfl hT ey) C hM (i := 192) (by omega) (e_192 b kc S1 T) rfl hl.1 rfl rfl (Nat.le_of_ble_eq_true rfl) dL_law_625 ⟨Nat.le_of_ble_eq_true rfl, Nat.le_of_ble_eq_true rfl⟩ ⟨Nat.le_of_ble_eq_true rfl, Nat.le_of_ble_eq_true rfl⟩) hM (fun zm H locs bzm hM hT => ?_)
  have hM : mS D b s 220 (jX b kc T1 S1) _ _ := hM
  refine t_icmp_eq (tgt := 774) (a := r) (d := t) hx hb bzx bzm dL_law_628 (by decide) (fun _ => ?_) (fun h => absurd ert h)
  exact kk S1 T1 _ _ hS hT hI1 hM
set_option maxHeartbeats 4000000 in
set_option maxRecDepth 100000 in
theorem law_case17 {p : Program} {l : Launch} {e : Env} {s : State} {m : MethodId} {below : List Frame} {meth : Method} {c : Code} {D : va_G} {kc : Nat → ClassId} {sb L k : Nat} {xs : Nat → Int32} {H : Heap} {locs : List Loc} {ls : Array Slot} {b : Nat} {S T : SS} {Q : State → Prop} (Inv : SS → SS → Prop) (hc : hc_next Inv) (C : mC p s m #[Value.ref sb] c code 4 RL D kc b) (hX : va_X sb L xs s s.heap) (hbl : sb < s.heap.size) (hsz : s.heap.size = b) (hk : 6 * k + 6 ≤ L) (hL : L ≤ 3072) (hS : rng S) (hT : rng T) (hI : Inv S T) (hM : mS D b s 220 (jX b kc T S) H locs) (hl : lv_has ls 4 [(3, .int (nI (6 * k))), (2, .ref (b + 192)), (1, .ref (b + 0)), (0, .ref sb)]) (kk : ∀ (S1 T1 : SS) (H1 : Heap) (locs1 : List Loc), rng S1 → rng T1 → Inv S1 T1 → mS D b s 220 (jX b kc T1 S1) H1 locs1 → W p l e room_1 s m #[Value.ref sb] below meth c H1 locs1 220 112647 Q (F0 m 774 ls [])) : W p l e room_1 s m #[Value.ref sb] below meth c H locs 220 112647 Q (F0 m 633 ls []) := by
  obtain ⟨hx, hb, hml, hown, hts, hE, hbs⟩ := id C
  have hbA : ¬ b ≤ sb := by omega
  refine lv_aload_n hx hb dL_law_633 rfl (lv_at hl 2 rfl) ?_
  obtain ⟨r, S1, t, T1, ex, ey, hI1⟩ := hc S T hS hT hI
  refine g_callI (J := jX b kc T) (m_runV calV_X11_next wd_970 (g_MP_next l D kc b T S hS ex) C hM (i := 0) (by omega) (e_0 b kc T S) rfl hl.1 rfl rfl (Nat.le_of_ble_eq_true rfl) dL_law_634 ⟨Nat.le_of_ble_eq_true rfl, Nat.le_of_ble_eq_true rfl⟩ ⟨Nat.le_of_ble_eq_true rfl, Nat.le_of_ble_eq_true rfl⟩) hM (fun zx H locs bzx hM hS => ?_)
  refine lv_pop hx hb dL_law_637 rfl ?_
  refine lv_aload_n hx hb dL_law_638 rfl (lv_at hl 1 rfl) ?_
  have hM : mS D b s 220 (jM b kc S1 T) _ _ := hM
  refine g_callI (J := jM b kc S1) (m_runV calV_X13_next wd_1459 (g_M_next l D kc b S1 T hT ey) C hM (i := 192) (by omega) (e_192 b kc S1 T) rfl hl.1 rfl rfl (Nat.le_of_ble_eq_true rfl) dL_law_639 ⟨Nat.le_of_ble_eq_true rfl, Nat.le_of_ble_eq_true rfl⟩ ⟨Nat.le_of_ble_eq_true rfl, Nat.le_of_ble_eq_true rfl⟩) hM (fun zm H locs bzm hM hT => ?_)
  have hM : mS D b s 220 (jX b kc T1 S1) _ _ := hM
  refine lv_pop hx hb dL_law_642 rfl ?_
  refine lv_goto (tgt := 774) hx hb dL_law_643 (by decide) ?_
  exact kk S1 T1 _ _ hS hT hI1 hM
set_option maxHeartbeats 4000000 in
set_option maxRecDepth 100000 in
theorem law_case18 {p : Program} {l : Launch} {e : Env} {s : State} {m : MethodId} {below : List Frame} {meth : Method} {c : Code} {D : va_G} {kc : Nat → ClassId} {sb L k : Nat} {xs : Nat → Int32} {H : Heap} {locs : List Loc} {ls : Array Slot} {b : Nat} {S T : SS} {Q : State → Prop} (Inv : SS → SS → Prop) (hc : hc_error Inv) (C : mC p s m #[Value.ref sb] c code 4 RL D kc b) (hX : va_X sb L xs s s.heap) (hbl : sb < s.heap.size) (hsz : s.heap.size = b) (hk : 6 * k + 6 ≤ L) (hL : L ≤ 3072) (hS : rng S) (hT : rng T) (hI : Inv S T) (hM : mS D b s 220 (jX b kc T S) H locs) (hl : lv_has ls 4 [(3, .int (nI (6 * k))), (2, .ref (b + 192)), (1, .ref (b + 0)), (0, .ref sb)]) (kk : ∀ (S1 T1 : SS) (H1 : Heap) (locs1 : List Loc), rng S1 → rng T1 → Inv S1 T1 → mS D b s 220 (jX b kc T1 S1) H1 locs1 → W p l e room_1 s m #[Value.ref sb] below meth c H1 locs1 220 112647 Q (F0 m 774 ls [])) : W p l e room_1 s m #[Value.ref sb] below meth c H locs 220 112647 Q (F0 m 646 ls []) := by
  obtain ⟨hx, hb, hml, hown, hts, hE, hbs⟩ := id C
  have hbA : ¬ b ≤ sb := by omega
  refine lv_aload_n hx hb dL_law_646 rfl (lv_at hl 2 rfl) ?_
  refine lv_aload_n hx hb dL_law_647 rfl (lv_at hl 3 rfl) ?_
  refine lv_iload_n hx hb dL_law_648 rfl (lv_at hl 0 rfl) ?_
  refine lv_iconst (v := 1) hx hb dL_law_649 (by decide) ?_
  refine lv_iadd hx hb dL_law_650 ?_
  refine m_vi (y := nI (6 * k + 1)) (by rw [show (1 : Int32) = nI 1 from rfl, nI_add]) ?_
  refine va_sld hx hb hX hbl hbA hM.2 (vp_in_nI (by omega) (by omega)) dL_law_651 ?_
  refine m_vi (y := xs (6 * k + 1)) (by rw [nI_clamp (by omega)]) ?_
  refine lv_aload_n hx hb dL_law_652 rfl (lv_at hl 3 rfl) ?_
  refine lv_iload_n hx hb dL_law_653 rfl (lv_at hl 0 rfl) ?_
  refine lv_iconst (v := 2) hx hb dL_law_654 (by decide) ?_
  refine lv_iadd hx hb dL_law_655 ?_
  refine m_vi (y := nI (6 * k + 2)) (by rw [show (2 : Int32) = nI 2 from rfl, nI_add]) ?_
  refine va_sld hx hb hX hbl hbA hM.2 (vp_in_nI (by omega) (by omega)) dL_law_656 ?_
  refine m_vi (y := xs (6 * k + 2)) (by rw [nI_clamp (by omega)]) ?_
  refine t_if_eq (tgt := 664) (a := (xs (6 * k + 2)).toInt) hx hb rfl dL_law_657 (by decide) (fun cz => ?_) (fun cz => ?_)
  · refine lv_iconst (v := 0) hx hb dL_law_664 (by decide) ?_
    obtain ⟨r, S1, t, T1, ex, ey, hI1⟩ := hc S T ((xs (6 * k + 1)).toInt) (0) hS hT (i32_of (show (xs (6 * k + 1)).toInt = (xs (6 * k + 1)).toInt from rfl)) (i32_of (show (0 : Int32).toInt = 0 by decide)) (by decide) hI
    refine g_callI (J := jX b kc T) (m_runV calV_X11_error wd_975 (g_MP_error l D kc b T S (xs (6 * k + 1)) ((xs (6 * k + 1)).toInt) rfl (0) (0) (show (0 : Int32).toInt = 0 by decide) hS ex) C hM (i := 0) (by omega) (e_0 b kc T S) rfl hl.1 rfl rfl (Nat.le_of_ble_eq_true rfl) dL_law_665 ⟨Nat.le_of_ble_eq_true rfl, Nat.le_of_ble_eq_true rfl⟩ ⟨Nat.le_of_ble_eq_true rfl, Nat.le_of_ble_eq_true rfl⟩) hM (fun zx H locs bzx hM hS => ?_)
    refine lv_pop hx hb dL_law_668 rfl ?_
    refine lv_aload_n hx hb dL_law_669 rfl (lv_at hl 1 rfl) ?_
    refine lv_aload_n hx hb dL_law_670 rfl (lv_at hl 3 rfl) ?_
    refine lv_iload_n hx hb dL_law_671 rfl (lv_at hl 0 rfl) ?_
    refine lv_iconst (v := 1) hx hb dL_law_672 (by decide) ?_
    refine lv_iadd hx hb dL_law_673 ?_
    refine m_vi (y := nI (6 * k + 1)) (by rw [show (1 : Int32) = nI 1 from rfl, nI_add]) ?_
    refine va_sld hx hb hX hbl hbA hM.2 (vp_in_nI (by omega) (by omega)) dL_law_674 ?_
    refine m_vi (y := xs (6 * k + 1)) (by rw [nI_clamp (by omega)]) ?_
    refine lv_aload_n hx hb dL_law_675 rfl (lv_at hl 3 rfl) ?_
    refine lv_iload_n hx hb dL_law_676 rfl (lv_at hl 0 rfl) ?_
    refine lv_iconst (v := 2) hx hb dL_law_677 (by decide) ?_
    refine lv_iadd hx hb dL_law_678 ?_
    refine m_vi (y := nI (6 * k + 2)) (by rw [show (2 : Int32) = nI 2 from rfl, nI_add]) ?_
    refine va_sld hx hb hX hbl hbA hM.2 (vp_in_nI (by omega) (by omega)) dL_law_679 ?_
    refine m_vi (y := xs (6 * k + 2)) (by rw [nI_clamp (by omega)]) ?_
    refine t_if_eq (tgt := 687) (a := (xs (6 * k + 2)).toInt) hx hb rfl dL_law_680 (by decide) (fun _ => ?_) (fun cy => absurd cz cy)
    refine lv_iconst (v := 0) hx hb dL_law_687 (by decide) ?_
    have hM : mS D b s 220 (jM b kc S1 T) _ _ := hM
    refine g_callI (J := jM b kc S1) (m_runV calV_X13_error wd_1464 (g_M_error l D kc b S1 T (xs (6 * k + 1)) ((xs (6 * k + 1)).toInt) rfl (0) (0) (show (0 : Int32).toInt = 0 by decide) hT ey) C hM (i := 192) (by omega) (e_192 b kc S1 T) rfl hl.1 rfl rfl (Nat.le_of_ble_eq_true rfl) dL_law_688 ⟨Nat.le_of_ble_eq_true rfl, Nat.le_of_ble_eq_true rfl⟩ ⟨Nat.le_of_ble_eq_true rfl, Nat.le_of_ble_eq_true rfl⟩) hM (fun zm H locs bzm hM hT => ?_)
    have hM : mS D b s 220 (jX b kc T1 S1) _ _ := hM
    refine lv_pop hx hb dL_law_691 rfl ?_
    refine lv_goto (tgt := 774) hx hb dL_law_692 (by decide) ?_
    exact kk S1 T1 _ _ hS hT hI1 hM
  · refine lv_iconst (v := 1) hx hb dL_law_660 (by decide) ?_
    refine lv_goto (tgt := 665) hx hb dL_law_661 (by decide) ?_
    obtain ⟨r, S1, t, T1, ex, ey, hI1⟩ := hc S T ((xs (6 * k + 1)).toInt) (1) hS hT (i32_of (show (xs (6 * k + 1)).toInt = (xs (6 * k + 1)).toInt from rfl)) (i32_of (show (1 : Int32).toInt = 1 by decide)) (by decide) hI
    refine g_callI (J := jX b kc T) (m_runV calV_X11_error wd_975 (g_MP_error l D kc b T S (xs (6 * k + 1)) ((xs (6 * k + 1)).toInt) rfl (1) (1) (show (1 : Int32).toInt = 1 by decide) hS ex) C hM (i := 0) (by omega) (e_0 b kc T S) rfl hl.1 rfl rfl (Nat.le_of_ble_eq_true rfl) dL_law_665 ⟨Nat.le_of_ble_eq_true rfl, Nat.le_of_ble_eq_true rfl⟩ ⟨Nat.le_of_ble_eq_true rfl, Nat.le_of_ble_eq_true rfl⟩) hM (fun zx H locs bzx hM hS => ?_)
    refine lv_pop hx hb dL_law_668 rfl ?_
    refine lv_aload_n hx hb dL_law_669 rfl (lv_at hl 1 rfl) ?_
    refine lv_aload_n hx hb dL_law_670 rfl (lv_at hl 3 rfl) ?_
    refine lv_iload_n hx hb dL_law_671 rfl (lv_at hl 0 rfl) ?_
    refine lv_iconst (v := 1) hx hb dL_law_672 (by decide) ?_
    refine lv_iadd hx hb dL_law_673 ?_
    refine m_vi (y := nI (6 * k + 1)) (by rw [show (1 : Int32) = nI 1 from rfl, nI_add]) ?_
    refine va_sld hx hb hX hbl hbA hM.2 (vp_in_nI (by omega) (by omega)) dL_law_674 ?_
    refine m_vi (y := xs (6 * k + 1)) (by rw [nI_clamp (by omega)]) ?_
    refine lv_aload_n hx hb dL_law_675 rfl (lv_at hl 3 rfl) ?_
    refine lv_iload_n hx hb dL_law_676 rfl (lv_at hl 0 rfl) ?_
    refine lv_iconst (v := 2) hx hb dL_law_677 (by decide) ?_
    refine lv_iadd hx hb dL_law_678 ?_
    refine m_vi (y := nI (6 * k + 2)) (by rw [show (2 : Int32) = nI 2 from rfl, nI_add]) ?_
    refine va_sld hx hb hX hbl hbA hM.2 (vp_in_nI (by omega) (by omega)) dL_law_679 ?_
    refine m_vi (y := xs (6 * k + 2)) (by rw [nI_clamp (by omega)]) ?_
    refine t_if_eq (tgt := 687) (a := (xs (6 * k + 2)).toInt) hx hb rfl dL_law_680 (by decide) (fun cy => absurd cy cz) (fun _ => ?_)
    refine lv_iconst (v := 1) hx hb dL_law_683 (by decide) ?_
    refine lv_goto (tgt := 688) hx hb dL_law_684 (by decide) ?_
    have hM : mS D b s 220 (jM b kc S1 T) _ _ := hM
    refine g_callI (J := jM b kc S1) (m_runV calV_X13_error wd_1464 (g_M_error l D kc b S1 T (xs (6 * k + 1)) ((xs (6 * k + 1)).toInt) rfl (1) (1) (show (1 : Int32).toInt = 1 by decide) hT ey) C hM (i := 192) (by omega) (e_192 b kc S1 T) rfl hl.1 rfl rfl (Nat.le_of_ble_eq_true rfl) dL_law_688 ⟨Nat.le_of_ble_eq_true rfl, Nat.le_of_ble_eq_true rfl⟩ ⟨Nat.le_of_ble_eq_true rfl, Nat.le_of_ble_eq_true rfl⟩) hM (fun zm H locs bzm hM hT => ?_)
    have hM : mS D b s 220 (jX b kc T1 S1) _ _ := hM
    refine lv_pop hx hb dL_law_691 rfl ?_
    refine lv_goto (tgt := 774) hx hb dL_law_692 (by decide) ?_
    exact kk S1 T1 _ _ hS hT hI1 hM
set_option maxHeartbeats 4000000 in
set_option maxRecDepth 100000 in
theorem law_case19 {p : Program} {l : Launch} {e : Env} {s : State} {m : MethodId} {below : List Frame} {meth : Method} {c : Code} {D : va_G} {kc : Nat → ClassId} {sb L k : Nat} {xs : Nat → Int32} {H : Heap} {locs : List Loc} {ls : Array Slot} {b : Nat} {S T : SS} {Q : State → Prop} (Inv : SS → SS → Prop) (hc : hc_price Inv) (C : mC p s m #[Value.ref sb] c code 4 RL D kc b) (hX : va_X sb L xs s s.heap) (hbl : sb < s.heap.size) (hsz : s.heap.size = b) (hk : 6 * k + 6 ≤ L) (hL : L ≤ 3072) (hS : rng S) (hT : rng T) (hI : Inv S T) (hM : mS D b s 220 (jX b kc T S) H locs) (hl : lv_has ls 4 [(3, .int (nI (6 * k))), (2, .ref (b + 192)), (1, .ref (b + 0)), (0, .ref sb)]) (kk : ∀ (S1 T1 : SS) (H1 : Heap) (locs1 : List Loc), rng S1 → rng T1 → Inv S1 T1 → mS D b s 220 (jX b kc T1 S1) H1 locs1 → W p l e room_1 s m #[Value.ref sb] below meth c H1 locs1 220 112647 Q (F0 m 774 ls [])) : W p l e room_1 s m #[Value.ref sb] below meth c H locs 220 112647 Q (F0 m 695 ls []) := by
  obtain ⟨hx, hb, hml, hown, hts, hE, hbs⟩ := id C
  have hbA : ¬ b ≤ sb := by omega
  refine lv_aload_n hx hb dL_law_695 rfl (lv_at hl 2 rfl) ?_
  refine lv_aload_n hx hb dL_law_696 rfl (lv_at hl 3 rfl) ?_
  refine lv_iload_n hx hb dL_law_697 rfl (lv_at hl 0 rfl) ?_
  refine lv_iconst (v := 1) hx hb dL_law_698 (by decide) ?_
  refine lv_iadd hx hb dL_law_699 ?_
  refine m_vi (y := nI (6 * k + 1)) (by rw [show (1 : Int32) = nI 1 from rfl, nI_add]) ?_
  refine va_sld hx hb hX hbl hbA hM.2 (vp_in_nI (by omega) (by omega)) dL_law_700 ?_
  refine m_vi (y := xs (6 * k + 1)) (by rw [nI_clamp (by omega)]) ?_
  refine lv_aload_n hx hb dL_law_701 rfl (lv_at hl 3 rfl) ?_
  refine lv_iload_n hx hb dL_law_702 rfl (lv_at hl 0 rfl) ?_
  refine lv_iconst (v := 2) hx hb dL_law_703 (by decide) ?_
  refine lv_iadd hx hb dL_law_704 ?_
  refine m_vi (y := nI (6 * k + 2)) (by rw [show (2 : Int32) = nI 2 from rfl, nI_add]) ?_
  refine va_sld hx hb hX hbl hbA hM.2 (vp_in_nI (by omega) (by omega)) dL_law_705 ?_
  refine m_vi (y := xs (6 * k + 2)) (by rw [nI_clamp (by omega)]) ?_
  obtain ⟨r, S1, t, T1, ex, ey, hI1⟩ := hc S T ((xs (6 * k + 1)).toInt) ((xs (6 * k + 2)).toInt) hS hT (i32_of (show (xs (6 * k + 1)).toInt = (xs (6 * k + 1)).toInt from rfl)) (i32_of (show (xs (6 * k + 2)).toInt = (xs (6 * k + 2)).toInt from rfl)) hI
  refine g_callI (J := jX b kc T) (m_runV calV_X11_price wd_979 (g_MP_price l D kc b T S (xs (6 * k + 1)) ((xs (6 * k + 1)).toInt) rfl (xs (6 * k + 2)) ((xs (6 * k + 2)).toInt) rfl hS ex) C hM (i := 0) (by omega) (e_0 b kc T S) rfl hl.1 rfl rfl (Nat.le_of_ble_eq_true rfl) dL_law_706 ⟨Nat.le_of_ble_eq_true rfl, Nat.le_of_ble_eq_true rfl⟩ ⟨Nat.le_of_ble_eq_true rfl, Nat.le_of_ble_eq_true rfl⟩) hM (fun zx H locs bzx hM hS => ?_)
  refine lv_pop hx hb dL_law_709 rfl ?_
  refine lv_aload_n hx hb dL_law_710 rfl (lv_at hl 1 rfl) ?_
  refine lv_aload_n hx hb dL_law_711 rfl (lv_at hl 3 rfl) ?_
  refine lv_iload_n hx hb dL_law_712 rfl (lv_at hl 0 rfl) ?_
  refine lv_iconst (v := 1) hx hb dL_law_713 (by decide) ?_
  refine lv_iadd hx hb dL_law_714 ?_
  refine m_vi (y := nI (6 * k + 1)) (by rw [show (1 : Int32) = nI 1 from rfl, nI_add]) ?_
  refine va_sld hx hb hX hbl hbA hM.2 (vp_in_nI (by omega) (by omega)) dL_law_715 ?_
  refine m_vi (y := xs (6 * k + 1)) (by rw [nI_clamp (by omega)]) ?_
  refine lv_aload_n hx hb dL_law_716 rfl (lv_at hl 3 rfl) ?_
  refine lv_iload_n hx hb dL_law_717 rfl (lv_at hl 0 rfl) ?_
  refine lv_iconst (v := 2) hx hb dL_law_718 (by decide) ?_
  refine lv_iadd hx hb dL_law_719 ?_
  refine m_vi (y := nI (6 * k + 2)) (by rw [show (2 : Int32) = nI 2 from rfl, nI_add]) ?_
  refine va_sld hx hb hX hbl hbA hM.2 (vp_in_nI (by omega) (by omega)) dL_law_720 ?_
  refine m_vi (y := xs (6 * k + 2)) (by rw [nI_clamp (by omega)]) ?_
  have hM : mS D b s 220 (jM b kc S1 T) _ _ := hM
  refine g_callI (J := jM b kc S1) (m_runV calV_X13_price wd_1468 (g_M_price l D kc b S1 T (xs (6 * k + 1)) ((xs (6 * k + 1)).toInt) rfl (xs (6 * k + 2)) ((xs (6 * k + 2)).toInt) rfl hT ey) C hM (i := 192) (by omega) (e_192 b kc S1 T) rfl hl.1 rfl rfl (Nat.le_of_ble_eq_true rfl) dL_law_721 ⟨Nat.le_of_ble_eq_true rfl, Nat.le_of_ble_eq_true rfl⟩ ⟨Nat.le_of_ble_eq_true rfl, Nat.le_of_ble_eq_true rfl⟩) hM (fun zm H locs bzm hM hT => ?_)
  have hM : mS D b s 220 (jX b kc T1 S1) _ _ := hM
  refine lv_pop hx hb dL_law_724 rfl ?_
  refine lv_goto (tgt := 774) hx hb dL_law_725 (by decide) ?_
  exact kk S1 T1 _ _ hS hT hI1 hM
set_option maxHeartbeats 4000000 in
set_option maxRecDepth 100000 in
theorem law_case20 {p : Program} {l : Launch} {e : Env} {s : State} {m : MethodId} {below : List Frame} {meth : Method} {c : Code} {D : va_G} {kc : Nat → ClassId} {sb L k : Nat} {xs : Nat → Int32} {H : Heap} {locs : List Loc} {ls : Array Slot} {b : Nat} {S T : SS} {Q : State → Prop} (Inv : SS → SS → Prop) (hc : hc_pays Inv) (C : mC p s m #[Value.ref sb] c code 4 RL D kc b) (hX : va_X sb L xs s s.heap) (hbl : sb < s.heap.size) (hsz : s.heap.size = b) (hk : 6 * k + 6 ≤ L) (hL : L ≤ 3072) (hS : rng S) (hT : rng T) (hI : Inv S T) (hM : mS D b s 220 (jX b kc T S) H locs) (hl : lv_has ls 4 [(3, .int (nI (6 * k))), (2, .ref (b + 192)), (1, .ref (b + 0)), (0, .ref sb)]) (kk : ∀ (S1 T1 : SS) (H1 : Heap) (locs1 : List Loc), rng S1 → rng T1 → Inv S1 T1 → mS D b s 220 (jX b kc T1 S1) H1 locs1 → W p l e room_1 s m #[Value.ref sb] below meth c H1 locs1 220 112647 Q (F0 m 774 ls [])) : W p l e room_1 s m #[Value.ref sb] below meth c H locs 220 112647 Q (F0 m 728 ls []) := by
  obtain ⟨hx, hb, hml, hown, hts, hE, hbs⟩ := id C
  have hbA : ¬ b ≤ sb := by omega
  refine lv_aload_n hx hb dL_law_728 rfl (lv_at hl 2 rfl) ?_
  refine lv_aload_n hx hb dL_law_729 rfl (lv_at hl 3 rfl) ?_
  refine lv_iload_n hx hb dL_law_730 rfl (lv_at hl 0 rfl) ?_
  refine lv_iconst (v := 1) hx hb dL_law_731 (by decide) ?_
  refine lv_iadd hx hb dL_law_732 ?_
  refine m_vi (y := nI (6 * k + 1)) (by rw [show (1 : Int32) = nI 1 from rfl, nI_add]) ?_
  refine va_sld hx hb hX hbl hbA hM.2 (vp_in_nI (by omega) (by omega)) dL_law_733 ?_
  refine m_vi (y := xs (6 * k + 1)) (by rw [nI_clamp (by omega)]) ?_
  obtain ⟨r, t, T1, ex, ey, hI1⟩ := hc S T ((xs (6 * k + 1)).toInt) hS hT (i32_of (show (xs (6 * k + 1)).toInt = (xs (6 * k + 1)).toInt from rfl)) hI
  refine g_callI (J := jX b kc T) (m_runV calV_X11_pays wd_991 (g_MP_pays l D kc b T S (xs (6 * k + 1)) ((xs (6 * k + 1)).toInt) rfl hS ex) C hM (i := 0) (by omega) (e_0 b kc T S) rfl hl.1 rfl rfl (Nat.le_of_ble_eq_true rfl) dL_law_734 ⟨Nat.le_of_ble_eq_true rfl, Nat.le_of_ble_eq_true rfl⟩ ⟨Nat.le_of_ble_eq_true rfl, Nat.le_of_ble_eq_true rfl⟩) hM (fun zx H locs bzx hM hS => ?_)
  refine lv_pop hx hb dL_law_737 rfl ?_
  refine lv_aload_n hx hb dL_law_738 rfl (lv_at hl 1 rfl) ?_
  refine lv_aload_n hx hb dL_law_739 rfl (lv_at hl 3 rfl) ?_
  refine lv_iload_n hx hb dL_law_740 rfl (lv_at hl 0 rfl) ?_
  refine lv_iconst (v := 1) hx hb dL_law_741 (by decide) ?_
  refine lv_iadd hx hb dL_law_742 ?_
  refine m_vi (y := nI (6 * k + 1)) (by rw [show (1 : Int32) = nI 1 from rfl, nI_add]) ?_
  refine va_sld hx hb hX hbl hbA hM.2 (vp_in_nI (by omega) (by omega)) dL_law_743 ?_
  refine m_vi (y := xs (6 * k + 1)) (by rw [nI_clamp (by omega)]) ?_
  have hM : mS D b s 220 (jM b kc S T) _ _ := hM
  refine g_callI (J := jM b kc S) (m_runV calV_X13_pays wd_1474 (g_M_pays l D kc b S T (xs (6 * k + 1)) ((xs (6 * k + 1)).toInt) rfl hT ey) C hM (i := 192) (by omega) (e_192 b kc S T) rfl hl.1 rfl rfl (Nat.le_of_ble_eq_true rfl) dL_law_744 ⟨Nat.le_of_ble_eq_true rfl, Nat.le_of_ble_eq_true rfl⟩ ⟨Nat.le_of_ble_eq_true rfl, Nat.le_of_ble_eq_true rfl⟩) hM (fun zm H locs bzm hM hT => ?_)
  have hM : mS D b s 220 (jX b kc T1 S) _ _ := hM
  refine lv_pop hx hb dL_law_747 rfl ?_
  refine lv_goto (tgt := 774) hx hb dL_law_748 (by decide) ?_
  exact kk S T1 _ _ hS hT hI1 hM
set_option maxHeartbeats 4000000 in
set_option maxRecDepth 100000 in
theorem law_case21 {p : Program} {l : Launch} {e : Env} {s : State} {m : MethodId} {below : List Frame} {meth : Method} {c : Code} {D : va_G} {kc : Nat → ClassId} {sb L k : Nat} {xs : Nat → Int32} {H : Heap} {locs : List Loc} {ls : Array Slot} {b : Nat} {S T : SS} {Q : State → Prop} (Inv : SS → SS → Prop) (hc : hc_count Inv) (C : mC p s m #[Value.ref sb] c code 4 RL D kc b) (hX : va_X sb L xs s s.heap) (hbl : sb < s.heap.size) (hsz : s.heap.size = b) (hk : 6 * k + 6 ≤ L) (hL : L ≤ 3072) (hS : rng S) (hT : rng T) (hI : Inv S T) (hM : mS D b s 220 (jX b kc T S) H locs) (hl : lv_has ls 4 [(3, .int (nI (6 * k))), (2, .ref (b + 192)), (1, .ref (b + 0)), (0, .ref sb)]) (kk : ∀ (S1 T1 : SS) (H1 : Heap) (locs1 : List Loc), rng S1 → rng T1 → Inv S1 T1 → mS D b s 220 (jX b kc T1 S1) H1 locs1 → W p l e room_1 s m #[Value.ref sb] below meth c H1 locs1 220 112647 Q (F0 m 774 ls [])) : W p l e room_1 s m #[Value.ref sb] below meth c H locs 220 112647 Q (F0 m 751 ls []) := by
  obtain ⟨hx, hb, hml, hown, hts, hE, hbs⟩ := id C
  have hbA : ¬ b ≤ sb := by omega
  refine lv_aload_n hx hb dL_law_751 rfl (lv_at hl 2 rfl) ?_
  refine lv_aload_n hx hb dL_law_752 rfl (lv_at hl 3 rfl) ?_
  refine lv_iload_n hx hb dL_law_753 rfl (lv_at hl 0 rfl) ?_
  refine lv_iconst (v := 1) hx hb dL_law_754 (by decide) ?_
  refine lv_iadd hx hb dL_law_755 ?_
  refine m_vi (y := nI (6 * k + 1)) (by rw [show (1 : Int32) = nI 1 from rfl, nI_add]) ?_
  refine va_sld hx hb hX hbl hbA hM.2 (vp_in_nI (by omega) (by omega)) dL_law_756 ?_
  refine m_vi (y := xs (6 * k + 1)) (by rw [nI_clamp (by omega)]) ?_
  obtain ⟨r, t, T1, ex, ey, hI1⟩ := hc S T ((xs (6 * k + 1)).toInt) hS hT (i32_of (show (xs (6 * k + 1)).toInt = (xs (6 * k + 1)).toInt from rfl)) hI
  refine g_callI (J := jX b kc T) (m_runV calV_X11_count wd_1001 (g_MP_count l D kc b T S (xs (6 * k + 1)) ((xs (6 * k + 1)).toInt) rfl hS ex) C hM (i := 0) (by omega) (e_0 b kc T S) rfl hl.1 rfl rfl (Nat.le_of_ble_eq_true rfl) dL_law_757 ⟨Nat.le_of_ble_eq_true rfl, Nat.le_of_ble_eq_true rfl⟩ ⟨Nat.le_of_ble_eq_true rfl, Nat.le_of_ble_eq_true rfl⟩) hM (fun zx H locs bzx hM hS => ?_)
  refine lv_pop hx hb dL_law_760 rfl ?_
  refine lv_aload_n hx hb dL_law_761 rfl (lv_at hl 1 rfl) ?_
  refine lv_aload_n hx hb dL_law_762 rfl (lv_at hl 3 rfl) ?_
  refine lv_iload_n hx hb dL_law_763 rfl (lv_at hl 0 rfl) ?_
  refine lv_iconst (v := 1) hx hb dL_law_764 (by decide) ?_
  refine lv_iadd hx hb dL_law_765 ?_
  refine m_vi (y := nI (6 * k + 1)) (by rw [show (1 : Int32) = nI 1 from rfl, nI_add]) ?_
  refine va_sld hx hb hX hbl hbA hM.2 (vp_in_nI (by omega) (by omega)) dL_law_766 ?_
  refine m_vi (y := xs (6 * k + 1)) (by rw [nI_clamp (by omega)]) ?_
  have hM : mS D b s 220 (jM b kc S T) _ _ := hM
  refine g_callI (J := jM b kc S) (m_runV calV_X13_count wd_1478 (g_M_count l D kc b S T (xs (6 * k + 1)) ((xs (6 * k + 1)).toInt) rfl hT ey) C hM (i := 192) (by omega) (e_192 b kc S T) rfl hl.1 rfl rfl (Nat.le_of_ble_eq_true rfl) dL_law_767 ⟨Nat.le_of_ble_eq_true rfl, Nat.le_of_ble_eq_true rfl⟩ ⟨Nat.le_of_ble_eq_true rfl, Nat.le_of_ble_eq_true rfl⟩) hM (fun zm H locs bzm hM hT => ?_)
  have hM : mS D b s 220 (jX b kc T1 S) _ _ := hM
  refine lv_pop hx hb dL_law_770 rfl ?_
  refine lv_goto (tgt := 774) hx hb dL_law_771 (by decide) ?_
  exact kk S T1 _ _ hS hT hI1 hM
