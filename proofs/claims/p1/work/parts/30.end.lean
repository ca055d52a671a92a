set_option maxHeartbeats 4000000 in
set_option maxRecDepth 100000 in
theorem whole_start {p : Program} {e : Env} {s : State} {m : MethodId} {below : List Frame} {meth : Method} {c : Code} (l : Launch) {sb L : Nat} {xs : Nat → Int32} (hL : L ≤ 6) (C0 : lw_At p s m meth c sb L xs) : W p l e room_1 s m #[Value.ref sb] below meth c s.heap [] 0 0 (lw_Z below #[Value.ref sb] s) (entryFrame m ([Value.ref sb] : List Value).toArray 4) := by
  obtain ⟨hx, hb, hr, hml, hown, htt, hX, hbl, hlk, hgv⟩ := id C0
  obtain ⟨D, kc, hE⟩ := law_env C0
  have hts : ∀ w ∈ GW, w.before #[Value.ref sb] s = true := fun w hw => htt w (List.mem_filter.mp hw).1
  obtain ⟨b, hsz⟩ : ∃ b, s.heap.size = b := ⟨_, rfl⟩
  rw [hsz] at hE
  have hbA : ¬ b ≤ sb := by omega
  have C : mC p s m #[Value.ref sb] c code 4 RL D kc b := ⟨hx, hb, hml, hown, hts, hE, by omega⟩
  obtain ⟨f, hf⟩ : ∃ f : Nat → va_E, f = fun _ => .inl (0, 0, .inl (fun _ => 0)) := ⟨_, rfl⟩
  have hM : mS D b s 0 f s.heap [] := ⟨⟨hsz, fun i hi => absurd hi (by omega)⟩, va_S.rf⟩
  have hl := lv_entry ([.ref sb]) (n := 4) (Nat.le_of_ble_eq_true rfl)
  rw [lg_entry_eq]
  generalize (lg_sl ([.ref sb]) ++ List.replicate (4 - (lg_sl ([.ref sb])).length) Slot.unset).toArray = ls at hl ⊢
  have hl : lv_has ls 4 [(0, .ref sb)] := hl
  refine m_new mk_L_7 C hM (Nat.le_of_ble_eq_true rfl) (Nat.le_of_ble_eq_true rfl) dL_law_0 (fun H f1 ef1 hM => ?_)
  refine lv_dup hx hb dL_law_3 rfl ?_
  have h0_1 : f1 0 = .inr (11, [.null, .null, .null, .null, .null, .null, .null, .null, .null, .null, .null, .null]) := m_eq ef1
  refine m_gov (m_runI calI_X11_init wd_98 (k_x_init l D kc b f1 h0_1) C hM hl.1 rfl rfl (Nat.le_of_ble_eq_true rfl) dL_law_4 ⟨Nat.le_of_ble_eq_true rfl, Nat.le_of_ble_eq_true rfl⟩ ⟨Nat.le_of_ble_eq_true rfl, Nat.le_of_ble_eq_true rfl⟩) hM (fun n1 f2 H locs hp hM => ?_)
  have hp : n1 = 192 ∧ f2 0 = .inr (11, [.ref (b + 1), .ref (b + 3), .ref (b + 4), .ref (b + 6), .ref (b + 8), .ref (b + 10), .ref (b + 174), .ref (b + 177), .ref (b + 178), .ref (b + 181), .ref (b + 183), .ref (b + 190)]) ∧ f2 1 = .inr (10, [.ref (b + 2), .int 0]) ∧ f2 2 = .inl (kc 0, 2000, .inl (fun _ => 0)) ∧ f2 3 = .inr (1, [.int 0, .int (-1)]) ∧ f2 4 = .inr (8, [.ref (b + 5), .int 0]) ∧ f2 5 = .inl (kc 2, 60, .inr (.inl (fun _ => 0))) ∧ f2 6 = .inr (8, [.ref (b + 7), .int 0]) ∧ f2 7 = .inl (kc 2, 150, .inr (.inl (fun _ => 0))) ∧ f2 8 = .inr (8, [.ref (b + 9), .int 0]) ∧ f2 9 = .inl (kc 2, 300, .inr (.inl (fun _ => 0))) ∧ f2 10 = .inr (5, [.ref (b + 11), .ref (b + 12), .ref (b + 13), .int 0, .int 0, .int 0]) ∧ (∃ g, f2 11 = .inl (kc 4, 40, .inr (.inr (.inr (.inr (g)))))) ∧ f2 12 = .inl (kc 1, 3, .inl (mRk)) ∧ f2 13 = .inl (kc 1, 40, .inl (fun _ => 0)) ∧ f2 174 = .inr (9, [.ref (b + 175)]) ∧ f2 175 = .inr (8, [.ref (b + 176), .int 0]) ∧ f2 176 = .inl (kc 2, 150, .inr (.inl (fun _ => 0))) ∧ f2 177 = .inr (4, [.null, .null, .null, .int 0, .int 0, .int 0, .int 0]) ∧ f2 178 = .inr (7, [.ref (b + 179), .ref (b + 180), .int 0, .null, .null]) ∧ (∃ g, f2 179 = .inl (kc 4, 40, .inr (.inr (.inr (.inr (g)))))) ∧ f2 180 = .inl (kc 3, 40, .inl (fun _ => 0)) ∧ f2 181 = .inr (6, [.ref (b + 182)]) ∧ f2 182 = .inl (kc 1, 301, .inl (fun _ => 0)) ∧ f2 183 = .inr (2, [.ref (b + 184), .ref (b + 186), .ref (b + 187), .ref (b + 188), .ref (b + 189), .int 2, .int 3, .int 0, .int 0, .int 0, .int 0, .int 0]) ∧ f2 184 = .inr (8, [.ref (b + 185), .int 0]) ∧ f2 185 = .inl (kc 2, 108, .inr (.inl (fun _ => 0))) ∧ f2 186 = .inl (kc 1, 8, .inl (fun _ => 0)) ∧ f2 187 = .inl (kc 1, 150, .inl (fun _ => 0)) ∧ f2 188 = .inl (kc 1, 150, .inl (fun _ => 0)) ∧ f2 189 = .inl (kc 1, 150, .inl (fun _ => 0)) ∧ f2 190 = .inr (0, [.ref (b + 191)]) ∧ f2 191 = .inl (kc 1, 5, .inl (mPr)) := hp
  obtain ⟨rfl, h0_2, h1_2, h2_2, h3_2, h4_2, h5_2, h6_2, h7_2, h8_2, h9_2, h10_2, ⟨g11, h11_2⟩, h12_2, h13_2, h174_2, h175_2, h176_2, h177_2, h178_2, ⟨g179, h179_2⟩, h180_2, h181_2, h182_2, h183_2, h184_2, h185_2, h186_2, h187_2, h188_2, h189_2, h190_2, h191_2⟩ := hp
  refine lv_astore_n (lv' := [(1, .ref (b + 0)), (0, .ref sb)]) hx hb dL_law_7 rfl hl (by decide) rfl (fun ls hl => ?_)
  refine m_new mk_L_10 C hM (Nat.le_of_ble_eq_true rfl) (Nat.le_of_ble_eq_true rfl) dL_law_8 (fun H f3 ef3 hM => ?_)
  refine lv_dup hx hb dL_law_11 rfl ?_
  have h192_3 : f3 192 = .inr (13, [.null, .null, .null, .int 0, .int 0, .int 0, .null, .null, .int 0, .int 0, .int 0, .int 0, .int 0, .int 0, .int 0, .int 0, .null, .null, .null, .null, .null, .null, .null, .null, .null, .null, .null, .int 0, .null, .null, .null, .null, .null, .null, .null, .int 0, .int 0, .int 0, .int 0, .null, .null, .null, .null]) := m_eq ef3
  refine m_gov (m_runI calI_X13_init wd_1015 (k_m_init l D kc b f3 h192_3) C hM hl.1 rfl rfl (Nat.le_of_ble_eq_true rfl) dL_law_12 ⟨Nat.le_of_ble_eq_true rfl, Nat.le_of_ble_eq_true rfl⟩ ⟨Nat.le_of_ble_eq_true rfl, Nat.le_of_ble_eq_true rfl⟩) hM (fun n2 f4 H locs hp hM => ?_)
  have hp : n2 = 220 ∧ (∀ j, j < 192 → f4 j = f3 j) ∧ f4 192 = .inr (13, [.ref (b + 193), .ref (b + 194), .ref (b + 195), .int 0, .int 0, .int 0, .ref (b + 196), .ref (b + 197), .int 0, .int 0, .int 0, .int 0, .int 0, .int 0, .int 0, .int (-1), .ref (b + 198), .ref (b + 199), .ref (b + 200), .ref (b + 201), .ref (b + 202), .ref (b + 203), .ref (b + 204), .ref (b + 205), .ref (b + 206), .ref (b + 207), .ref (b + 208), .int 0, .ref (b + 209), .ref (b + 210), .ref (b + 211), .ref (b + 212), .ref (b + 213), .ref (b + 214), .ref (b + 215), .int 0, .int 0, .int 0, .int 0, .ref (b + 216), .ref (b + 217), .ref (b + 218), .ref (b + 219)]) ∧ f4 193 = .inl (kc 2, 60, .inr (.inl (fun _ => 0))) ∧ f4 194 = .inl (kc 2, 150, .inr (.inl (fun _ => 0))) ∧ f4 195 = .inl (kc 2, 320, .inr (.inl (fun _ => 0))) ∧ f4 197 = .inl (kc 0, 2000, .inl (fun _ => 0)) ∧ f4 198 = .inl (kc 2, 150, .inr (.inl (fun _ => 0))) ∧ f4 199 = .inl (kc 1, 41, .inl (fun _ => 0)) ∧ f4 200 = .inl (kc 1, 41, .inl (fun _ => 0)) ∧ f4 201 = .inl (kc 1, 41, .inl (fun _ => 0)) ∧ f4 202 = .inl (kc 1, 41, .inl (fun _ => 0)) ∧ f4 203 = .inl (kc 1, 41, .inl (fun _ => 0)) ∧ f4 204 = .inl (kc 1, 41, .inl (fun _ => 0)) ∧ f4 205 = .inl (kc 1, 41, .inl (fun _ => 0)) ∧ f4 206 = .inl (kc 2, 246, .inr (.inl (fun _ => 0))) ∧ f4 207 = .inl (kc 3, 41, .inl (fun _ => 0)) ∧ f4 208 = .inl (kc 3, 41, .inl (fun _ => 0)) ∧ f4 209 = .inl (kc 1, 3, .inl (mRk)) ∧ f4 210 = .inl (kc 1, 5, .inl (mPr)) ∧ f4 211 = .inl (kc 1, 2, .inl (upd (upd (fun _ => 0) 0 2) 1 3)) ∧ f4 212 = .inl (kc 1, 40, .inl (fun _ => 0)) ∧ f4 213 = .inl (kc 1, 40, .inl (fun _ => 0)) ∧ f4 214 = .inl (kc 3, 40, .inl (fun _ => 0)) ∧ f4 215 = .inl (kc 1, 103041, .inl (fun _ => 0)) ∧ f4 216 = .inl (kc 1, 8, .inl (fun _ => 0)) ∧ f4 217 = .inl (kc 1, 470, .inl (fun _ => 0)) ∧ f4 218 = .inl (kc 1, 470, .inl (fun _ => 0)) ∧ f4 219 = .inl (kc 1, 470, .inl (fun _ => 0)) := hp
  obtain ⟨rfl, fr4, h192_4, h193_4, h194_4, h195_4, h197_4, h198_4, h199_4, h200_4, h201_4, h202_4, h203_4, h204_4, h205_4, h206_4, h207_4, h208_4, h209_4, h210_4, h211_4, h212_4, h213_4, h214_4, h215_4, h216_4, h217_4, h218_4, h219_4⟩ := hp
  refine lv_astore_n (lv' := [(2, .ref (b + 192)), (1, .ref (b + 0)), (0, .ref sb)]) hx hb dL_law_15 rfl hl (by decide) rfl (fun ls hl => ?_)
  refine lv_iconst (v := 0) hx hb dL_law_16 (by decide) ?_
  refine lv_istore_n (lv' := [(3, .int 0), (2, .ref (b + 192)), (1, .ref (b + 0)), (0, .ref sb)]) hx hb dL_law_17 rfl hl (by decide) rfl (fun ls hl => ?_)
  have h0_3 : f3 0 = .inr (11, [.ref (b + 1), .ref (b + 3), .ref (b + 4), .ref (b + 6), .ref (b + 8), .ref (b + 10), .ref (b + 174), .ref (b + 177), .ref (b + 178), .ref (b + 181), .ref (b + 183), .ref (b + 190)]) := m_ne ef3 h0_2 (by decide)
  have h0_4 : f4 0 = .inr (11, [.ref (b + 1), .ref (b + 3), .ref (b + 4), .ref (b + 6), .ref (b + 8), .ref (b + 10), .ref (b + 174), .ref (b + 177), .ref (b + 178), .ref (b + 181), .ref (b + 183), .ref (b + 190)]) := (fr4 0 (by decide)).trans h0_3
  have h1_3 : f3 1 = .inr (10, [.ref (b + 2), .int 0]) := m_ne ef3 h1_2 (by decide)
  have h1_4 : f4 1 = .inr (10, [.ref (b + 2), .int 0]) := (fr4 1 (by decide)).trans h1_3
  have h2_3 : f3 2 = .inl (kc 0, 2000, .inl (fun _ => 0)) := m_ne ef3 h2_2 (by decide)
  have h2_4 : f4 2 = .inl (kc 0, 2000, .inl (fun _ => 0)) := (fr4 2 (by decide)).trans h2_3
  have h3_3 : f3 3 = .inr (1, [.int 0, .int (-1)]) := m_ne ef3 h3_2 (by decide)
  have h3_4 : f4 3 = .inr (1, [.int 0, .int (-1)]) := (fr4 3 (by decide)).trans h3_3
  have h4_3 : f3 4 = .inr (8, [.ref (b + 5), .int 0]) := m_ne ef3 h4_2 (by decide)
  have h4_4 : f4 4 = .inr (8, [.ref (b + 5), .int 0]) := (fr4 4 (by decide)).trans h4_3
  have h5_3 : f3 5 = .inl (kc 2, 60, .inr (.inl (fun _ => 0))) := m_ne ef3 h5_2 (by decide)
  have h5_4 : f4 5 = .inl (kc 2, 60, .inr (.inl (fun _ => 0))) := (fr4 5 (by decide)).trans h5_3
  have h6_3 : f3 6 = .inr (8, [.ref (b + 7), .int 0]) := m_ne ef3 h6_2 (by decide)
  have h6_4 : f4 6 = .inr (8, [.ref (b + 7), .int 0]) := (fr4 6 (by decide)).trans h6_3
  have h7_3 : f3 7 = .inl (kc 2, 150, .inr (.inl (fun _ => 0))) := m_ne ef3 h7_2 (by decide)
  have h7_4 : f4 7 = .inl (kc 2, 150, .inr (.inl (fun _ => 0))) := (fr4 7 (by decide)).trans h7_3
  have h8_3 : f3 8 = .inr (8, [.ref (b + 9), .int 0]) := m_ne ef3 h8_2 (by decide)
  have h8_4 : f4 8 = .inr (8, [.ref (b + 9), .int 0]) := (fr4 8 (by decide)).trans h8_3
  have h9_3 : f3 9 = .inl (kc 2, 300, .inr (.inl (fun _ => 0))) := m_ne ef3 h9_2 (by decide)
  have h9_4 : f4 9 = .inl (kc 2, 300, .inr (.inl (fun _ => 0))) := (fr4 9 (by decide)).trans h9_3
  have h10_3 : f3 10 = .inr (5, [.ref (b + 11), .ref (b + 12), .ref (b + 13), .int 0, .int 0, .int 0]) := m_ne ef3 h10_2 (by decide)
  have h10_4 : f4 10 = .inr (5, [.ref (b + 11), .ref (b + 12), .ref (b + 13), .int 0, .int 0, .int 0]) := (fr4 10 (by decide)).trans h10_3
  have h11_3 : f3 11 = .inl (kc 4, 40, .inr (.inr (.inr (.inr (g11))))) := m_ne ef3 h11_2 (by decide)
  have h11_4 : f4 11 = .inl (kc 4, 40, .inr (.inr (.inr (.inr (g11))))) := (fr4 11 (by decide)).trans h11_3
  have h12_3 : f3 12 = .inl (kc 1, 3, .inl (mRk)) := m_ne ef3 h12_2 (by decide)
  have h12_4 : f4 12 = .inl (kc 1, 3, .inl (mRk)) := (fr4 12 (by decide)).trans h12_3
  have h13_3 : f3 13 = .inl (kc 1, 40, .inl (fun _ => 0)) := m_ne ef3 h13_2 (by decide)
  have h13_4 : f4 13 = .inl (kc 1, 40, .inl (fun _ => 0)) := (fr4 13 (by decide)).trans h13_3
  have h174_3 : f3 174 = .inr (9, [.ref (b + 175)]) := m_ne ef3 h174_2 (by decide)
  have h174_4 : f4 174 = .inr (9, [.ref (b + 175)]) := (fr4 174 (by decide)).trans h174_3
  have h175_3 : f3 175 = .inr (8, [.ref (b + 176), .int 0]) := m_ne ef3 h175_2 (by decide)
  have h175_4 : f4 175 = .inr (8, [.ref (b + 176), .int 0]) := (fr4 175 (by decide)).trans h175_3
  have h176_3 : f3 176 = .inl (kc 2, 150, .inr (.inl (fun _ => 0))) := m_ne ef3 h176_2 (by decide)
  have h176_4 : f4 176 = .inl (kc 2, 150, .inr (.inl (fun _ => 0))) := (fr4 176 (by decide)).trans h176_3
  have h177_3 : f3 177 = .inr (4, [.null, .null, .null, .int 0, .int 0, .int 0, .int 0]) := m_ne ef3 h177_2 (by decide)
  have h177_4 : f4 177 = .inr (4, [.null, .null, .null, .int 0, .int 0, .int 0, .int 0]) := (fr4 177 (by decide)).trans h177_3
  have h178_3 : f3 178 = .inr (7, [.ref (b + 179), .ref (b + 180), .int 0, .null, .null]) := m_ne ef3 h178_2 (by decide)
  have h178_4 : f4 178 = .inr (7, [.ref (b + 179), .ref (b + 180), .int 0, .null, .null]) := (fr4 178 (by decide)).trans h178_3
  have h179_3 : f3 179 = .inl (kc 4, 40, .inr (.inr (.inr (.inr (g179))))) := m_ne ef3 h179_2 (by decide)
  have h179_4 : f4 179 = .inl (kc 4, 40, .inr (.inr (.inr (.inr (g179))))) := (fr4 179 (by decide)).trans h179_3
  have h180_3 : f3 180 = .inl (kc 3, 40, .inl (fun _ => 0)) := m_ne ef3 h180_2 (by decide)
  have h180_4 : f4 180 = .inl (kc 3, 40, .inl (fun _ => 0)) := (fr4 180 (by decide)).trans h180_3
  have h181_3 : f3 181 = .inr (6, [.ref (b + 182)]) := m_ne ef3 h181_2 (by decide)
  have h181_4 : f4 181 = .inr (6, [.ref (b + 182)]) := (fr4 181 (by decide)).trans h181_3
  have h182_3 : f3 182 = .inl (kc 1, 301, .inl (fun _ => 0)) := m_ne ef3 h182_2 (by decide)
  have h182_4 : f4 182 = .inl (kc 1, 301, .inl (fun _ => 0)) := (fr4 182 (by decide)).trans h182_3
  have h183_3 : f3 183 = .inr (2, [.ref (b + 184), .ref (b + 186), .ref (b + 187), .ref (b + 188), .ref (b + 189), .int 2, .int 3, .int 0, .int 0, .int 0, .int 0, .int 0]) := m_ne ef3 h183_2 (by decide)
  have h183_4 : f4 183 = .inr (2, [.ref (b + 184), .ref (b + 186), .ref (b + 187), .ref (b + 188), .ref (b + 189), .int 2, .int 3, .int 0, .int 0, .int 0, .int 0, .int 0]) := (fr4 183 (by decide)).trans h183_3
  have h184_3 : f3 184 = .inr (8, [.ref (b + 185), .int 0]) := m_ne ef3 h184_2 (by decide)
  have h184_4 : f4 184 = .inr (8, [.ref (b + 185), .int 0]) := (fr4 184 (by decide)).trans h184_3
  have h185_3 : f3 185 = .inl (kc 2, 108, .inr (.inl (fun _ => 0))) := m_ne ef3 h185_2 (by decide)
  have h185_4 : f4 185 = .inl (kc 2, 108, .inr (.inl (fun _ => 0))) := (fr4 185 (by decide)).trans h185_3
  have h186_3 : f3 186 = .inl (kc 1, 8, .inl (fun _ => 0)) := m_ne ef3 h186_2 (by decide)
  have h186_4 : f4 186 = .inl (kc 1, 8, .inl (fun _ => 0)) := (fr4 186 (by decide)).trans h186_3
  have h187_3 : f3 187 = .inl (kc 1, 150, .inl (fun _ => 0)) := m_ne ef3 h187_2 (by decide)
  have h187_4 : f4 187 = .inl (kc 1, 150, .inl (fun _ => 0)) := (fr4 187 (by decide)).trans h187_3
  have h188_3 : f3 188 = .inl (kc 1, 150, .inl (fun _ => 0)) := m_ne ef3 h188_2 (by decide)
  have h188_4 : f4 188 = .inl (kc 1, 150, .inl (fun _ => 0)) := (fr4 188 (by decide)).trans h188_3
  have h189_3 : f3 189 = .inl (kc 1, 150, .inl (fun _ => 0)) := m_ne ef3 h189_2 (by decide)
  have h189_4 : f4 189 = .inl (kc 1, 150, .inl (fun _ => 0)) := (fr4 189 (by decide)).trans h189_3
  have h190_3 : f3 190 = .inr (0, [.ref (b + 191)]) := m_ne ef3 h190_2 (by decide)
  have h190_4 : f4 190 = .inr (0, [.ref (b + 191)]) := (fr4 190 (by decide)).trans h190_3
  have h191_3 : f3 191 = .inl (kc 1, 5, .inl (mPr)) := m_ne ef3 h191_2 (by decide)
  have h191_4 : f4 191 = .inl (kc 1, 5, .inl (mPr)) := (fr4 191 (by decide)).trans h191_3
  refine W.cs (cells' := 220) (slots' := 112647) rfl rfl ?_
  refine lv_iload_n hx hb dL_law_18 rfl (lv_at hl 0 rfl) ?_
  refine lv_aload_n hx hb dL_law_19 rfl (lv_at hl 3 rfl) ?_
  refine va_slen hx hb hX hbl hbA hM.2 dL_law_20 ?_
  refine lv_bipush (v := 6) hx hb dL_law_21 (by decide) ?_
  refine lv_isub hx hb dL_law_23 ?_
  by_cases h6 : L < 6
  · have hlt : ∀ q, q < 6 → Int32.ofNat q - 6 < 0 := by decide
    refine lv_icmp_gt (tgt := 781) hx hb dL_law_24 (by decide) (fun _ => ?_) (fun h => absurd (hlt L h6) h)
    refine lv_iconst (v := 1) hx hb dL_law_781 (by decide) ?_
    refine va_forget (fun q hq => by have h9 := hM.2.2.2 q hq; show s.heap.size ≤ q.base; rw [hsz]; exact h9) ?_
    refine W.widen (k := 600002) (n := 7302232) (Nat.le_of_ble_eq_true rfl) (Nat.le_of_ble_eq_true rfl) ?_
    exact lw_ret hx hb hr hlk dL_law_782
  · have h6 : L = 6 := by omega
    subst h6
    refine m_vi (y := 0) rfl ?_
    refine lv_icmp_gt (tgt := 781) hx hb dL_law_24 (by decide) (fun h => absurd h (by decide)) (fun _ => ?_)
    refine lv_aload_n hx hb dL_law_27 rfl (lv_at hl 3 rfl) ?_
    refine lv_iload_n hx hb dL_law_28 rfl (lv_at hl 0 rfl) ?_
    refine va_sld hx hb hX hbl hbA hM.2 (m_in (by decide)) dL_law_29 ?_
    refine lv_bipush (v := 31) hx hb dL_law_30 (by decide) ?_
    refine lv_iand hx hb dL_law_32 ?_
    obtain ⟨j, hj, ej⟩ := pk_andE (xs (0 : Int32).toNatClampNeg) (m := 31) 5 (by decide)
    refine m_vi ej ?_
    by_cases hd : 22 ≤ j
    · refine lv_tableOut (tgt := 775) hx hb dL_law_33 (Or.inr (by rw [nI_toInt (by omega)]; omega)) (by decide) ?_
      exact law_tail C hX hbl hsz hr hlk hM hl
    by_cases j0 : j = 0
    · subst j0
      refine lv_tableIn (tgt := 136) hx hb dL_law_33 (by decide) (by decide) rfl (by decide) ?_
      exact law_case0 C hX hbl hsz hr hlk hM hl h0_4 h1_4 h2_4 h192_4 h197_4
    by_cases j1 : j = 1
    · subst j1
      refine lv_tableIn (tgt := 199) hx hb dL_law_33 (by decide) (by decide) rfl (by decide) ?_
      exact law_case1 C hX hbl hsz hr hlk hM hl h0_4 h1_4 h192_4
    by_cases j2 : j = 2
    · subst j2
      refine lv_tableIn (tgt := 222) hx hb dL_law_33 (by decide) (by decide) rfl (by decide) ?_
      exact law_case2 C hX hbl hsz hr hlk hM hl h0_4 h1_4 h3_4 h4_4 h8_4 h10_4 h174_4 h175_4 h178_4 h192_4
    by_cases j3 : j = 3
    · subst j3
      refine lv_tableIn (tgt := 235) hx hb dL_law_33 (by decide) (by decide) rfl (by decide) ?_
      exact law_case3 C hX hbl hsz hr hlk hM hl h0_4 h1_4 h3_4 h6_4 h174_4 h175_4 h192_4
    by_cases j4 : j = 4
    · subst j4
      refine lv_tableIn (tgt := 248) hx hb dL_law_33 (by decide) (by decide) rfl (by decide) ?_
      exact law_case4 C hX hbl hsz hr hlk hM hl h0_4 h1_4 h3_4 h4_4 h8_4 h10_4 h177_4 h178_4 h192_4
    by_cases j5 : j = 5
    · subst j5
      refine lv_tableIn (tgt := 261) hx hb dL_law_33 (by decide) (by decide) rfl (by decide) ?_
      exact law_case5 C hX hbl hsz hr hlk hM hl h0_4 h3_4 h192_4
    by_cases j6 : j = 6
    · subst j6
      refine lv_tableIn (tgt := 284) hx hb dL_law_33 (by decide) (by decide) rfl (by decide) ?_
      exact law_case6 C hX hbl hsz hr hlk hM hl h0_4 h4_4 h6_4 h8_4 h192_4
    by_cases j7 : j = 7
    · subst j7
      refine lv_tableIn (tgt := 318) hx hb dL_law_33 (by decide) (by decide) rfl (by decide) ?_
      exact law_case7 C hX hbl hsz hr hlk hM hl h0_4 h10_4 h192_4
    by_cases j8 : j = 8
    · subst j8
      refine lv_tableIn (tgt := 351) hx hb dL_law_33 (by decide) (by decide) rfl (by decide) ?_
      exact law_case8 C hX hbl hsz hr hlk hM hl h0_4 h10_4 h192_4
    by_cases j9 : j = 9
    · subst j9
      refine lv_tableIn (tgt := 400) hx hb dL_law_33 (by decide) (by decide) rfl (by decide) ?_
      exact law_case9 C hX hbl hsz hr hlk hM hl h0_4 h4_4 h8_4 h10_4 h12_4 h178_4 h192_4 h209_4
    by_cases j10 : j = 10
    · subst j10
      refine lv_tableIn (tgt := 433) hx hb dL_law_33 (by decide) (by decide) rfl (by decide) ?_
      exact law_case10 C hX hbl hsz hr hlk hM hl h0_4 h10_4 h192_4
    by_cases j11 : j = 11
    · subst j11
      refine lv_tableIn (tgt := 466) hx hb dL_law_33 (by decide) (by decide) rfl (by decide) ?_
      exact law_case11 C hX hbl hsz hr hlk hM hl h0_4 h10_4 h192_4
    by_cases j12 : j = 12
    · subst j12
      refine lv_tableIn (tgt := 499) hx hb dL_law_33 (by decide) (by decide) rfl (by decide) ?_
      exact law_case12 C hX hbl hsz hr hlk hM hl h0_4 h183_4 h192_4 h211_4
    by_cases j13 : j = 13
    · subst j13
      refine lv_tableIn (tgt := 532) hx hb dL_law_33 (by decide) (by decide) rfl (by decide) ?_
      exact law_case13 C hX hbl hsz hr hlk hM hl h0_4 h4_4 h6_4 h10_4 h178_4 h181_4 h182_4 h183_4 h184_4 h192_4 h211_4 h215_4
    by_cases j14 : j = 14
    · subst j14
      refine lv_tableIn (tgt := 545) hx hb dL_law_33 (by decide) (by decide) rfl (by decide) ?_
      exact law_case14 C hX hbl hsz hr hlk hM hl h0_4 h183_4 h192_4
    by_cases j15 : j = 15
    · subst j15
      refine lv_tableIn (tgt := 568) hx hb dL_law_33 (by decide) (by decide) rfl (by decide) ?_
      exact law_case15 C hX hbl hsz hr hlk hM hl h0_4 h183_4 h192_4
    by_cases j16 : j = 16
    · subst j16
      refine lv_tableIn (tgt := 601) hx hb dL_law_33 (by decide) (by decide) rfl (by decide) ?_
      exact law_case16 C hX hbl hsz hr hlk hM hl h0_4 h4_4 h6_4 h8_4 h181_4 h182_4 h192_4 h215_4
    by_cases j17 : j = 17
    · subst j17
      refine lv_tableIn (tgt := 634) hx hb dL_law_33 (by decide) (by decide) rfl (by decide) ?_
      exact law_case17 C hX hbl hsz hr hlk hM hl h0_4 h6_4 h192_4
    by_cases j18 : j = 18
    · subst j18
      refine lv_tableIn (tgt := 647) hx hb dL_law_33 (by decide) (by decide) rfl (by decide) ?_
      exact law_case18 C hX hbl hsz hr hlk hM hl h0_4 h10_4 h192_4
    by_cases j19 : j = 19
    · subst j19
      refine lv_tableIn (tgt := 696) hx hb dL_law_33 (by decide) (by decide) rfl (by decide) ?_
      exact law_case19 C hX hbl hsz hr hlk hM hl h0_4 h190_4 h191_4 h192_4 h210_4
    by_cases j20 : j = 20
    · subst j20
      refine lv_tableIn (tgt := 729) hx hb dL_law_33 (by decide) (by decide) rfl (by decide) ?_
      exact law_case20 C hX hbl hsz hr hlk hM hl h0_4 h10_4 h190_4 h192_4
    by_cases j21 : j = 21
    · subst j21
      refine lv_tableIn (tgt := 752) hx hb dL_law_33 (by decide) (by decide) rfl (by decide) ?_
      exact law_case21 C hX hbl hsz hr hlk hM hl h0_4 h1_4 h4_4 h6_4 h8_4 h10_4 h12_4 h192_4 h209_4
    omega
set_option maxHeartbeats 4000000 in
theorem lw_walk (l : Launch) (b : Addr) (xs : List Int32) : MetFree l x (headSpec (Jvm.Cond.code x code maxLocals ret :: tables_1) room_1) (lw_P b xs) (fun _ _ _ _ _ => True) lw_Q := by
  refine MetFree.of_bodyS (code := code) (maxLocals := maxLocals) (ret := ret) (by decide) ?_ ?_
  · intro args s m h hn
    obtain ⟨meth, c, h1, h2, h3, h4, h5, h6, -, -⟩ := Cond.code_spec hn (atoms_spec (ws := Jvm.Cond.code x code maxLocals ret :: tables_1) h _ List.mem_cons_self)
    exact ⟨meth, c, h1, h2, h3, h4, h5, h6⟩
  · intro p e s m args below meth c s₁ B hml0 hP _
    obtain ⟨rfl, hx, hbd, hgv⟩ := hP
    obtain ⟨scr, harrAt, hlist, hof, hsmall⟩ := hx
    obtain ⟨hcb, hkn, -, -⟩ := State.arrayAt?_spec harrAt
    have hown : s.vm.findClass R_law = some m.cls := findClass_of_methodNamed B.named
    have hts0 : ∀ c ∈ (Jvm.Cond.code x code maxLocals ret :: tables_1), c.before #[Value.ref b] s = true := atoms_spec (ws := Jvm.Cond.code x code maxLocals ret :: tables_1) B.pre
    have hts : ∀ w ∈ lw_tbl, w.before #[Value.ref b] s = true := k2_hts_sels lw_privs (fun w hw => hts0 w (List.mem_cons_of_mem _ hw)) lw_privs_ok
    have hml : c.maxLocals = 4 := B.maxLocals_eq (hts0 _ List.mem_cons_self)
    have X₀ : Stand p l e room_1 s m #[Value.ref b] below meth c s₁ [] 0 0 := Stand.of_body B
    have hh0 : s₁.heap = s.heap := by rw [B.state]; rfl
    have hsz : scr.slots.size = xs.length := by rw [← Array.length_toList, hlist, List.length_map]
    have hval : ∀ j : Nat, j < xs.length → scr.slots[j]? = some (.int (xs.getD j 0)) := fun j hj => by
      rw [← Array.getElem?_toList, hlist]
      simp [hj]
    have hbl : b < s.heap.size := (Array.getElem?_eq_some_iff.mp hcb).1
    have hX : va_X b xs.length (fun j => xs.getD j 0) s s.heap := ⟨scr, hcb, hof, hkn, hsz, hval⟩
    have K : W p l e room_1 s m #[Value.ref b] below meth c s₁.heap [] 0 0 (lw_Z below #[Value.ref b] s) (entryFrame m ([Value.ref b] : List Value).toArray 4) := by
      rw [hh0]
      exact whole_start l hbd ⟨B.exec, B.bytes, B.returns, hml, hown, hts, hX, hbl, B.notSynchronized, hgv⟩
    obtain ⟨t, a1, o, b1, b2, b3⟩ := K s₁ rfl X₀
    exact ⟨t, o, a1, b1, b2, b3⟩
theorem lw_pre_spec {args : Array Value} {s : State} (h : (Jvm.Cond.and given_1 narrow_1).before args s = true) (hr : rest_1_c.before args s = true) : ∃ (b : Addr) (xs : List Int32), lw_P b xs args s := by
  have hs := flat_of_before _ h
  have hq := flat_of_before _ hr
  have hc : (Cond.count 1).before args s = true := hs _ (by decide +kernel)
  have harr : (Cond.arrayOf (.arg 0) .int).before args s = true := hs _ (by decide +kernel)
  have hle : (Cond.le (.length (.arg 0)) (.int 6)).before args s = true := hs _ (by decide +kernel)
  have hlen : (Cond.isInt (.length (.arg 0))).before args s = true := hq _ (by decide +kernel)
  have hall : (Cond.all (.arg 0) (.isInt (.elem (.arg 0) (.index 0)))).before args s = true := hq _ (by decide +kernel)
  obtain ⟨b, xs, hb, hx⟩ := State.ints_of_pre rfl harr hlen hall
  have hsm : xs.length < 2 ^ 31 := hx.choose_spec.2.2.2
  have hev : (Term.length (.arg 0)).eval args s none [] s = some (.int xs.length.toInt32) := hx.length_eval hb
  have hv := Cond.le_ints hev (show (Term.int 6).eval args s none [] s = some (.int 6) from rfl)
  have hd : xs.length.toInt32 ≤ 6 := by
    simpa [Cond.before, Cond.holds, hv] using hle
  have hN : xs.length ≤ 6 := (Int32.ofNat_le_ofNat hsm (by decide)).mp (show Int32.ofNat xs.length ≤ Int32.ofNat 6 from hd)
  exact ⟨b, xs, Cond.one_arg hc (show args[0]? = some (.ref b) from hb), hx, hN, h⟩
theorem lw_comes (l : Launch) : Comes l x (Jvm.Cond.code x code maxLocals ret :: tables_1) room_1 (fun tb e args s => Calls_1 tb e args s ∧ rest_1 tb e args s ∧ Pre_1 tb e args s)
    (fun _ _ args s o t => lw_Q args s o t) := by
  intro p e ha hc hk s m args below hf hfit hheap happ hpre
  obtain ⟨b, xs, hP⟩ := lw_pre_spec hpre.2.2 hpre.2.1
  obtain ⟨k, o, h1, h2, h3, hQ⟩ := lw_walk l b xs p e ha hc hk s m args below hf ((Spec.applies_iff_loose hf).mp happ).1 hP trivial
  exact ⟨k, o, h1, h2, h3, hQ⟩
theorem lw_frame {s t : State} {o : Outcome} {args : Array Value} (h : Framed s o t [] 600002 7302232) :
    Framed s o t (fieldLocs frame_1_writes args s ++ arrayLocs frame_1_arrays args s ++ staticLocs frame_1_statics s) 600002 7302232 := h
theorem lw_limb (L : Cond) (hL : ∀ (args : Array Value) (s t : State), L.after args s (.returned (some (.int 1))) t = true) :
    ArmFor flags0 classFile x code maxLocals ret World_1 tables_1 room_1 Calls_1 rest_1 Pre_1
      (fun tb e a s o t => postC L tb e a s o t ∧ Framed s o t (fieldLocs frame_1_writes a s ++ arrayLocs frame_1_arrays a s ++ staticLocs frame_1_statics s) 600002 7302232) := by
  intro l _ _ _ p e ha hc hk s m args below hf hfit hheap happ hpre
  obtain ⟨k, o, h1, h2, h3, rfl, hF⟩ := lw_comes l p e ha hc hk s m args below hf hfit hheap happ hpre
  exact ⟨k, _, h1, h2, h3, hL args s _, lw_frame hF⟩
theorem i_vc : Claimed_1_1 ∧ Claimed_1_2 := ⟨lw_limb limb_1_1 (fun args s t => by simp [limb_1_1, Cond.after, Cond.holds, Cond.value]), lw_limb limb_1_2 (fun args s t => Cond.after_iff.mpr (by
  first | (rw [show limb_1_2 = Cond.eq .result (.int 1) from rfl, Cond.eq_ints (x := 1) (y := 1) rfl rfl]; simp; done) | (simp [limb_1_2, Cond.value, Term.eval]; done)))⟩

