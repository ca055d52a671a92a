/-- the row of MARKS when k of them are made -/
def gMk (b k : Nat) : Nat → Option Nat := fun q => if q < k then some (b + (14 + 4 * q)) else none
theorem gMk_0 (b : Nat) : (fun _ => none) = gMk b 0 := by funext q; simp [gMk]
theorem gMk_s (b : Nat) {k : Nat} (hk : k < 40) : va_up (gMk b k) (nI k).toNatClampNeg (some (b + (14 + 4 * k))) = gMk b (k + 1) := by
  rw [nI_clamp (by omega)]
  funext q
  by_cases e : q = k
  · subst e; simp [va_up, gMk]
  · by_cases e2 : q < k
    · simp [va_up, gMk, e, e2, Nat.lt_succ_of_lt e2]
    · simp [va_up, gMk, e, e2, show ¬ q < k + 1 by omega]
theorem cl_mk0 (b : Nat) (kc : Nat → ClassId) {k : Nat} (hk : k < 40) : cellOf b kc (14 + 4 * k) (fun _ => 0) (fun _ => 0) (fun _ => none) = .inr (3, [.ref (b + (14 + 4 * k + 1)), .ref (b + (14 + 4 * k + 2)), .int 0, .int 0, .int 0, .int 0, .int 0, .int 0, .int 0, .int 0, .int 0, .int 0, .int 0]) := by rw [cl_mark b kc hk]; rfl
theorem cl_nm0 (b : Nat) (kc : Nat → ClassId) {k : Nat} (hk : k < 40) : cellOf b kc (14 + 4 * k + 1) (fun _ => 0) (fun _ => 0) (fun _ => none) = .inl (kc 1, 3, .inl (fun _ => 0)) := by rw [cl_num b kc hk]; rfl
theorem cl_sh0 (b : Nat) (kc : Nat → ClassId) {k : Nat} (hk : k < 40) : cellOf b kc (14 + 4 * k + 2) (fun _ => 0) (fun _ => 0) (fun _ => none) = .inr (8, [.ref (b + (14 + 4 * k + 3)), .int 0]) := by rw [cl_sh b kc (show shOk (14 + 4 * k + 2) by omega)]; rfl
theorem cl_la0 (b : Nat) (kc : Nat → ClassId) {k : Nat} (hk : k < 40) : cellOf b kc (14 + 4 * k + 3) (fun _ => 0) (fun _ => 0) (fun _ => none) = .inl (kc 2, 6, .inr (.inl (fun _ => 0))) := by
  have h := cl_la b kc (show shOk (14 + 4 * k + 2) by omega) (fun _ => 0) (fun _ => 0) (fun _ => none)
  have h2 : capN (14 + 4 * k + 2) = 6 := by
    unfold capN
    rw [if_neg (by omega), if_neg (by omega), if_neg (by omega), if_neg (by omega), if_neg (by omega)]
  rw [h2] at h
  exact h
set_option maxHeartbeats 4000000 in
set_option maxRecDepth 100000 in
theorem a_X8_init_s (l : Launch) (D : va_G) (kc : Nat → ClassId) (b : Nat) (n : Nat) (f : Nat → va_E) (h1002 : f (n + 2) = .inr (8, [.null, .int 0])) : mMv l yX8_init cX8_init 2 1 1 6 D kc b (n + 3) f [.ref (b + (n + 2)), .int 6] (fun u => u.1 = (n + 4) ∧ u.2 = va_up (va_up f (n + 3) (.inl (kc 2, 6, .inr (.inl (fun _ => 0))))) (n + 2) (.inr (8, [.ref (b + (n + 3)), .int 0]))) := by
  refine m_start (by decide) (Nat.le_of_ble_eq_true rfl) ?_
  intro p e s m below meth c C hr hlk hnm hM ls hl
  obtain ⟨hx, hb, hml, hown, hts, hE, hbs⟩ := id C
  have hl : lv_has ls 2 [(0, .ref (b + (n + 2))), (1, .int 6)] := hl
  refine lv_aload_n hx hb dX8_init_0 rfl (lv_at hl 0 rfl) ?_
  refine m_objInit wd_141 wd_102 wd_103 C hl.1 dX8_init_1 (Nat.le_of_ble_eq_true rfl) (Nat.le_of_ble_eq_true rfl) ?_
  refine lv_aload_n hx hb dX8_init_4 rfl (lv_at hl 0 rfl) ?_
  refine lv_iload_n hx hb dX8_init_5 rfl (lv_at hl 1 rfl) ?_
  refine lv_if_ge (tgt := 13) hx hb dX8_init_6 (by decide) (fun _ => ?_) (fun h => absurd (by decide) h)
  refine lv_iload_n hx hb dX8_init_13 rfl (lv_at hl 1 rfl) ?_
  refine m_newa (ty := .long) rfl wd_156 2 rfl id C hM (N' := 6) (a0 := (6, .inr (.inl (fun _ => 0)))) (fun _ => rfl) (by decide) (by decide) (by decide) (Nat.le_of_ble_eq_true rfl) (Nat.le_of_ble_eq_true rfl) dX8_init_14 (fun H f1 ef1 hM => ?_)
  have h1002_1 : f1 (n + 2) = .inr (8, [.null, .int 0]) := m_ne ef1 h1002 (by omega)
  refine m_putF fl_X8_7_X8 C hnm hM (i := (n + 2)) (by omega) h1002_1 rfl rfl (Nat.le_of_ble_eq_true rfl) (fs1 := [.ref (b + (n + 3)), .int 0]) rfl (fun q hq => by cases hq; rfl) dX8_init_16 (fun H locs f2 ef2 hM => ?_)
  exact m_vret C hr hlk hM (⟨rfl, by rw [ef2, ef1]⟩) dX8_init_19
set_option maxHeartbeats 4000000 in
set_option maxRecDepth 100000 in
theorem k_mark_init (l : Launch) (D : va_G) (kc : Nat → ClassId) (b : Nat) (n : Nat) (f : Nat → va_E) (h1000 : f n = .inr (3, [.null, .null, .int 0, .int 0, .int 0, .int 0, .int 0, .int 0, .int 0, .int 0, .int 0, .int 0, .int 0])) : mMv l yX3_init cX3_init 1 2 3 11 D kc b (n + 1) f [.ref (b + n)] (fun u => u.1 = (n + 4) ∧ u.2 = va_up (va_up (va_up (va_up (va_up (va_up f (n + 1) (.inl (kc 1, 3, .inl (fun _ => 0)))) n (.inr (3, [.ref (b + (n + 1)), .null, .int 0, .int 0, .int 0, .int 0, .int 0, .int 0, .int 0, .int 0, .int 0, .int 0, .int 0]))) (n + 2) (.inr (8, [.null, .int 0]))) (n + 3) (.inl (kc 2, 6, .inr (.inl (fun _ => 0))))) (n + 2) (.inr (8, [.ref (b + (n + 3)), .int 0]))) n (.inr (3, [.ref (b + (n + 1)), .ref (b + (n + 2)), .int 0, .int 0, .int 0, .int 0, .int 0, .int 0, .int 0, .int 0, .int 0, .int 0, .int 0]))) := by
  refine m_start (by decide) (Nat.le_of_ble_eq_true rfl) ?_
  intro p e s m below meth c C hr hlk hnm hM ls hl
  obtain ⟨hx, hb, hml, hown, hts, hE, hbs⟩ := id C
  have hl : lv_has ls 1 [(0, .ref (b + n))] := hl
  refine lv_aload_n hx hb dX3_init_0 rfl (lv_at hl 0 rfl) ?_
  refine m_objInit wd_169 wd_102 wd_103 C hl.1 dX3_init_1 (Nat.le_of_ble_eq_true rfl) (Nat.le_of_ble_eq_true rfl) ?_
  refine lv_aload_n hx hb dX3_init_4 rfl (lv_at hl 0 rfl) ?_
  refine lv_iconst (v := 3) hx hb dX3_init_5 (by decide) ?_
  refine m_newa (ty := .int) rfl wd_232 1 rfl id C hM (N' := 3) (a0 := (3, .inl (fun _ => 0))) (fun _ => rfl) (by decide) (by decide) (by decide) (Nat.le_of_ble_eq_true rfl) (Nat.le_of_ble_eq_true rfl) dX3_init_6 (fun H f1 ef1 hM => ?_)
  have h1000_1 : f1 n = .inr (3, [.null, .null, .int 0, .int 0, .int 0, .int 0, .int 0, .int 0, .int 0, .int 0, .int 0, .int 0, .int 0]) := m_ne ef1 h1000 (by omega)
  refine m_putF fl_X3_9_X3 C hnm hM (i := n) (by omega) h1000_1 rfl rfl (Nat.le_of_ble_eq_true rfl) (fs1 := [.ref (b + (n + 1)), .null, .int 0, .int 0, .int 0, .int 0, .int 0, .int 0, .int 0, .int 0, .int 0, .int 0, .int 0]) rfl (fun q hq => by cases hq; rfl) dX3_init_8 (fun H locs f2 ef2 hM => ?_)
  refine lv_aload_n hx hb dX3_init_11 rfl (lv_at hl 0 rfl) ?_
  refine m_new mk_X3_15 C hM (Nat.le_of_ble_eq_true rfl) (Nat.le_of_ble_eq_true rfl) dX3_init_12 (fun H f3 ef3 hM => ?_)
  refine lv_dup hx hb dX3_init_15 rfl ?_
  refine lv_bipush (v := 6) hx hb dX3_init_16 (by decide) ?_
  have h1002_3 : f3 (n + 2) = .inr (8, [.null, .int 0]) := m_eq ef3
  refine m_gov (m_runI calI_X8_init wd_171 (a_X8_init_s l D kc b (n) f3 h1002_3) C hM hl.1 rfl rfl (Nat.le_of_ble_eq_true rfl) dX3_init_18 ⟨Nat.le_of_ble_eq_true rfl, Nat.le_of_ble_eq_true rfl⟩ ⟨Nat.le_of_ble_eq_true rfl, Nat.le_of_ble_eq_true rfl⟩) hM (fun n2 f4 H locs hp hM => ?_)
  have hp : n2 = (n + 4) ∧ f4 = va_up (va_up f3 (n + 3) (.inl (kc 2, 6, .inr (.inl (fun _ => 0))))) (n + 2) (.inr (8, [.ref (b + (n + 3)), .int 0])) := hp
  obtain ⟨rfl, ef4⟩ := hp
  have h1000_2 : f2 n = .inr (3, [.ref (b + (n + 1)), .null, .int 0, .int 0, .int 0, .int 0, .int 0, .int 0, .int 0, .int 0, .int 0, .int 0, .int 0]) := m_eq ef2
  have h1000_3 : f3 n = .inr (3, [.ref (b + (n + 1)), .null, .int 0, .int 0, .int 0, .int 0, .int 0, .int 0, .int 0, .int 0, .int 0, .int 0, .int 0]) := m_ne ef3 h1000_2 (by omega)
  have h1000_4 : f4 n = .inr (3, [.ref (b + (n + 1)), .null, .int 0, .int 0, .int 0, .int 0, .int 0, .int 0, .int 0, .int 0, .int 0, .int 0, .int 0]) := m_ne ef4 (m_ne rfl h1000_3 (by omega)) (by omega)
  refine m_putF fl_X3_20_X3 C hnm hM (i := n) (by omega) h1000_4 rfl rfl (Nat.le_of_ble_eq_true rfl) (fs1 := [.ref (b + (n + 1)), .ref (b + (n + 2)), .int 0, .int 0, .int 0, .int 0, .int 0, .int 0, .int 0, .int 0, .int 0, .int 0, .int 0]) rfl (fun q hq => by cases hq; rfl) dX3_init_21 (fun H locs f5 ef5 hM => ?_)
  exact m_vret C hr hlk hM (⟨rfl, by rw [ef5, ef4, ef3, ef2, ef1]⟩) dX3_init_24
set_option maxHeartbeats 4000000 in
set_option maxRecDepth 100000 in
theorem pile_loop {p : Program} {l : Launch} {e : Env} {s : State} {m : MethodId} {args : Array Value} {below : List Frame} {meth : Method} {c : Code} {D : va_G} {kc : Nat → ClassId} {b : Nat} {Q : State → Prop} (C : mC p s m args c cX5_init 2 RX5 D kc b) (f0 : Nat → va_E)
    (hex : ∀ (f : Nat → va_E) (H : Heap) (locs : List Loc) (ls : Array Slot), lv_has ls 2 [(1, .int 40), (0, .ref (b + 10))] → mS D b s 174 f H locs → f 10 = .inr (5, [.ref (b + 11), .ref (b + 12), .ref (b + 13), .int 0, .int 0, .int 0]) → f 11 = .inl (kc 4, 40, .inr (.inr (.inr (.inr (gMk b 40))))) → f 12 = .inl (kc 1, 3, .inl (fun _ => 0)) → f 13 = .inl (kc 1, 40, .inl (fun _ => 0)) → (∀ j, 14 ≤ j → j < 14 + 4 * 40 → f j = cellOf b kc j (fun _ => 0) (fun _ => 0) (fun _ => none)) → (∀ j, j < 10 → f j = f0 j) → W p l e (mR 3 163 1043) s m args below meth c H locs 163 1043 Q (F0 m 55 ls [])) :
    ∀ (q k : Nat) (f : Nat → va_E) (H : Heap) (locs : List Loc) (ls : Array Slot), k + q = 40 → lv_has ls 2 [(1, .int (nI k)), (0, .ref (b + 10))] → mS D b s (14 + 4 * k) f H locs → f 10 = .inr (5, [.ref (b + 11), .ref (b + 12), .ref (b + 13), .int 0, .int 0, .int 0]) → f 11 = .inl (kc 4, 40, .inr (.inr (.inr (.inr (gMk b k))))) → f 12 = .inl (kc 1, 3, .inl (fun _ => 0)) → f 13 = .inl (kc 1, 40, .inl (fun _ => 0)) → (∀ j, 14 ≤ j → j < 14 + 4 * k → f j = cellOf b kc j (fun _ => 0) (fun _ => 0) (fun _ => none)) → (∀ j, j < 10 → f j = f0 j) → W p l e (mR 3 163 1043) s m args below meth c H locs (3 + 4 * k) (83 + 24 * k) Q (F0 m 30 ls []) := by
  obtain ⟨hx, hb, hml, hown, hts, hE, hbs⟩ := id C
  intro q
  induction q with
  | zero =>
    intro k f H locs ls hk hl hM h10 h11 h12 h13 hmk fr
    have hk : k = 40 := by omega
    subst hk
    have hl : lv_has ls 2 [(1, .int 40), (0, .ref (b + 10))] := hl
    refine lv_iload_n hx hb dX5_init_30 rfl (lv_at hl 0 rfl) ?_
    refine lv_bipush (v := 40) hx hb dX5_init_31 (by decide) ?_
    refine lv_icmp_ge (tgt := 55) hx hb dX5_init_33 (by decide) (fun _ => ?_) (fun h => absurd (by decide) h)
    exact hex f H locs ls hl hM h10 h11 h12 h13 hmk fr
  | succ q ih =>
    intro k f H locs ls hk hl hM h10 h11 h12 h13 hmk fr
    have hk40 : k < 40 := by omega
    refine lv_iload_n hx hb dX5_init_30 rfl (lv_at hl 0 rfl) ?_
    refine lv_bipush (v := 40) hx hb dX5_init_31 (by decide) ?_
    refine lv_icmp_ge (tgt := 55) hx hb dX5_init_33 (by decide) (fun h => absurd (show nI 40 ≤ nI k from h) (nI_ge hk40 (by omega))) (fun _ => ?_)
    refine lv_aload_n hx hb dX5_init_36 rfl (lv_at hl 1 rfl) ?_
    refine m_get fl_X5_11_X5 C hM (i := 10) (by omega) h10 (v := .ref (b + 11)) rfl dX5_init_37 ?_
    refine lv_iload_n hx hb dX5_init_40 rfl (lv_at hl 0 rfl) ?_
    refine m_new mk_X5_9 C hM (by show _ ≤ 163; omega) (by show _ ≤ 1043; omega) dX5_init_41 (fun H f1 ef1 hM => ?_)
    refine lv_dup hx hb dX5_init_44 rfl ?_
    refine m_gov (m_runIN calI_X3_init wd_166 (k_mark_init l D kc b (14 + 4 * k) f1 (m_eq ef1)) C hM hl.1 rfl rfl (Nat.le_of_ble_eq_true rfl) dX5_init_45 ⟨Nat.le_of_ble_eq_true rfl, Nat.le_of_ble_eq_true rfl⟩ ⟨by show _ ≤ 163; omega, by show _ ≤ 1043; omega⟩) hM (fun n1 f2 H locs hp hM => ?_)
    obtain ⟨hn, ef2⟩ := hp
    have hn : n1 = 14 + 4 * k + 4 := hn
    subst hn
    have frA : ∀ j, j < 14 + 4 * k → f2 j = f j := fun j hj => m_ne ef2 (m_ne rfl (m_ne rfl (m_ne rfl (m_ne rfl (m_ne rfl (m_ne ef1 rfl (by omega)) (by omega)) (by omega)) (by omega)) (by omega)) (by omega)) (by omega)
    refine m_aast C hM (j := 11) (by omega) ((frA 11 (by omega)).trans h11) (v := 14 + 4 * k) (by omega) (m_eq ef2) (vp_in_nI hk40 (by omega)) dX5_init_48 (fun H locs f3 ef3 hM => ?_)
    refine lv_iinc (v := nI (k + 1)) (lv' := [(1, .int (nI (k + 1))), (0, .ref (b + 10))]) hx hb dX5_init_49 hl (k := 0) rfl (by rw [show Int32.ofInt 1 = 1 from rfl]; exact nI_1 k) (by decide) rfl (fun ls hl => ?_)
    refine lv_goto (tgt := 30) hx hb dX5_init_52 (by decide) ?_
    refine W.cs (cells' := 3 + 4 * (k + 1)) (slots' := 83 + 24 * (k + 1)) (by omega) (by omega) ?_
    have hM : mS D b s (14 + 4 * (k + 1)) f3 H locs := by
      have e9 : 14 + 4 * (k + 1) = 14 + 4 * k + 4 := by omega
      rw [e9]; exact hM
    have frB : ∀ j, j < 14 + 4 * k → j ≠ 11 → f3 j = f j := fun j hj hne => m_ne ef3 (frA j hj) hne
    have ef2 := ef2
    dsimp only at ef2
    have c0 : f2 (14 + 4 * k) = .inr (3, [.ref (b + (14 + 4 * k + 1)), .ref (b + (14 + 4 * k + 2)), .int 0, .int 0, .int 0, .int 0, .int 0, .int 0, .int 0, .int 0, .int 0, .int 0, .int 0]) := by rw [ef2]; simp [va_up]
    have c1 : f2 (14 + 4 * k + 1) = .inl (kc 1, 3, .inl (fun _ => 0)) := by rw [ef2]; simp [va_up]
    have c2 : f2 (14 + 4 * k + 2) = .inr (8, [.ref (b + (14 + 4 * k + 3)), .int 0]) := by rw [ef2]; simp [va_up]
    have c3 : f2 (14 + 4 * k + 3) = .inl (kc 2, 6, .inr (.inl (fun _ => 0))) := by rw [ef2]; simp [va_up]
    have frC : ∀ j, j ≠ 11 → f3 j = f2 j := fun j hne => m_ne ef3 rfl hne
    have hmk1 : ∀ j, 14 ≤ j → j < 14 + 4 * (k + 1) → f3 j = cellOf b kc j (fun _ => 0) (fun _ => 0) (fun _ => none) := by
      intro j hj1 hj2
      rw [frC j (by omega)]
      by_cases q0 : j < 14 + 4 * k
      · rw [frA j q0]; exact hmk j hj1 q0
      · obtain e | e | e | e : j = 14 + 4 * k ∨ j = 14 + 4 * k + 1 ∨ j = 14 + 4 * k + 2 ∨ j = 14 + 4 * k + 3 := by omega
        · rw [e, c0, cl_mk0 b kc hk40]
        · rw [e, c1, cl_nm0 b kc hk40]
        · rw [e, c2, cl_sh0 b kc hk40]
        · rw [e, c3, cl_la0 b kc hk40]
    have h11n : f3 11 = .inl (kc 4, 40, .inr (.inr (.inr (.inr (gMk b (k + 1)))))) := by rw [m_eq ef3, gMk_s b hk40]
    exact ih (k + 1) f3 H locs ls (by omega) hl hM ((frB 10 (by omega) (by omega)).trans h10) h11n ((frB 12 (by omega) (by omega)).trans h12) ((frB 13 (by omega) (by omega)).trans h13) hmk1 (fun j hj => (frB j (by omega) (by omega)).trans (fr j hj))
set_option maxHeartbeats 4000000 in
set_option maxRecDepth 100000 in
theorem k_pile_init (l : Launch) (D : va_G) (kc : Nat → ClassId) (b : Nat) (f : Nat → va_E) (h10 : f 10 = .inr (5, [.null, .null, .null, .int 0, .int 0, .int 0])) : mMv l yX5_init cX5_init 2 3 163 1043 D kc b 11 f [.ref (b + 10)] (fun u => u.1 = 174 ∧ (∀ j, j < 10 → u.2 j = f j) ∧ u.2 10 = .inr (5, [.ref (b + 11), .ref (b + 12), .ref (b + 13), .int 0, .int 0, .int 0]) ∧ (∀ j, 14 ≤ j → j < 174 → u.2 j = cellOf b kc j (fun _ => 0) (fun _ => 0) (fun _ => none)) ∧ u.2 11 = .inl (kc 4, 40, .inr (.inr (.inr (.inr (gMk b 40))))) ∧ u.2 12 = .inl (kc 1, 3, .inl (mRk)) ∧ u.2 13 = .inl (kc 1, 40, .inl (fun _ => 0))) := by
  refine m_start (by decide) (Nat.le_of_ble_eq_true rfl) ?_
  intro p e s m below meth c C hr hlk hnm hM ls hl
  obtain ⟨hx, hb, hml, hown, hts, hE, hbs⟩ := id C
  have hl : lv_has ls 2 [(0, .ref (b + 10))] := hl
  refine lv_aload_n hx hb dX5_init_0 rfl (lv_at hl 0 rfl) ?_
  refine m_objInit wd_162 wd_102 wd_103 C hl.1 dX5_init_1 (Nat.le_of_ble_eq_true rfl) (Nat.le_of_ble_eq_true rfl) ?_
  refine lv_aload_n hx hb dX5_init_4 rfl (lv_at hl 0 rfl) ?_
  refine lv_bipush (v := 40) hx hb dX5_init_5 (by decide) ?_
  refine m_newq wd_163 C hM (N' := 40) (by decide) (by decide) (by decide) (Nat.le_of_ble_eq_true rfl) (Nat.le_of_ble_eq_true rfl) dX5_init_7 (fun H f1 ef1 hM => ?_)
  have h10_1 : f1 10 = .inr (5, [.null, .null, .null, .int 0, .int 0, .int 0]) := m_ne ef1 h10 (by decide)
  refine m_putF fl_X5_11_X5 C hnm hM (i := 10) (by decide) h10_1 rfl rfl (Nat.le_of_ble_eq_true rfl) (fs1 := [.ref (b + 11), .null, .null, .int 0, .int 0, .int 0]) rfl (fun q hq => by cases hq; rfl) dX5_init_10 (fun H locs f2 ef2 hM => ?_)
  refine lv_aload_n hx hb dX5_init_13 rfl (lv_at hl 0 rfl) ?_
  refine lv_iconst (v := 3) hx hb dX5_init_14 (by decide) ?_
  refine m_newa (ty := .int) rfl wd_232 1 rfl id C hM (N' := 3) (a0 := (3, .inl (fun _ => 0))) (fun _ => rfl) (by decide) (by decide) (by decide) (Nat.le_of_ble_eq_true rfl) (Nat.le_of_ble_eq_true rfl) dX5_init_15 (fun H f3 ef3 hM => ?_)
  have h10_2 : f2 10 = .inr (5, [.ref (b + 11), .null, .null, .int 0, .int 0, .int 0]) := m_eq ef2
  have h10_3 : f3 10 = .inr (5, [.ref (b + 11), .null, .null, .int 0, .int 0, .int 0]) := m_ne ef3 h10_2 (by decide)
  refine m_putF fl_X5_17_X5 C hnm hM (i := 10) (by decide) h10_3 rfl rfl (Nat.le_of_ble_eq_true rfl) (fs1 := [.ref (b + 11), .ref (b + 12), .null, .int 0, .int 0, .int 0]) rfl (fun q hq => by cases hq; rfl) dX5_init_17 (fun H locs f4 ef4 hM => ?_)
  refine lv_aload_n hx hb dX5_init_20 rfl (lv_at hl 0 rfl) ?_
  refine lv_bipush (v := 40) hx hb dX5_init_21 (by decide) ?_
  refine m_newa (ty := .int) rfl wd_232 1 rfl id C hM (N' := 40) (a0 := (40, .inl (fun _ => 0))) (fun _ => rfl) (by decide) (by decide) (by decide) (Nat.le_of_ble_eq_true rfl) (Nat.le_of_ble_eq_true rfl) dX5_init_23 (fun H f5 ef5 hM => ?_)
  have h10_4 : f4 10 = .inr (5, [.ref (b + 11), .ref (b + 12), .null, .int 0, .int 0, .int 0]) := m_eq ef4
  have h10_5 : f5 10 = .inr (5, [.ref (b + 11), .ref (b + 12), .null, .int 0, .int 0, .int 0]) := m_ne ef5 h10_4 (by decide)
  refine m_putF fl_X5_21_X5 C hnm hM (i := 10) (by decide) h10_5 rfl rfl (Nat.le_of_ble_eq_true rfl) (fs1 := [.ref (b + 11), .ref (b + 12), .ref (b + 13), .int 0, .int 0, .int 0]) rfl (fun q hq => by cases hq; rfl) dX5_init_25 (fun H locs f6 ef6 hM => ?_)
  refine lv_iconst (v := 0) hx hb dX5_init_28 (by decide) ?_
  refine lv_istore_n (lv' := [(1, .int 0), (0, .ref (b + 10))]) hx hb dX5_init_29 rfl hl (by decide) rfl (fun ls hl => ?_)
  have h10_6 : f6 10 = .inr (5, [.ref (b + 11), .ref (b + 12), .ref (b + 13), .int 0, .int 0, .int 0]) := m_eq ef6
  have h11_1 : f1 11 = .inl (kc 4, 40, .inr (.inr (.inr (.inr (fun _ => none))))) := m_eq ef1
  have h11_2 : f2 11 = .inl (kc 4, 40, .inr (.inr (.inr (.inr (fun _ => none))))) := m_ne ef2 h11_1 (by decide)
  have h11_3 : f3 11 = .inl (kc 4, 40, .inr (.inr (.inr (.inr (fun _ => none))))) := m_ne ef3 h11_2 (by decide)
  have h11_4 : f4 11 = .inl (kc 4, 40, .inr (.inr (.inr (.inr (fun _ => none))))) := m_ne ef4 h11_3 (by decide)
  have h11_5 : f5 11 = .inl (kc 4, 40, .inr (.inr (.inr (.inr (fun _ => none))))) := m_ne ef5 h11_4 (by decide)
  have h11_6 : f6 11 = .inl (kc 4, 40, .inr (.inr (.inr (.inr (fun _ => none))))) := m_ne ef6 h11_5 (by decide)
  have h12_3 : f3 12 = .inl (kc 1, 3, .inl (fun _ => 0)) := m_eq ef3
  have h12_4 : f4 12 = .inl (kc 1, 3, .inl (fun _ => 0)) := m_ne ef4 h12_3 (by decide)
  have h12_5 : f5 12 = .inl (kc 1, 3, .inl (fun _ => 0)) := m_ne ef5 h12_4 (by decide)
  have h12_6 : f6 12 = .inl (kc 1, 3, .inl (fun _ => 0)) := m_ne ef6 h12_5 (by decide)
  have h13_5 : f5 13 = .inl (kc 1, 40, .inl (fun _ => 0)) := m_eq ef5
  have h13_6 : f6 13 = .inl (kc 1, 40, .inl (fun _ => 0)) := m_ne ef6 h13_5 (by decide)
  have fr_1 : ∀ j, j < 10 → f1 j = f j := fun j hj => m_ne ef1 (rfl) (by omega)
  have fr_2 : ∀ j, j < 10 → f2 j = f j := fun j hj => m_ne ef2 (fr_1 j hj) (by omega)
  have fr_3 : ∀ j, j < 10 → f3 j = f j := fun j hj => m_ne ef3 (fr_2 j hj) (by omega)
  have fr_4 : ∀ j, j < 10 → f4 j = f j := fun j hj => m_ne ef4 (fr_3 j hj) (by omega)
  have fr_5 : ∀ j, j < 10 → f5 j = f j := fun j hj => m_ne ef5 (fr_4 j hj) (by omega)
  have fr_6 : ∀ j, j < 10 → f6 j = f j := fun j hj => m_ne ef6 (fr_5 j hj) (by omega)
  refine pile_loop C f (fun fa H locs ls hl hM h10 h11 h12 h13 hmk fr => ?_) 40 0 f6 _ _ ls rfl hl hM h10_6 (by rw [h11_6, gMk_0 b]) h12_6 h13_6 (fun j h1 h2 => absurd h2 (by omega)) fr_6
  refine lv_iconst (v := 0) hx hb dX5_init_55 (by decide) ?_
  refine lv_istore_n (lv' := [(1, .int 0), (0, .ref (b + 10))]) hx hb dX5_init_56 rfl hl (by decide) rfl (fun ls hl => ?_)
  refine lv_iload_n hx hb dX5_init_57 rfl (lv_at hl 0 rfl) ?_
  refine lv_iconst (v := 3) hx hb dX5_init_58 (by decide) ?_
  refine lv_icmp_ge (tgt := 75) hx hb dX5_init_59 (by decide) (fun h => absurd h (by decide)) (fun _ => ?_)
  refine lv_aload_n hx hb dX5_init_62 rfl (lv_at hl 1 rfl) ?_
  refine m_get fl_X5_17_X5 C hM (i := 10) (by decide) h10 (v := .ref (b + 12)) rfl dX5_init_63 ?_
  refine lv_iload_n hx hb dX5_init_66 rfl (lv_at hl 0 rfl) ?_
  refine lv_iload_n hx hb dX5_init_67 rfl (lv_at hl 0 rfl) ?_
  refine m_iast C hM (j := 12) (by decide) h12 (m_in (by decide)) dX5_init_68 (fun H locs f1 ef1 hM => ?_)
  have ef1 : f1 = va_up fa 12 (.inl (kc 1, 3, .inl (upd (fun _ => 0) 0 0))) := ef1
  refine lv_iinc (v := 1) (lv' := [(1, .int 1), (0, .ref (b + 10))]) hx hb dX5_init_69 hl (k := 0) rfl (by decide) (by decide) rfl (fun ls hl => ?_)
  refine lv_goto (tgt := 57) hx hb dX5_init_72 (by decide) ?_
  refine lv_iload_n hx hb dX5_init_57 rfl (lv_at hl 0 rfl) ?_
  refine lv_iconst (v := 3) hx hb dX5_init_58 (by decide) ?_
  refine lv_icmp_ge (tgt := 75) hx hb dX5_init_59 (by decide) (fun h => absurd h (by decide)) (fun _ => ?_)
  refine lv_aload_n hx hb dX5_init_62 rfl (lv_at hl 1 rfl) ?_
  have h10_1 : f1 10 = .inr (5, [.ref (b + 11), .ref (b + 12), .ref (b + 13), .int 0, .int 0, .int 0]) := m_ne ef1 h10 (by decide)
  refine m_get fl_X5_17_X5 C hM (i := 10) (by decide) h10_1 (v := .ref (b + 12)) rfl dX5_init_63 ?_
  refine lv_iload_n hx hb dX5_init_66 rfl (lv_at hl 0 rfl) ?_
  refine lv_iload_n hx hb dX5_init_67 rfl (lv_at hl 0 rfl) ?_
  have h12_1 : f1 12 = .inl (kc 1, 3, .inl (upd (fun _ => 0) 0 0)) := m_eq ef1
  refine m_iast C hM (j := 12) (by decide) h12_1 (m_in (by decide)) dX5_init_68 (fun H locs f2 ef2 hM => ?_)
  have ef2 : f2 = va_up f1 12 (.inl (kc 1, 3, .inl (upd (upd (fun _ => 0) 0 0) 1 1))) := ef2
  refine lv_iinc (v := 2) (lv' := [(1, .int 2), (0, .ref (b + 10))]) hx hb dX5_init_69 hl (k := 0) rfl (by decide) (by decide) rfl (fun ls hl => ?_)
  refine lv_goto (tgt := 57) hx hb dX5_init_72 (by decide) ?_
  refine lv_iload_n hx hb dX5_init_57 rfl (lv_at hl 0 rfl) ?_
  refine lv_iconst (v := 3) hx hb dX5_init_58 (by decide) ?_
  refine lv_icmp_ge (tgt := 75) hx hb dX5_init_59 (by decide) (fun h => absurd h (by decide)) (fun _ => ?_)
  refine lv_aload_n hx hb dX5_init_62 rfl (lv_at hl 1 rfl) ?_
  have h10_2 : f2 10 = .inr (5, [.ref (b + 11), .ref (b + 12), .ref (b + 13), .int 0, .int 0, .int 0]) := m_ne ef2 h10_1 (by decide)
  refine m_get fl_X5_17_X5 C hM (i := 10) (by decide) h10_2 (v := .ref (b + 12)) rfl dX5_init_63 ?_
  refine lv_iload_n hx hb dX5_init_66 rfl (lv_at hl 0 rfl) ?_
  refine lv_iload_n hx hb dX5_init_67 rfl (lv_at hl 0 rfl) ?_
  have h12_2 : f2 12 = .inl (kc 1, 3, .inl (upd (upd (fun _ => 0) 0 0) 1 1)) := m_eq ef2
  refine m_iast C hM (j := 12) (by decide) h12_2 (m_in (by decide)) dX5_init_68 (fun H locs f3 ef3 hM => ?_)
  have ef3 : f3 = va_up f2 12 (.inl (kc 1, 3, .inl (upd (upd (upd (fun _ => 0) 0 0) 1 1) 2 2))) := ef3
  refine lv_iinc (v := 3) (lv' := [(1, .int 3), (0, .ref (b + 10))]) hx hb dX5_init_69 hl (k := 0) rfl (by decide) (by decide) rfl (fun ls hl => ?_)
  refine lv_goto (tgt := 57) hx hb dX5_init_72 (by decide) ?_
  refine lv_iload_n hx hb dX5_init_57 rfl (lv_at hl 0 rfl) ?_
  refine lv_iconst (v := 3) hx hb dX5_init_58 (by decide) ?_
  refine lv_icmp_ge (tgt := 75) hx hb dX5_init_59 (by decide) (fun _ => ?_) (fun h => absurd (by decide) h)
  have h10_3 : f3 10 = .inr (5, [.ref (b + 11), .ref (b + 12), .ref (b + 13), .int 0, .int 0, .int 0]) := m_ne ef3 h10_2 (by decide)
  have h11_1 : f1 11 = .inl (kc 4, 40, .inr (.inr (.inr (.inr (gMk b 40))))) := m_ne ef1 h11 (by decide)
  have h11_2 : f2 11 = .inl (kc 4, 40, .inr (.inr (.inr (.inr (gMk b 40))))) := m_ne ef2 h11_1 (by decide)
  have h11_3 : f3 11 = .inl (kc 4, 40, .inr (.inr (.inr (.inr (gMk b 40))))) := m_ne ef3 h11_2 (by decide)
  have h12_3 : f3 12 = .inl (kc 1, 3, .inl (upd (upd (upd (fun _ => 0) 0 0) 1 1) 2 2)) := m_eq ef3
  have h13_1 : f1 13 = .inl (kc 1, 40, .inl (fun _ => 0)) := m_ne ef1 h13 (by decide)
  have h13_2 : f2 13 = .inl (kc 1, 40, .inl (fun _ => 0)) := m_ne ef2 h13_1 (by decide)
  have h13_3 : f3 13 = .inl (kc 1, 40, .inl (fun _ => 0)) := m_ne ef3 h13_2 (by decide)
  have fr_1 : ∀ j, j < 10 → f1 j = fa j := fun j hj => m_ne ef1 (rfl) (by omega)
  have fr_2 : ∀ j, j < 10 → f2 j = fa j := fun j hj => m_ne ef2 (fr_1 j hj) (by omega)
  have fr_3 : ∀ j, j < 10 → f3 j = fa j := fun j hj => m_ne ef3 (fr_2 j hj) (by omega)
  have hmkE : ∀ j, 14 ≤ j → j < 174 → f3 j = cellOf b kc j (fun _ => 0) (fun _ => 0) (fun _ => none) := fun j h1 h2 => m_ne ef3 (m_ne ef2 (m_ne ef1 (hmk j h1 (by omega)) (by omega)) (by omega)) (by omega)
  exact m_vret C hr hlk hM (⟨rfl, fun j hj => (fr_3 j hj).trans (fr j hj), h10_3, hmkE, h11_3, h12_3, h13_3⟩) dX5_init_75
