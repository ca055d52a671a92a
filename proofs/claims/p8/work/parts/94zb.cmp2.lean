theorem wa_is {S : SS} {q : Nat} {a : Int} {w : Int64} (hC : CX 0 S) (hq : shOk q) (e : f_Sheet_wordAt S q a = some w) : (0 ≤ a ∧ a < gi S q 1 ∧ w = gl S (q + 1) a.toNat) ∨ (¬ (0 ≤ a ∧ a < gi S q 1) ∧ w = 0) := by
  have b := cx_sh hC hq
  unfold f_Sheet_wordAt at e
  by_cases c1 : a < 0
  · rw [if_pos c1] at e; cases e; exact .inr ⟨by omega, rfl⟩
  rw [if_neg c1] at e
  by_cases c2 : gi S q 1 ≤ a
  · rw [if_pos c2] at e; cases e; exact .inr ⟨by omega, rfl⟩
  rw [if_neg c2, if_pos (by omega), w_chkP (by omega)] at e
  cases e
  exact .inl ⟨by omega, by omega, rfl⟩
def sh_of_t (a : Int) : Nat := if a = 0 then 4 else if a = 1 then 6 else 8
def rw_of_t (a : Int) : Nat := if a = 0 then 193 else if a = 1 then 194 else 195
/-- text a of both sides alike, as the reference's state T4 has it -/
def TXA (S T4 : SS) (a n : Int) : Prop := n = gi S (sh_of_t a) 1 ∧ ∀ i : Nat, (i : Int) < n → gl S (sh_of_t a + 1) i = gl T4 (rw_of_t a) i
theorem wo_is {S T T4 : SS} {a n : Int} (hM : MX 0 T) (hN : NX T) (h : RT S T) (ha : 0 ≤ a ∧ a ≤ 2) (e : f_M_wordsOf T a = some (n, T4)) : TXA S T4 a n ∧ RT S T4 ∧ (a ≠ 2 → T4 = T) := by
  have f := (ok_true (ok_M_wordsOf hM hN a ha) _ e).2.1
  have l := lx_M_wordsOf (X := X195) (S0 := T) rfl T a (LX_refl _ T) _ e
  have R4 : RT S T4 := RT_ref hM hN h f l
  obtain ⟨hr, hf, hs, hm, hx⟩ := id h
  unfold f_M_wordsOf f_M_wordsOf_10 at e
  by_cases c2 : a = 2
  · subst c2
    rw [if_pos rfl] at e
    obtain ⟨T1, e1, e⟩ := w_b1E e
    rw [if_neg (by decide), if_neg (by decide)] at e
    cases e
    have mk := mk_text hM hN 0 T4 e1
    have q := HL_eq hx mk.1
    refine ⟨⟨q.1.symm, fun i hi => q.2 i (by rw [q.1]; exact hi)⟩, R4, fun z => absurd rfl z⟩
  · rw [if_neg c2] at e
    by_cases c0 : a = 0
    · subst c0
      rw [if_pos rfl] at e
      cases e
      exact ⟨⟨hr.1.2.1.symm, fun i hi => hf i hi⟩, h, fun _ => rfl⟩
    · have c1 : a = 1 := by omega
      subst c1
      rw [if_neg c0, if_pos rfl] at e
      cases e
      exact ⟨⟨hr.1.2.2.1.symm, fun i hi => hs i hi⟩, h, fun _ => rfl⟩
theorem so_is {S : SS} {a : Int} (ha : 0 ≤ a ∧ a ≤ 2) : f_MP_sheetOf S a = some (sh_of_t a) := by
  unfold f_MP_sheetOf sh_of_t
  by_cases c0 : a = 0
  · rw [if_pos c0, if_pos c0]
  · rw [if_neg c0, if_neg c0]
    by_cases c1 : a = 1
    · rw [if_pos c1, if_pos c1]
    · rw [if_neg c1, if_neg c1, if_pos (by omega)]
theorem so_no {S : SS} {a : Int} (ha : ¬ (0 ≤ a ∧ a ≤ 2)) : f_MP_sheetOf S a = none := by
  unfold f_MP_sheetOf
  rw [if_neg (by omega), if_neg (by omega), if_neg (by omega)]
theorem so_ok (a : Int) : shOk (sh_of_t a) := by
  unfold sh_of_t shOk
  by_cases c0 : a = 0
  · rw [if_pos c0]; omega
  · rw [if_neg c0]
    by_cases c1 : a = 1
    · rw [if_pos c1]; omega
    · rw [if_neg c1]; omega
theorem it_is {T : SS} {a r : Int} (e : f_M_isText T a = some r) : (r = 1 ∧ 0 ≤ a ∧ a ≤ 2) ∨ (r = 0 ∧ ¬ (0 ≤ a ∧ a ≤ 2)) := by
  unfold f_M_isText at e
  obtain ⟨_, e⟩ := w_chkE e
  have e := Option.some.inj e
  have i := in01 T a 0 2
  omega
theorem ma_is {T : SS} {a b : Int} {w : Int64} (e : f_M_wordAt T a b = some w) : w = gl T (rw_of_t a) b.toNat := by
  unfold f_M_wordAt at e
  unfold rw_of_t
  by_cases c0 : a = 0
  · rw [if_pos c0] at e ⊢
    obtain ⟨_, e⟩ := w_chkE e
    exact (Option.some.inj e).symm
  · rw [if_neg c0] at e ⊢
    by_cases c1 : a = 1
    · rw [if_pos c1] at e ⊢
      obtain ⟨_, e⟩ := w_chkE e
      exact (Option.some.inj e).symm
    · rw [if_neg c1] at e ⊢
      obtain ⟨_, e⟩ := w_chkE e
      exact (Option.some.inj e).symm
theorem RT_word {S T T1 : SS} {a1 a2 : Int} {r t : Int64} (hC : CX 0 S) (hM : MX 0 T) (hN : NX T) (h : RT S T) (h1 : f_MP_word S a1 a2 = some r) (h2 : f_M_word T a1 a2 = some (t, T1)) : r = t := by
  unfold f_MP_word at h1
  unfold f_M_word at h2
  have h1 := w_ltX h1
  obtain ⟨x, ex, h2⟩ := w_b1E h2
  rcases it_is ex with ⟨q, qa⟩ | ⟨q, qa⟩
  · rw [so_is qa] at h1
    have h1 := w_onS h1
    obtain ⟨_, h1⟩ := w_chkE h1
    obtain ⟨w, ew, h1⟩ := w_b1E h1
    cases h1
    rw [if_neg (by omega)] at h2
    obtain ⟨n, T4, e4, h2⟩ := w_b2E h2
    have X := (wo_is hM hN h qa e4).1
    obtain ⟨_, h2⟩ := w_chkE h2
    have i := in01 T4 a2 0 (n - 1)
    rcases wa_is hC (so_ok a1) ew with ⟨z1, z2, z3⟩ | ⟨z1, z2⟩
    · rw [if_neg (by have := X.1; omega)] at h2
      obtain ⟨w', ew', h2⟩ := w_b1E h2
      cases h2
      rw [z3, ma_is ew']
      exact X.2 a2.toNat (by have := X.1; omega)
    · rw [if_pos (by have := X.1; omega)] at h2
      cases h2
      exact z2
  · rw [so_no qa] at h1
    have h1 := w_onN h1
    cases h1
    rw [if_pos q] at h2
    cases h2
    rfl
/-- how many have a status -/
def cn (st : Nat → Int) (v : Int) : Nat → Nat
  | 0 => 0
  | k + 1 => cn st v k + if st k = v then 1 else 0
theorem tl_loop {S : SS} (hC : CX 0 S) (st : Nat → Int) (v : Int) (n : Nat) (h3 : gi S 10 3 = (n : Int)) (hs : ∀ j, j < n → gi S (14 + 4 * j) 11 = st j) : ∀ (c k n2 : Nat), k + c = n → pc (f_Pile_tally_4 S v n2 (cn st v k : Int) (k : Int)) (fun r => r = (cn st v n : Int)) := by
  have b3 := cx_10_3 hC
  intro c
  induction c with
  | zero =>
    intro k n2 hk
    cases n2 with
    | zero => intro r e; exact absurd e (by simp [f_Pile_tally_4])
    | succ n2 =>
      show pc (f_Pile_tally_4_b S v (f_Pile_tally_4 S v n2) (cn st v k : Int) (k : Int)) _
      unfold f_Pile_tally_4_b
      rw [if_pos (by omega), show k = n by omega]
      exact pc_some rfl
  | succ c ih =>
    intro k n2 hk
    cases n2 with
    | zero => intro r e; exact absurd e (by simp [f_Pile_tally_4])
    | succ n2 =>
      show pc (f_Pile_tally_4_b S v (f_Pile_tally_4 S v n2) (cn st v k : Int) (k : Int)) _
      unfold f_Pile_tally_4_b
      rw [if_neg (by omega), w_b1_is (c_find hC.2.1 (by omega) b3.2)]
      show pc (w_chk (k < 40) _) _
      refine pc_chk (fun _ => ?_)
      unfold f_Pile_tally_36
      rw [hs k (by omega)]
      refine pc_if (fun c1 => pc_chk (fun _ => pc_chk (fun _ => ?_))) (fun c1 => pc_chk (fun _ => ?_))
      · have e : (cn st v k : Int) + 1 = ((cn st v (k + 1) : Nat) : Int) := by rw [cn, if_pos c1]; omega
        rw [e, show (k : Int) + 1 = ((k + 1 : Nat) : Int) by omega]
        exact ih (k + 1) n2 (by omega)
      · have e : (cn st v k : Int) = ((cn st v (k + 1) : Nat) : Int) := by rw [cn, if_neg c1]; rfl
        rw [e, show (k : Int) + 1 = ((k + 1 : Nat) : Int) by omega]
        exact ih (k + 1) n2 (by omega)
def cm (st : Nat → Int) (v1 : Int) (k : Nat) : Nat := if v1 = 4 then cn st 0 k + cn st 1 k else cn st (v1 - 5) k
theorem cm_succ {st : Nat → Int} {v1 : Int} {k : Nat} (h0 : 0 ≤ st k) : cm st v1 (k + 1) = cm st v1 k + (if v1 = 4 then (if st k < 2 then 1 else 0) else if st k = v1 - 5 then 1 else 0) := by
  unfold cm
  by_cases c : v1 = 4
  · rw [if_pos c, if_pos c, if_pos c, cn, cn]
    by_cases z0 : st k = 0
    · rw [if_pos z0, if_neg (by omega), if_pos (by omega)]; omega
    · rw [if_neg z0]
      by_cases z1 : st k = 1
      · rw [if_pos z1, if_pos (by omega)]; omega
      · rw [if_neg z1, if_neg (by omega)]; omega
  · rw [if_neg c, if_neg c, if_neg c, cn]
theorem ct_loop {T : SS} (st : Nat → Int) (v1 : Int) (n : Nat) (h27 : gi T 192 27 = (n : Int)) (hs : ∀ j, j < n → gi T 212 j = st j) (h0 : ∀ j, j < n → 0 ≤ st j) : ∀ (c k n2 : Nat), k + c = n → pc (f_M_count_87 v1 n2 T (cm st v1 k : Int) (k : Int)) (fun u => u.1 = (cm st v1 n : Int)) := by
  intro c
  induction c with
  | zero =>
    intro k n2 hk
    cases n2 with
    | zero => intro r e; exact absurd e (by simp [f_M_count_87])
    | succ n2 =>
      show pc (f_M_count_87_b v1 (f_M_count_87 v1 n2) T (cm st v1 k : Int) (k : Int)) _
      unfold f_M_count_87_b
      rw [if_pos (by omega), show k = n by omega]
      exact pc_some rfl
  | succ c ih =>
    intro k n2 hk
    cases n2 with
    | zero => intro r e; exact absurd e (by simp [f_M_count_87])
    | succ n2 =>
      have S1 := cm_succ (st := st) (v1 := v1) (k := k) (h0 k (by omega))
      have go : ∀ d : Nat, cm st v1 (k + 1) = cm st v1 k + d → pc (f_M_count_136 v1 (f_M_count_87 v1 n2) T (k : Int) (d : Int) (cm st v1 k : Int)) (fun u => u.1 = (cm st v1 n : Int)) := by
        intro d hd
        unfold f_M_count_136
        refine pc_chk (fun _ => pc_chk (fun _ => ?_))
        rw [show (cm st v1 k : Int) + (d : Int) = ((cm st v1 (k + 1) : Nat) : Int) by rw [hd]; omega, show (k : Int) + 1 = ((k + 1 : Nat) : Int) by omega]
        exact ih (k + 1) n2 (by omega)
      show pc (f_M_count_87_b v1 (f_M_count_87 v1 n2) T (cm st v1 k : Int) (k : Int)) _
      unfold f_M_count_87_b
      rw [if_neg (by omega), Int.toNat_natCast, hs k (by omega)]
      refine pc_if (fun c4 => pc_chk (fun _ => pc_if (fun c2 => ?_) (fun c2 => ?_))) (fun c4 => pc_chk (fun _ => pc_chk (fun _ => pc_if (fun c2 => ?_) (fun c2 => ?_))))
      · exact go 0 (by rw [S1, if_pos c4, if_neg (by omega)])
      · exact go 1 (by rw [S1, if_pos c4, if_pos (by omega)])
      · exact go 1 (by rw [S1, if_neg c4, if_pos c2])
      · exact go 0 (by rw [S1, if_neg c4, if_neg c2])
theorem st_nn (T : SS) (k : Nat) : 0 ≤ m_st T k := by
  have i1 : ∀ (k : Nat) (st : Nat → Int), (∀ j, 0 ≤ st j) → ∀ j, 0 ≤ j_one (q_nm (q_md T)) (gi T 192 27).toNat k st j := by
    intro k st h j
    unfold j_one
    by_cases c : j = k ∧ ∀ o, o < (gi T 192 27).toNat → st o = 0 → q_nm (q_md T) k o
    · rw [cif_pos c]; exact Int.le_refl _
    · rw [cif_neg c]; exact h j
  have ik : ∀ (r : Int) (c k : Nat) (st : Nat → Int), (∀ j, 0 ≤ st j) → ∀ j, 0 ≤ j_k (q_nm (q_md T)) (gi T 192 27).toNat (m_rk T) r c k st j := by
    intro r c
    induction c with
    | zero => intro k st h; exact h
    | succ c ih =>
      intro k st h
      rw [j_k]
      by_cases d : st k = 1 ∧ m_rk T k = r
      · rw [cif_pos d]; exact ih (k + 1) _ (i1 k st h)
      · rw [cif_neg d]; exact ih (k + 1) _ h
  have ir : ∀ (c : Nat) (r : Int) (st : Nat → Int), (∀ j, 0 ≤ st j) → ∀ j, 0 ≤ j_r (q_nm (q_md T)) (gi T 192 27).toNat (m_rk T) c r st j := by
    intro c
    induction c with
    | zero => intro r st h; exact h
    | succ c ih => intro r st h; rw [j_r]; exact ih (r + 1) _ (ik r _ 0 st h)
  refine ir 10 0 (m_s0 T) (fun j => ?_) k
  unfold m_s0
  by_cases c5 : gi T 199 j = 5
  · rw [if_pos c5]; decide
  · rw [if_neg c5]
    by_cases c6 : m_ov T j ∨ (gi T 207 j ≠ 0 ∧ gi T 205 j = 2)
    · rw [cif_pos c6]; decide
    · rw [cif_neg c6]
      by_cases c7 : gi T 207 j ≠ 0 ∧ gi T 205 j = 0
      · rw [if_pos c7]; decide
      · rw [if_neg c7]; decide
theorem sz_is {S : SS} {a x : Int} (ha : 0 ≤ a ∧ a ≤ 2) (e : f_MP_sizeOf S a = some x) : x = gi S (sh_of_t a) 1 := by
  unfold f_MP_sizeOf at e
  have e := w_ltX e
  rw [so_is ha] at e
  have e := w_onS e
  obtain ⟨_, e⟩ := w_chkE e
  exact (Option.some.inj e).symm
theorem RT_count {S T T1 : SS} {a1 r t : Int} (hC : CX 0 S) (hM : MX 0 T) (hN : NX T) (h : RT S T) (h1 : f_MP_count S a1 = some r) (h2 : f_M_count T a1 = some (t, T1)) : r = t := by
  have i1 := in01 T a1 0 2
  have i2 := in01 T a1 10 12
  have i3 := in01 T a1 4 8
  have b27 := mx_192_27 hM
  obtain ⟨n, hn⟩ : ∃ n : Nat, gi T 192 27 = (n : Int) := ⟨(gi T 192 27).toNat, by omega⟩
  have hK := h.1.2.2.2.1
  have hD := h.1.2.2.2.2
  have tl : ∀ v x, f_Pile_tally S v = some x → x = (cn (m_st T) v n : Int) := fun v x e => tl_loop hC (m_st T) v n (by rw [hK.1, hn]) (fun j hj => hD.1 j (by omega)) n 0 FU (by omega) x e
  unfold f_MP_count at h1
  unfold f_M_count at h2
  by_cases cA : 0 ≤ a1 ∧ a1 ≤ 2
  · rw [if_neg (by omega)] at h2
    obtain ⟨x, T13, e13, h2⟩ := w_b2E h2
    cases h2
    have X := (wo_is hM hN h cA e13).1
    have sz : ∃ y, f_MP_sizeOf S a1 = some y ∧ y = r := by
      by_cases c0 : a1 = 0
      · rw [if_pos c0] at h1
        obtain ⟨y, ey, h1⟩ := w_b1E h1
        exact ⟨y, ey, Option.some.inj h1⟩
      rw [if_neg c0] at h1
      by_cases c1 : a1 = 1
      · rw [if_pos c1] at h1
        obtain ⟨y, ey, h1⟩ := w_b1E h1
        exact ⟨y, ey, Option.some.inj h1⟩
      rw [if_neg c1, if_pos (by omega)] at h1
      obtain ⟨y, ey, h1⟩ := w_b1E h1
      exact ⟨y, ey, Option.some.inj h1⟩
    obtain ⟨y, ey, er⟩ := sz
    rw [← er, sz_is cA ey]
    exact X.1.symm
  rw [if_pos (by omega)] at h2
  rw [if_neg (by omega), if_neg (by omega), if_neg (by omega)] at h1
  by_cases cR : 10 ≤ a1 ∧ a1 ≤ 12
  · rw [if_neg (by omega)] at h2
    rw [if_neg (by omega), if_neg (by omega), if_neg (by omega), if_neg (by omega), if_neg (by omega), if_neg (by omega), if_neg (by omega)] at h1
    obtain ⟨_, h2⟩ := w_chkE h2
    obtain ⟨_, h2⟩ := w_chkE h2
    cases h2
    have rk : ∃ y, f_Pile_rankOf S (a1 - 10) = some y ∧ y = r := by
      by_cases c0 : a1 = 10
      · rw [if_pos c0] at h1
        obtain ⟨_, h1⟩ := w_chkE h1
        obtain ⟨y, ey, h1⟩ := w_b1E h1
        exact ⟨y, ey, Option.some.inj h1⟩
      rw [if_neg c0] at h1
      by_cases c1 : a1 = 11
      · rw [if_pos c1] at h1
        obtain ⟨_, h1⟩ := w_chkE h1
        obtain ⟨y, ey, h1⟩ := w_b1E h1
        exact ⟨y, ey, Option.some.inj h1⟩
      rw [if_neg c1, if_pos (by omega)] at h1
      obtain ⟨_, h1⟩ := w_chkE h1
      obtain ⟨y, ey, h1⟩ := w_b1E h1
      exact ⟨y, ey, Option.some.inj h1⟩
    obtain ⟨y, ey, er⟩ := rk
    unfold f_Pile_rankOf at ey
    rw [if_neg (by omega), if_pos (by omega), w_chkP (by omega)] at ey
    have ey := Option.some.inj ey
    rw [← er, ← ey]
    rcases h.1.1.2.2.2.1 (a1 - 10).toNat with z | z
    · exact z
    · omega
  rw [if_pos (by omega)] at h2
  by_cases c3 : a1 = 3
  · rw [if_pos c3] at h1 h2
    cases h1
    cases h2
    exact hK.1
  rw [if_neg c3] at h1 h2
  by_cases c9 : a1 = 9
  · rw [if_pos c9] at h2
    rw [if_neg (by omega), if_neg (by omega), if_neg (by omega), if_neg (by omega), if_neg (by omega), if_pos c9] at h1
    cases h1
    cases h2
    exact h.1.1.1.1
  rw [if_neg c9] at h2
  by_cases cS : 4 ≤ a1 ∧ a1 ≤ 8
  · rw [if_neg (by omega)] at h2
    obtain ⟨T7, e7, h2⟩ := w_b1E h2
    obtain ⟨j1, j2⟩ := pc_judge T hM T7 e7
    have ct := ct_loop (T := T7) (m_st T) a1 n (by rw [j1.2 192 27 (by omega) (by omega)]; exact hn) (fun j hj => j2 j (by omega)) (fun j _ => st_nn T j) n 0 FU (by omega) (t, T1) (by
      have z : (cm (m_st T) a1 0 : Int) = 0 := by unfold cm; by_cases c4 : a1 = 4 <;> simp [c4, cn]
      rw [z]; exact h2)
    have ct : t = (cm (m_st T) a1 n : Int) := ct
    rw [ct]
    unfold cm
    by_cases c4 : a1 = 4
    · rw [if_pos c4] at h1 ⊢
      obtain ⟨x, ex, h1⟩ := w_b1E h1
      obtain ⟨y, ey, h1⟩ := w_b1E h1
      obtain ⟨_, h1⟩ := w_chkE h1
      have h1 := Option.some.inj h1
      rw [tl 0 x ex, tl 1 y ey] at h1
      omega
    · rw [if_neg c4] at h1 ⊢
      have one : ∃ v y, f_Pile_tally S v = some y ∧ y = r ∧ v = a1 - 5 := by
        by_cases c5 : a1 = 5
        · rw [if_pos c5] at h1
          obtain ⟨y, ey, h1⟩ := w_b1E h1
          exact ⟨0, y, ey, Option.some.inj h1, by omega⟩
        rw [if_neg c5] at h1
        by_cases c6 : a1 = 6
        · rw [if_pos c6] at h1
          obtain ⟨y, ey, h1⟩ := w_b1E h1
          exact ⟨1, y, ey, Option.some.inj h1, by omega⟩
        rw [if_neg c6] at h1
        by_cases c7 : a1 = 7
        · rw [if_pos c7] at h1
          obtain ⟨y, ey, h1⟩ := w_b1E h1
          exact ⟨2, y, ey, Option.some.inj h1, by omega⟩
        rw [if_neg c7, if_pos (by omega)] at h1
        obtain ⟨y, ey, h1⟩ := w_b1E h1
        exact ⟨3, y, ey, Option.some.inj h1, by omega⟩
      obtain ⟨v, y, ey, er, ev⟩ := one
      rw [← er, tl v y ey, ev]
  · rw [if_pos (by omega)] at h2
    rw [if_neg (by omega), if_neg (by omega), if_neg (by omega), if_neg (by omega), if_neg (by omega), if_neg (by omega), if_neg (by omega), if_neg (by omega), if_neg (by omega)] at h1
    cases h1
    cases h2
    rfl
