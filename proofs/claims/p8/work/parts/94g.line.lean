theorem hand_eq {S T : SS} (hB : BF S T) (hK : TKR S T) {h m : Int} {o : Option Unit} {T1 : SS} (e1 : f_MarkReader_handNamed S = some h) (e2 : f_M_readLine T m = some (o, T1)) : f_M_readLine_40 m T h = some (o, T1) ∧ -1 ≤ h ∧ h ≤ 2 := by
  unfold f_MarkReader_handNamed at e1
  unfold f_M_readLine at e2
  obtain ⟨r1, x1, e1⟩ := w_b1E e1
  obtain ⟨t1, y1, e2⟩ := w_b1E e2
  have q1 := is_eq ⟨by decide, by decide⟩ hB hK x1 y1
  by_cases c1 : r1 = 0
  · rw [if_pos c1] at e1
    rw [if_pos (by omega)] at e2
    obtain ⟨r2, x2, e1⟩ := w_b1E e1
    obtain ⟨t2, y2, e2⟩ := w_b1E e2
    have q2 := is_eq ⟨by decide, by decide⟩ hB hK x2 y2
    by_cases c2 : r2 = 0
    · rw [if_pos c2] at e1
      rw [if_pos (by omega)] at e2
      obtain ⟨r3, x3, e1⟩ := w_b1E e1
      obtain ⟨t3, y3, e2⟩ := w_b1E e2
      have q3 := is_eq ⟨by decide, by decide⟩ hB hK x3 y3
      by_cases c3 : r3 = 0
      · rw [if_pos c3] at e1
        rw [if_pos (by omega)] at e2
        cases e1
        exact ⟨e2, by decide, by decide⟩
      · rw [if_neg c3] at e1
        rw [if_neg (by omega)] at e2
        cases e1
        exact ⟨e2, by decide, by decide⟩
    · rw [if_neg c2] at e1
      rw [if_neg (by omega)] at e2
      cases e1
      exact ⟨e2, by decide, by decide⟩
  · rw [if_neg c1] at e1
    rw [if_neg (by omega)] at e2
    cases e1
    exact ⟨e2, by decide, by decide⟩
theorem kind_eq {S T : SS} (hB : BF S T) (hK : TKR S T) {kd : Int} {m : Nat} {o : Option Unit} {T1 : SS} (e1 : f_MarkReader_kindNamed S = some kd) (e2 : f_M_readLine_150 (m : Int) T = some (o, T1)) : ∃ kk, f_M_readLine_250 (m : Int) T (gi T 192 3 - 1) kk (m : Int) = some (o, T1) ∧ -1 ≤ kd ∧ kd ≤ 5 ∧ ((kk = kd ∧ (kd ≠ 5 ∨ gi T 207 m = 0)) ∨ (kk = -1 ∧ kd = 5 ∧ gi T 207 m ≠ 0)) := by
  unfold f_MarkReader_kindNamed at e1
  unfold f_M_readLine_150 f_M_readLine_249 at e2
  obtain ⟨_, e2⟩ := w_chkE e2
  obtain ⟨r1, x1, e1⟩ := w_b1E e1
  obtain ⟨t1, y1, e2⟩ := w_b1E e2
  have q1 := is_eq ⟨by decide, by decide⟩ hB hK x1 y1
  by_cases c1 : r1 = 0
  · rw [if_pos c1] at e1
    rw [if_pos (by omega)] at e2
    obtain ⟨r2, x2, e1⟩ := w_b1E e1
    obtain ⟨t2, y2, e2⟩ := w_b1E e2
    have q2 := is_eq ⟨by decide, by decide⟩ hB hK x2 y2
    by_cases c2 : r2 = 0
    · rw [if_pos c2] at e1
      rw [if_pos (by omega)] at e2
      obtain ⟨r3, x3, e1⟩ := w_b1E e1
      obtain ⟨t3, y3, e2⟩ := w_b1E e2
      have q3 := is_eq ⟨by decide, by decide⟩ hB hK x3 y3
      by_cases c3 : r3 = 0
      · rw [if_pos c3] at e1
        rw [if_pos (by omega)] at e2
        obtain ⟨r4, x4, e1⟩ := w_b1E e1
        obtain ⟨t4, y4, e2⟩ := w_b1E e2
        have q4 := is_eq ⟨by decide, by decide⟩ hB hK x4 y4
        by_cases c4 : r4 = 0
        · rw [if_pos c4] at e1
          rw [if_pos (by omega)] at e2
          obtain ⟨r5, x5, e1⟩ := w_b1E e1
          obtain ⟨t5, y5, e2⟩ := w_b1E e2
          have q5 := is_eq ⟨by decide, by decide⟩ hB hK x5 y5
          by_cases c5 : r5 = 0
          · rw [if_pos c5] at e1
            rw [if_pos (by omega)] at e2
            obtain ⟨r6, x6, e1⟩ := w_b1E e1
            obtain ⟨t6, y6, e2⟩ := w_b1E e2
            have q6 := is_eq ⟨by decide, by decide⟩ hB hK x6 y6
            by_cases c6 : r6 = 0
            · rw [if_pos c6] at e1
              rw [if_pos (by omega)] at e2
              cases e1
              exact ⟨-1, e2, by decide, by decide, .inl ⟨rfl, .inl (by decide)⟩⟩
            · rw [if_neg c6] at e1
              rw [if_neg (by omega)] at e2
              cases e1
              obtain ⟨_, e2⟩ := w_chkE e2
              rw [Int.toNat_natCast] at e2
              by_cases c7 : gi T 207 m = 0
              · rw [if_pos c7] at e2
                exact ⟨5, e2, by decide, by decide, .inl ⟨rfl, .inr c7⟩⟩
              · rw [if_neg c7] at e2
                exact ⟨-1, e2, by decide, by decide, .inr ⟨rfl, rfl, c7⟩⟩
          · rw [if_neg c5] at e1
            rw [if_neg (by omega)] at e2
            cases e1
            exact ⟨4, e2, by decide, by decide, .inl ⟨rfl, .inl (by decide)⟩⟩
        · rw [if_neg c4] at e1
          rw [if_neg (by omega)] at e2
          cases e1
          exact ⟨3, e2, by decide, by decide, .inl ⟨rfl, .inl (by decide)⟩⟩
      · rw [if_neg c3] at e1
        rw [if_neg (by omega)] at e2
        cases e1
        exact ⟨2, e2, by decide, by decide, .inl ⟨rfl, .inl (by decide)⟩⟩
    · rw [if_neg c2] at e1
      rw [if_neg (by omega)] at e2
      cases e1
      exact ⟨1, e2, by decide, by decide, .inl ⟨rfl, .inl (by decide)⟩⟩
  · rw [if_neg c1] at e1
    rw [if_neg (by omega)] at e2
    cases e1
    exact ⟨0, e2, by decide, by decide, .inl ⟨rfl, .inl (by decide)⟩⟩
theorem TKR_keep {S T S1 T1 : SS} (h : TKR S T) (hs : ∀ k, gi S1 177 k = gi S 177 k) (ht : ∀ k, gi T1 192 k = gi T 192 k) (hb : ∀ k, gi T1 197 k = gi T 197 k) : TKR S1 T1 := by
  have eb : mby_ T1 = mby_ T := by funext j; unfold mby_; rw [hb]
  unfold TKR at h ⊢
  rw [eb, hs 4, hs 5, hs 6, ht 9, ht 10, ht 11, ht 12, ht 13]
  exact h
/-- what a line may change: class, reference -/
abbrev XLC (m r k : Nat) : Prop := r = 3 ∨ (r = 177 ∧ 4 ≤ k) ∨ r = 14 + 4 * m ∨ r = 14 + 4 * m + 1 ∨ (r = 14 + 4 * m + 2 ∧ k = 1)
abbrev XLR (m r k : Nat) : Prop := (r = 192 ∧ 10 ≤ k ∧ k ≤ 15) ∨ (199 ≤ r ∧ r ≤ 208 ∧ k = m)
/-- mark k of both sides is told alike -/
def MK (S T : SS) (k : Nat) : Prop := gi S (14 + 4 * k) 2 = gi T 199 k ∧ gi S (14 + 4 * k) 3 = gi T 200 k ∧ gi S (14 + 4 * k + 1) 0 = gi T 201 k ∧ gi S (14 + 4 * k + 1) 1 = gi T 202 k ∧ gi S (14 + 4 * k + 1) 2 = gi T 203 k ∧ WL S T k ∧ PLC S k ∧ gi S (14 + 4 * k) 9 = gi T 208 k
/-- a mark just told -/
def MF (S T : SS) (k : Nat) : Prop := gi S (14 + 4 * k) 7 = gi T 207 k ∧ gi S (14 + 4 * k) 8 = 0 ∧ gi T 205 k = 0
/-- a line: both fault alike, or both have the mark -/
def LQ (S T : SS) (m : Nat) (r : Int) (S' : SS) (o : Option Unit) (T1 : SS) : Prop :=
  ((r = 0 ∧ o = none ∧ FE S' T1) ∨ (r = 1 ∧ o = some () ∧ m < 40 ∧ AH S' T1 ∧ MK S' T1 m ∧ MF S' T1 m)) ∧ fr (XLC m) S S' ∧ fr (XLR m) T T1 ∧ LGC m S S' ∧ LGR m T T1
/-- in the midst of a line: hand and query are told -/
def LM (S0 T0 S T : SS) (m : Nat) : Prop := CX (m + 2) S ∧ MX 1 T ∧ BF S T ∧ TKR S T ∧ gi S 177 3 = gi T 192 3 ∧ (∀ k : Nat, k < m → gi S (14 + 4 * k) 2 = gi T 199 k) ∧ gi S (14 + 4 * m) 3 = gi T 200 m ∧ (gi S (14 + 4 * m + 1) 0 = gi T 201 m ∧ gi S (14 + 4 * m + 1) 1 = gi T 202 m ∧ gi S (14 + 4 * m + 1) 2 = gi T 203 m) ∧ (gi S (14 + 4 * m + 2) 1 = 0 ∧ gi T 204 m = 0) ∧ gi S (14 + 4 * m) 7 = gi T 207 m ∧ gi S (14 + 4 * m) 8 = 0 ∧ gi S (14 + 4 * m) 9 = gi T 208 m ∧ gi T 205 m = 0 ∧ fr (XLC m) S0 S ∧ fr (XLR m) T0 T ∧ S.2 = S0.2 ∧ T.2 = T0.2
theorem bf_fx {S T S1 : SS} {X : Nat → Nat → Prop} (h : BF S T) (f : fr X S S1) (h1 : ¬ X 1 1) (h2 : ∀ k, ¬ X 2 k) : BF S1 T := BF_keep h (fun k => ⟨f 1 1 h1, f 2 k (h2 k)⟩) (fun _ => ⟨rfl, rfl⟩)
theorem bf_fr {S T T1 : SS} {X : Nat → Nat → Prop} (h : BF S T) (f : fr X T T1) (h1 : ¬ X 192 9) (h2 : ∀ k, ¬ X 197 k) : BF S T1 := BF_keep h (fun _ => ⟨rfl, rfl⟩) (fun k => ⟨f 192 9 h1, f 197 k (h2 k)⟩)
theorem rl_head {S T S' T1 : SS} {m : Nat} {r : Int} {o : Option Unit} (hm : m ≤ 40) (hC : CX (m + 2) S) (hM : MX 1 T) (hB : BF S T) (hK : TKR S T) (hF : gi S 177 3 = gi T 192 3) (hkk : ∀ k : Nat, k < m → gi S (14 + 4 * k) 2 = gi T 199 k) (h1 : f_MarkReader_readLine S = some (r, S')) (h2 : f_M_readLine T (m : Int) = some (o, T1)) :
    LQ S T m r S' o T1 ∨ (m < 40 ∧ ∃ Sx Tx, f_MarkReader_readLine_61 Sx m = some (r, S') ∧ f_M_readLine_150 (m : Int) Tx = some (o, T1) ∧ LM S T Sx Tx m) := by
  have tm : ((m : Int)).toNat = m := Int.toNat_natCast m
  have sm := (hC.2.2.2.2.2 (by omega)).2
  have n9 : gi T 192 9 ≤ 2000 := by rw [← hB.1]; exact hB.2.2.1
  unfold f_MarkReader_readLine at h1
  obtain ⟨hd, e1, h1⟩ := w_b1E h1
  obtain ⟨h2, hd1, hd2⟩ := hand_eq hB hK e1 h2
  unfold f_M_readLine_40 at h2
  rw [tm] at h2
  have bad : ∀ kd, r = 0 ∧ S' = c_flt S kd → o = none ∧ T1 = f_M_wrong T kd (gi T 192 10) → LQ S T m r S' o T1 := by
    intro kd a d
    refine ⟨.inl ⟨a.1, d.1, ?_⟩, fun r k x => ?_, fun r k x => ?_, LGC_2 (by rw [a.2]; rfl), LGR_2 (by rw [d.2]; rfl)⟩
    · rw [a.2, d.2]; exact FE_flt hK.1
    · rw [a.2]; exact cf_3 S kd r k (by omega)
    · rw [d.2]; exact wf_192 T kd _ r k (by omega)
  by_cases c : hd = -1
  · rw [if_pos c] at h1 h2
    have h2 := w_ltX h2
    obtain ⟨a, t, e, h1⟩ := w_b2E h1
    obtain ⟨_, h1⟩ := w_chkE h1
    have w := c_refuse e
    cases h1
    cases h2
    exact .inl (bad 1 w ⟨rfl, rfl⟩)
  rw [if_neg c] at h1 h2
  obtain ⟨_, h1⟩ := w_chkE h1
  obtain ⟨ob, S3, eb, h1⟩ := w_b2E h1
  unfold f_Pile_blank at eb
  obtain ⟨_, eb⟩ := w_chkE eb
  obtain ⟨o4, em, eb⟩ := w_b1E eb
  unfold f_Pile_markAt at em
  by_cases cm : m = 40
  · rw [if_neg (by omega), if_neg (by omega)] at em
    cases em
    have eb := w_onN eb
    cases eb
    have h1 := w_onN h1
    obtain ⟨a, t, e, h1⟩ := w_b2E h1
    obtain ⟨_, h1⟩ := w_chkE h1
    have w := c_refuse e
    cases h1
    rw [if_pos (by omega)] at h2
    have h2 := w_ltX h2
    cases h2
    exact .inl (bad 3 w ⟨rfl, rfl⟩)
  have hm' : m < 40 := by omega
  rw [if_neg (by omega), if_pos (by omega), w_chkP (by omega)] at em
  have eo : gq S 11 (gi S 10 3 + gi S 10 4).toNat = some m := by rw [show (gi S 10 3 + gi S 10 4).toNat = m by omega]; exact hC.2.1 m hm'
  have em := Option.some.inj em
  have em : gq S 11 (gi S 10 3 + gi S 10 4).toNat = o4 := em
  rw [eo] at em
  subst em
  have eb0 := eb
  have eb := w_onS eb
  obtain ⟨_, eb⟩ := w_chkE eb
  obtain ⟨S7, e7, eb⟩ := w_b1E eb
  cases eb
  obtain ⟨d1, d2, d3, d4, d5, d6, d7, d8, d9, _⟩ := clear_is e7
  have C3 : CX (m + 2) S3 := (ok_true (ok_Mark_clear S m hC hm') S3 e7).1
  have h1 := w_onS h1
  obtain ⟨_, h1⟩ := w_chkE h1
  have h1 := w_ltX h1
  rw [if_neg (by omega)] at h2
  obtain ⟨_, h2⟩ := w_chkE h2
  have h2 := w_ltX h2
  obtain ⟨_, h2⟩ := w_chkE h2
  have h2 := w_ltX h2
  obtain ⟨_, h2⟩ := w_chkE h2
  have h2 := w_ltX h2
  obtain ⟨_, h2⟩ := w_chkE h2
  have h2 := w_ltX h2
  obtain ⟨_, h2⟩ := w_chkE h2
  have h2 := w_ltX h2
  obtain ⟨_, h2⟩ := w_chkE h2
  have h2 := w_ltX h2
  obtain ⟨_, h2⟩ := w_chkE h2
  have h2 := w_ltX h2
  -- the class's mark with its hand
  have C4 : CX (m + 2) (si S3 (14 + 4 * m) 3 hd) := cs_mk_3 C3 hm' (by omega) hd2
  have f4 : ∀ r k, ¬ (r = 14 + 4 * m ∧ (k = 2 ∨ k = 3 ∨ 7 ≤ k)) → ¬ (r = 14 + 4 * m + 1) → ¬ (r = 14 + 4 * m + 2 ∧ k = 1) → gi (si S3 (14 + 4 * m) 3 hd) r k = gi S r k := fun r k a1 a2 a3 => by rw [gi_off (by omega)]; exact d2 r k a1 a2 a3
  have l4 : (si S3 (14 + 4 * m) 3 hd).2 = S.2 := d1
  have v3 : gi (si S3 (14 + 4 * m) 3 hd) (14 + 4 * m) 3 = hd := gi_at _ _ _ _
  have v0 : gi (si S3 (14 + 4 * m) 3 hd) (14 + 4 * m + 1) 0 = -1 := by rw [gi_off (by omega)]; exact d3
  have v1 : gi (si S3 (14 + 4 * m) 3 hd) (14 + 4 * m + 1) 1 = -1 := by rw [gi_off (by omega)]; exact d4
  have v2 : gi (si S3 (14 + 4 * m) 3 hd) (14 + 4 * m + 1) 2 = -1 := by rw [gi_off (by omega)]; exact d5
  have vw : gi (si S3 (14 + 4 * m) 3 hd) (14 + 4 * m + 2) 1 = 0 := by rw [gi_off (by omega)]; exact d6
  have v7 : gi (si S3 (14 + 4 * m) 3 hd) (14 + 4 * m) 7 = 0 := by rw [gi_off (by omega)]; exact d7
  have v8 : gi (si S3 (14 + 4 * m) 3 hd) (14 + 4 * m) 8 = 0 := by rw [gi_off (by omega)]; exact d8
  have v9 : gi (si S3 (14 + 4 * m) 3 hd) (14 + 4 * m) 9 = 0 := by rw [gi_off (by omega)]; exact d9
  generalize si S3 (14 + 4 * m) 3 hd = S4 at h1 C4 f4 l4 v3 v0 v1 v2 vw v7 v8 v9
  -- the reference's
  have u0 : gi (si (si (si (si (si (si (si T 200 m hd) 201 m (-1)) 202 m (-1)) 203 m (-1)) 204 m 0) 205 m 0) 208 m 0) 200 m = hd := by
    rw [gi_off (by omega), gi_off (by omega), gi_off (by omega), gi_off (by omega), gi_off (by omega), gi_off (by omega), gi_at]
  have u1 : gi (si (si (si (si (si (si (si T 200 m hd) 201 m (-1)) 202 m (-1)) 203 m (-1)) 204 m 0) 205 m 0) 208 m 0) 201 m = -1 := by
    rw [gi_off (by omega), gi_off (by omega), gi_off (by omega), gi_off (by omega), gi_off (by omega), gi_at]
  have u2 : gi (si (si (si (si (si (si (si T 200 m hd) 201 m (-1)) 202 m (-1)) 203 m (-1)) 204 m 0) 205 m 0) 208 m 0) 202 m = -1 := by
    rw [gi_off (by omega), gi_off (by omega), gi_off (by omega), gi_off (by omega), gi_at]
  have u3 : gi (si (si (si (si (si (si (si T 200 m hd) 201 m (-1)) 202 m (-1)) 203 m (-1)) 204 m 0) 205 m 0) 208 m 0) 203 m = -1 := by
    rw [gi_off (by omega), gi_off (by omega), gi_off (by omega), gi_at]
  have u4 : gi (si (si (si (si (si (si (si T 200 m hd) 201 m (-1)) 202 m (-1)) 203 m (-1)) 204 m 0) 205 m 0) 208 m 0) 204 m = 0 := by
    rw [gi_off (by omega), gi_off (by omega), gi_at]
  have u5 : gi (si (si (si (si (si (si (si T 200 m hd) 201 m (-1)) 202 m (-1)) 203 m (-1)) 204 m 0) 205 m 0) 208 m 0) 205 m = 0 := by
    rw [gi_off (by omega), gi_at]
  have u8 : gi (si (si (si (si (si (si (si T 200 m hd) 201 m (-1)) 202 m (-1)) 203 m (-1)) 204 m 0) 205 m 0) 208 m 0) 208 m = 0 := gi_at _ _ _ _
  have fu : ∀ r k, ¬ (200 ≤ r ∧ r ≤ 208 ∧ k = m) → gi (si (si (si (si (si (si (si T 200 m hd) 201 m (-1)) 202 m (-1)) 203 m (-1)) 204 m 0) 205 m 0) 208 m 0) r k = gi T r k := fun r k a => by
    rw [gi_off (by omega), gi_off (by omega), gi_off (by omega), gi_off (by omega), gi_off (by omega), gi_off (by omega), gi_off (by omega)]
  have Mu : MX 1 (si (si (si (si (si (si (si T 200 m hd) 201 m (-1)) 202 m (-1)) 203 m (-1)) 204 m 0) 205 m 0) 208 m 0) := ms_208 (ms_205 (ms_204 (ms_203 (ms_202 (ms_201 (ms_200 hM (by omega) hd2) (by decide) (by decide)) (by decide) (by decide)) (by decide) (by decide)) (by decide) (by decide)) (by decide) (by decide)) (by decide) (by decide)
  have lu : (si (si (si (si (si (si (si T 200 m hd) 201 m (-1)) 202 m (-1)) 203 m (-1)) 204 m 0) 205 m 0) 208 m 0).2 = T.2 := rfl
  generalize si (si (si (si (si (si (si T 200 m hd) 201 m (-1)) 202 m (-1)) 203 m (-1)) 204 m 0) 205 m 0) 208 m 0 = T7 at h2 u0 u1 u2 u3 u4 u5 u8 fu Mu lu
  obtain ⟨T8, e8, h2⟩ := w_b1E h2
  have K7 : TKR S T7 := TKR_keep hK (fun _ => rfl) (fun k => fu 192 k (by omega)) (fun k => fu 197 k (by omega))
  obtain ⟨A8, f8⟩ := TKR_scan (by rw [fu 192 9 (by omega)]; exact n9) K7 e8
  have l8 := lq_scan T7 T8 e8
  have M8 : MX 1 T8 := (ok_true (ok_M_scan T7 Mu) T8 e8).1
  have B8 : BF S4 T8 := BF_keep hB (fun k => ⟨f4 1 1 (by omega) (by omega) (by omega), f4 2 k (by omega) (by omega) (by omega)⟩) (fun k => ⟨by rw [f8 192 9 (by omega)]; exact fu 192 9 (by omega), by rw [f8 197 k (by omega)]; exact fu 197 k (by omega)⟩)
  have A4 : AH S4 T8 := by
    unfold AH at A8 ⊢
    rw [f4 177 4 (by omega) (by omega) (by omega)]; exact A8
  obtain ⟨S12, e12, h1⟩ := w_b1E h1
  obtain ⟨K12, g12⟩ := AH_read B8 A4 e12
  have l12 := lq_token S4 S12 e12
  have C12 : CX (m + 2) S12 := (ok_true (ok_MarkReader_readToken S4 C4 (by omega)) S12 e12).1
  have B12 : BF S12 T8 := BF_keep B8 (fun k => ⟨g12.1 1 1 (by omega), g12.1 2 k (by omega)⟩) (fun _ => ⟨rfl, rfl⟩)
  obtain ⟨rq, eq1, h1⟩ := w_b1E h1
  obtain ⟨tq, eq2, h2⟩ := w_b1E h2
  have qq := is_eq ⟨by decide, by decide⟩ B12 K12 eq1 eq2
  obtain ⟨_, h2⟩ := w_chkE h2
  obtain ⟨_, h2⟩ := w_chkE h2
  have h2 := w_ltX h2
  obtain ⟨_, h2⟩ := w_chkE h2
  rw [gi_at] at h2
  have M13 : MX 1 (si T8 207 m tq) := ms_207 M8 (by omega) (by omega)
  have f13 : ∀ r k, ¬ (r = 207 ∧ k = m) → gi (si T8 207 m tq) r k = gi T8 r k := fun r k a => gi_off a
  have a13 : gi (si T8 207 m tq) 207 m = tq := gi_at _ _ _ _
  have l13 : (si T8 207 m tq).2 = T8.2 := rfl
  generalize si T8 207 m tq = T13 at h2 M13 f13 a13 l13
  have K13 : TKR S12 T13 := TKR_keep K12 (fun _ => rfl) (fun k => f13 192 k (by omega)) (fun k => f13 197 k (by omega))
  have B13 : BF S12 T13 := BF_keep B12 (fun _ => ⟨rfl, rfl⟩) (fun k => ⟨f13 192 9 (by omega), f13 197 k (by omega)⟩)
  -- frames of the whole head
  have mk : ∀ Sx Tx, CX (m + 2) Sx → MX 1 Tx → BF Sx Tx → TKR Sx Tx → (∀ r k, ¬ (r = 177 ∧ 4 ≤ k) → ¬ (r = 14 + 4 * m ∧ k = 7) → gi Sx r k = gi S4 r k) → gi Sx (14 + 4 * m) 7 = tq → fr XSN T13 Tx → Sx.2 = S4.2 → Tx.2 = T13.2 → LM S T Sx Tx m := by
    intro Sx Tx x1 x2 x3 x4 fx x7 ft lx lt
    have gT : ∀ r k, ¬ (r = 192 ∧ 10 ≤ k ∧ k ≤ 13) → ¬ (r = 207 ∧ k = m) → gi Tx r k = gi T7 r k := fun r k a1 a2 => by rw [ft r k (by omega), f13 r k a2, f8 r k (by omega)]
    refine ⟨x1, x2, x3, x4, ?_, fun k hk => ?_, ?_, ⟨?_, ?_, ?_⟩, ⟨?_, ?_⟩, ?_, ?_, ?_, ?_, fun r k a => ?_, fun r k a => ?_, lx.trans l4, ((lt.trans l13).trans l8).trans lu⟩
    · rw [fx 177 3 (by omega) (by omega), f4 177 3 (by omega) (by omega) (by omega), gT 192 3 (by omega) (by omega), fu 192 3 (by omega)]; exact hF
    · rw [fx _ 2 (by omega) (by omega), f4 _ 2 (by omega) (by omega) (by omega), gT 199 k (by omega) (by omega), fu 199 k (by omega)]; exact hkk k hk
    · rw [fx _ 3 (by omega) (by omega), v3, gT 200 m (by omega) (by omega), u0]
    · rw [fx _ 0 (by omega) (by omega), v0, gT 201 m (by omega) (by omega), u1]
    · rw [fx _ 1 (by omega) (by omega), v1, gT 202 m (by omega) (by omega), u2]
    · rw [fx _ 2 (by omega) (by omega), v2, gT 203 m (by omega) (by omega), u3]
    · rw [fx _ 1 (by omega) (by omega), vw]
    · rw [gT 204 m (by omega) (by omega), u4]
    · rw [x7, ft 207 m (by omega), a13]
    · rw [fx _ 8 (by omega) (by omega), v8]
    · rw [fx _ 9 (by omega) (by omega), v9, gT 208 m (by omega) (by omega), u8]
    · rw [gT 205 m (by omega) (by omega), u5]
    · rw [fx r k (by omega) (by omega)]; exact f4 r k (by omega) (by omega) (by omega)
    · rw [gT r k (by omega) (by omega)]; exact fu r k (by omega)
  right
  refine ⟨hm', ?_⟩
  by_cases cq : rq = 0
  · rw [if_pos cq] at h1
    rw [if_pos (by omega)] at h2
    exact ⟨S12, T13, h1, h2, mk S12 T13 C12 M13 B13 K13 (fun r k a1 a2 => g12.1 r k (by omega)) (by rw [g12.1 _ 7 (by omega), v7]; omega) (fr_refl _ _) l12 rfl⟩
  · rw [if_neg cq] at h1
    rw [if_neg (by omega)] at h2
    have h1 := w_ltX h1
    obtain ⟨S17, e17, h1⟩ := w_b1E h1
    obtain ⟨T15, e15, h2⟩ := w_b1E h2
    have C16 : CX (m + 2) (si S12 (14 + 4 * m) 7 1) := cs_mk_7 C12 hm' (by decide) (by decide)
    have f16 : ∀ r k, ¬ (r = 14 + 4 * m ∧ k = 7) → gi (si S12 (14 + 4 * m) 7 1) r k = gi S12 r k := fun r k a => gi_off a
    have a16 : gi (si S12 (14 + 4 * m) 7 1) (14 + 4 * m) 7 = 1 := gi_at _ _ _ _
    have l16 : (si S12 (14 + 4 * m) 7 1).2 = S12.2 := rfl
    generalize si S12 (14 + 4 * m) 7 1 = S16 at h1 e17 C16 f16 a16 l16
    obtain ⟨A15, f15⟩ := TKR_scan (by rw [f13 192 9 (by omega), f8 192 9 (by omega), fu 192 9 (by omega)]; exact n9) K13 e15
    have M15 : MX 1 T15 := (ok_true (ok_M_scan T13 M13) T15 e15).1
    have A16 : AH S16 T15 := by
      unfold AH at A15 ⊢
      rw [f16 177 4 (by omega)]; exact A15
    have B16 : BF S16 T15 := BF_keep B13 (fun k => ⟨f16 1 1 (by omega), f16 2 k (by omega)⟩) (fun k => ⟨f15 192 9 (by omega), f15 197 k (by omega)⟩)
    obtain ⟨K17, g17⟩ := AH_read B16 A16 e17
    have C17 : CX (m + 2) S17 := (ok_true (ok_MarkReader_readToken S16 C16 (by omega)) S17 e17).1
    have B17 : BF S17 T15 := BF_keep B16 (fun k => ⟨g17.1 1 1 (by omega), g17.1 2 k (by omega)⟩) (fun _ => ⟨rfl, rfl⟩)
    exact ⟨S17, T15, h1, h2, mk S17 T15 C17 M15 B17 K17 (fun r k a1 a2 => by rw [g17.1 r k (by omega), f16 r k a2]; exact g12.1 r k (by omega)) (by rw [g17.1 _ 7 (by omega), a16]; omega) f15 (((lq_token S16 S17 e17).trans l16).trans l12) (lq_scan T13 T15 e15)⟩
