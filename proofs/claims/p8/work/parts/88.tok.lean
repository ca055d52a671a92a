/-- sort of a byte: 1 small letter, 2 digit, 0 other -/
def t_cls (c : Int) : Int := if 97 ≤ c ∧ c ≤ 122 then 1 else if 48 ≤ c ∧ c ≤ 57 then 2 else 0
def t_bl (c : Int) : Prop := c = 32 ∨ c = 10
/-- the token from p on begins at s and ends ahead of e -/
def t_is (b : Int → Int) (N p s e : Int) : Prop := p ≤ s ∧ s ≤ N ∧ (∀ i, p ≤ i → i < s → t_bl (b i)) ∧ ((s = N ∧ e = N) ∨ (s < N ∧ ¬ t_bl (b s) ∧ s < e ∧ e ≤ N ∧ ((t_cls (b s) = 0 ∧ e = s + 1) ∨ (t_cls (b s) ≠ 0 ∧ (∀ i, s ≤ i → i < e → t_cls (b i) = t_cls (b s)) ∧ (e = N ∨ t_cls (b e) ≠ t_cls (b s))))))
theorem t_one {b : Int → Int} {N p s e s' e' : Int} (h : t_is b N p s e) (h' : t_is b N p s' e') : s = s' ∧ e = e' := by
  obtain ⟨a1, a2, a3, a4⟩ := h
  obtain ⟨b1, b2, b3, b4⟩ := h'
  have es : s = s' := by
    by_cases c : s < s'
    · have q := b3 s a1 c
      rcases a4 with a4 | a4
      · omega
      · exact absurd q a4.2.1
    · by_cases c2 : s' < s
      · have q := a3 s' b1 c2
        rcases b4 with b4 | b4
        · omega
        · exact absurd q b4.2.1
      · omega
  subst es
  refine ⟨rfl, ?_⟩
  rcases a4 with a4 | a4
  · rcases b4 with b4 | b4
    · omega
    · omega
  · rcases b4 with b4 | b4
    · omega
    · obtain ⟨_, _, p1, p2, p3⟩ := a4
      obtain ⟨_, _, q1, q2, q3⟩ := b4
      rcases p3 with p3 | p3
      · rcases q3 with q3 | q3
        · omega
        · exact absurd p3.1 q3.1
      · rcases q3 with q3 | q3
        · exact absurd q3.1 p3.1
        · by_cases c : e < e'
          · have q := q3.2.1 e (by omega) c
            rcases p3.2.2 with w | w
            · omega
            · exact absurd q w
          · by_cases c2 : e' < e
            · have q := p3.2.1 e' (by omega) c2
              rcases q3.2.2 with w | w
              · omega
              · exact absurd q w
            · omega
/-- digits from s on, n of them -/
def t_val (b : Int → Int) (s : Int) : Nat → Int
  | 0 => 0
  | n + 1 => 10 * t_val b s n + b (s + (n : Int)) - 48
def cby_ (S : SS) (i : Int) : Int := andi (gi S 2 i.toNat) 255
def mby_ (T : SS) (i : Int) : Int := andi (gi T 197 i.toNat) 255
theorem cls_c (S : SS) (c : Int) : f_MarkReader_sortOf S c = t_cls c := by
  unfold f_MarkReader_sortOf f_MP_isSmall f_MP_isDigit t_cls
  repeat' split
  all_goals first | rfl | omega
theorem bl_c (S : SS) (c : Int) : (f_MP_isBlank S c = 0 ∧ ¬ t_bl c) ∨ (f_MP_isBlank S c = 1 ∧ t_bl c) := by
  unfold f_MP_isBlank t_bl
  by_cases h : c = 32
  · rw [if_pos h]; exact .inr ⟨rfl, .inl h⟩
  · rw [if_neg h]
    by_cases h2 : c = 10
    · rw [if_pos h2]; exact .inr ⟨rfl, .inr h2⟩
    · rw [if_neg h2]; exact .inl ⟨rfl, fun q => q.elim h h2⟩
theorem sm_m (T : SS) (c : Int) : (f_M_isSmall T c = 0 ∧ t_cls c ≠ 1) ∨ (f_M_isSmall T c = 1 ∧ t_cls c = 1) := by
  unfold f_M_isSmall t_cls
  repeat' split
  all_goals first | (left; refine ⟨rfl, ?_⟩; omega) | (right; refine ⟨rfl, ?_⟩; omega)
theorem dg_m (T : SS) (c : Int) : (f_M_isDigit T c = 0 ∧ t_cls c ≠ 2) ∨ (f_M_isDigit T c = 1 ∧ t_cls c = 2) := by
  unfold f_M_isDigit t_cls
  repeat' split
  all_goals first | (left; refine ⟨rfl, ?_⟩; omega) | (right; refine ⟨rfl, ?_⟩; omega)
/-- class: blanks are passed -/
theorem tk_skip (S0 : SS) (p : Int) (h2 : gi S0 1 1 ≤ 2000) : ∀ (n : Nat) (S : SS) (i : Int), 0 ≤ p → p ≤ i → i ≤ gi S0 1 1 → gi S 177 4 = i → FX (fun r k => r = 177 ∧ k = 4) S0 S → (∀ j, p ≤ j → j < i → t_bl (cby_ S0 j)) → pc (f_MarkReader_skipBlanks_5 n S i) (fun S1 => FX (fun r k => r = 177 ∧ k = 4) S0 S1 ∧ p ≤ gi S1 177 4 ∧ gi S1 177 4 ≤ gi S0 1 1 ∧ (∀ j, p ≤ j → j < gi S1 177 4 → t_bl (cby_ S0 j)) ∧ (gi S1 177 4 = gi S0 1 1 ∨ ¬ t_bl (cby_ S0 (gi S1 177 4)))) := by
  intro n
  induction n with
  | zero => intro S i _ _ _ _ _ _ r e; exact absurd e (by simp [f_MarkReader_skipBlanks_5])
  | succ n ih =>
    intro S i hp h1 hi h4 hf hb
    have e11 : gi S 1 1 = gi S0 1 1 := hf.1 1 1 (by omega)
    have e2 : gi S 2 i.toNat = gi S0 2 i.toNat := hf.1 2 _ (by omega)
    show pc (f_MarkReader_skipBlanks_5_b (f_MarkReader_skipBlanks_5 n) S i) _
    unfold f_MarkReader_skipBlanks_5_b
    refine pc_chk (fun _ => pc_if (fun c => pc_some ⟨hf, by omega, by omega, fun j a d => hb j a (by omega), .inl (by omega)⟩) (fun c => pc_chk (fun _ => ?_)))
    rw [w_b1_is (cby (S := S) (i := i) (by omega) (by omega) (by omega)), e2]
    have eb : andi (gi S0 2 i.toNat) 255 = cby_ S0 i := rfl
    rw [eb]
    rcases bl_c S (cby_ S0 i) with q | q
    · refine pc_if (fun _ => pc_some ⟨hf, by omega, by omega, fun j a d => hb j a (by omega), .inr (by rw [h4]; exact q.2)⟩) (fun c2 => absurd q.1 c2)
    · refine pc_if (fun c2 => absurd (q.1.symm.trans c2) (by decide)) (fun _ => pc_chk (fun _ => pc_lt (fun S6 e6 => pc_chk (fun _ => ?_))))
      refine ih S6 (i + 1) hp (by omega) (by omega) (by rw [e6, gi_at]) (by rw [e6]; exact FX_si hf ⟨rfl, rfl⟩) (fun j a d => ?_)
      by_cases e : j = i
      · rw [e]; exact q.2
      · exact hb j a (by omega)
/-- class: bytes of one sort are passed -/
theorem tk_run (S0 : SS) (s cl : Int) (h2 : gi S0 1 1 ≤ 2000) : ∀ (n : Nat) (S : SS) (i : Int), 0 ≤ s → s ≤ i → i ≤ gi S0 1 1 → gi S 177 4 = i → gi S 177 6 = cl → FX (fun r k => r = 177 ∧ k = 4) S0 S → (∀ j, s ≤ j → j < i → t_cls (cby_ S0 j) = cl) → pc (f_MarkReader_readToken_67 n S i) (fun S1 => FX (fun r k => r = 177 ∧ k = 4) S0 S1 ∧ i ≤ gi S1 177 4 ∧ gi S1 177 4 ≤ gi S0 1 1 ∧ (∀ j, s ≤ j → j < gi S1 177 4 → t_cls (cby_ S0 j) = cl) ∧ (gi S1 177 4 = gi S0 1 1 ∨ t_cls (cby_ S0 (gi S1 177 4)) ≠ cl)) := by
  intro n
  induction n with
  | zero => intro S i _ _ _ _ _ _ _ r e; exact absurd e (by simp [f_MarkReader_readToken_67])
  | succ n ih =>
    intro S i hp h1 hi h4 h6 hf hb
    have e11 : gi S 1 1 = gi S0 1 1 := hf.1 1 1 (by omega)
    have e2 : gi S 2 i.toNat = gi S0 2 i.toNat := hf.1 2 _ (by omega)
    show pc (f_MarkReader_readToken_67_b (f_MarkReader_readToken_67 n) S i) _
    unfold f_MarkReader_readToken_67_b
    refine pc_chk (fun _ => pc_if (fun c => pc_some ⟨hf, by omega, by omega, fun j a d => hb j a (by omega), .inl (by omega)⟩) (fun c => pc_chk (fun _ => ?_)))
    rw [w_b1_is (cby (S := S) (i := i) (by omega) (by omega) (by omega)), e2, cls_c, h6]
    have eb : andi (gi S0 2 i.toNat) 255 = cby_ S0 i := rfl
    rw [eb]
    refine pc_if (fun c2 => pc_chk (fun _ => pc_lt (fun S6 e6 => pc_chk (fun _ => ?_)))) (fun c2 => pc_some ⟨hf, by omega, by omega, fun j a d => hb j a (by omega), .inr (by rw [h4]; exact c2)⟩)
    refine pc_mono (ih S6 (i + 1) hp (by omega) (by omega) (by rw [e6, gi_at]) (by rw [e6, gi_off (by omega)]; exact h6) (by rw [e6]; exact FX_si hf ⟨rfl, rfl⟩) (fun j a d => ?_)) (fun S1 h => ⟨h.1, by omega, h.2.2⟩)
    by_cases e : j = i
    · rw [e]; exact c2
    · exact hb j a (by omega)
/-- class: a token is read -/
theorem tk_read (S : SS) (h0 : 0 ≤ gi S 177 4 ∧ gi S 177 4 ≤ gi S 1 1) (h2 : gi S 1 1 ≤ 2000) : pc (f_MarkReader_readToken S) (fun S1 => FX (fun r k => r = 177 ∧ 4 ≤ k) S S1 ∧ t_is (cby_ S) (gi S 1 1) (gi S 177 4) (gi S1 177 5) (gi S1 177 4) ∧ gi S1 177 6 = (if gi S1 177 5 = gi S 1 1 then 0 else t_cls (cby_ S (gi S1 177 5)))) := by
  unfold f_MarkReader_readToken f_MarkReader_skipBlanks
  refine pc_b1 (tk_skip S (gi S 177 4) h2 FU S (gi S 177 4) h0.1 (Int.le_refl _) h0.2 rfl (FX_refl _ S) (fun j a d => by omega)) (fun S1 h1 => pc_lt (fun S4 e4 => pc_chk (fun _ => ?_)))
  obtain ⟨f1, p1, p2, p3, p4⟩ := h1
  have f1' : FX (fun r k => r = 177 ∧ 4 ≤ k) S S1 := ⟨fun r k a => f1.1 r k (by omega), f1.2⟩
  have f4 : FX (fun r k => r = 177 ∧ 4 ≤ k) S S4 := by rw [e4]; exact FX_si f1' ⟨rfl, by omega⟩
  have a4 : gi S4 177 4 = gi S1 177 4 := by rw [e4, gi_off (by omega)]
  have a5 : gi S4 177 5 = gi S1 177 4 := by rw [e4, gi_at]
  have e11 : gi S4 1 1 = gi S 1 1 := f4.1 1 1 (by omega)
  have e2 : ∀ k, gi S4 2 k = gi S 2 k := fun k => f4.1 2 k (by omega)
  by_cases c : gi S1 177 4 = gi S 1 1
  · -- at the end
    have eb : f_Tape_byteAt S4 (gi S4 177 4) = some (-1) := by
      unfold f_Tape_byteAt
      rw [if_neg (by omega), if_pos (by omega)]
    rw [w_b1_is eb, cls_c]
    refine pc_lt (fun S9 e9 => pc_chk (fun _ => ?_))
    have z : t_cls (-1) = 0 := by decide
    have b4 : gi S9 177 4 = gi S1 177 4 := by rw [e9, gi_off (by omega)]; exact a4
    have b5 : gi S9 177 5 = gi S1 177 4 := by rw [e9, gi_off (by omega)]; exact a5
    have b6 : gi S9 177 6 = 0 := by rw [e9, gi_at]; exact z
    have b11 : gi S9 1 1 = gi S 1 1 := by rw [e9, gi_off (by omega)]; exact e11
    unfold f_MarkReader_readToken_54
    refine pc_if (fun _ => pc_if (fun _ => pc_some ⟨?_, ?_, ?_⟩) (fun c2 => absurd b6 c2)) (fun c2 => absurd c2 (by omega))
    · rw [e9]; exact FX_si f4 ⟨rfl, by omega⟩
    · rw [b5, b4]; exact ⟨p1, p2, p3, .inl ⟨c, c⟩⟩
    · rw [b6, b5, if_pos c]
  · have hb : ¬ t_bl (cby_ S (gi S1 177 4)) := by
      rcases p4 with q | q
      · exact absurd q c
      · exact q
    rw [w_b1_is (cby (S := S4) (i := gi S4 177 4) (by omega) (by omega) (by omega)), a4, e2, cls_c]
    have eb : andi (gi S 2 (gi S1 177 4).toNat) 255 = cby_ S (gi S1 177 4) := rfl
    rw [eb]
    refine pc_lt (fun S9 e9 => pc_chk (fun _ => ?_))
    have b4 : gi S9 177 4 = gi S1 177 4 := by rw [e9, gi_off (by omega)]; exact a4
    have b5 : gi S9 177 5 = gi S1 177 4 := by rw [e9, gi_off (by omega)]; exact a5
    have b6 : gi S9 177 6 = t_cls (cby_ S (gi S1 177 4)) := by rw [e9, gi_at]
    have f9 : FX (fun r k => r = 177 ∧ 4 ≤ k) S S9 := by rw [e9]; exact FX_si f4 ⟨rfl, by omega⟩
    have b11 : gi S9 1 1 = gi S 1 1 := f9.1 1 1 (by omega)
    refine pc_if (fun c2 => absurd c2 (by omega)) (fun c2 => pc_chk (fun _ => pc_lt (fun S14 e14 => ?_)))
    have f14 : FX (fun r k => r = 177 ∧ 4 ≤ k) S S14 := by rw [e14]; exact FX_si f9 ⟨rfl, by omega⟩
    have d4 : gi S14 177 4 = gi S1 177 4 + 1 := by rw [e14, gi_at, b4]
    have d5 : gi S14 177 5 = gi S1 177 4 := by rw [e14, gi_off (by omega)]; exact b5
    have d6 : gi S14 177 6 = t_cls (cby_ S (gi S1 177 4)) := by rw [e14, gi_off (by omega)]; exact b6
    unfold f_MarkReader_readToken_54
    refine pc_if (fun c3 => pc_some ⟨f14, ?_, ?_⟩) (fun c3 => ?_)
    · rw [d5, d4]; exact ⟨p1, p2, p3, .inr ⟨by omega, hb, by omega, by omega, .inl ⟨by rw [← d6]; exact c3, rfl⟩⟩⟩
    · rw [d6, d5, if_neg c]
    · have e14' : gi S14 1 1 = gi S 1 1 := f14.1 1 1 (by omega)
      have ec : ∀ j, cby_ S14 j = cby_ S j := fun j => by unfold cby_; rw [f14.1 2 _ (by omega)]
      refine pc_mono (tk_run S14 (gi S1 177 4) (t_cls (cby_ S (gi S1 177 4))) (by omega) FU S14 (gi S14 177 4) (by omega) (by omega) (by omega) rfl d6 (FX_refl _ S14) (fun j a d => ?_)) (fun S2 h2 => ?_)
      · rw [ec, show j = gi S1 177 4 by omega]
      · obtain ⟨g1, g2, g3, g4, g5⟩ := h2
        have x5 : gi S2 177 5 = gi S1 177 4 := by rw [g1.1 177 5 (by omega)]; exact d5
        have x6 : gi S2 177 6 = t_cls (cby_ S (gi S1 177 4)) := by rw [g1.1 177 6 (by omega)]; exact d6
        refine ⟨⟨fun r k a => by rw [g1.1 r k (by omega)]; exact f14.1 r k a, g1.2.trans f14.2⟩, ?_, by rw [x6, x5, if_neg c]⟩
        rw [x5]
        refine ⟨p1, p2, p3, .inr ⟨by omega, hb, by omega, by omega, .inr ⟨by rw [← d6]; exact c3, fun j a d => ?_, ?_⟩⟩⟩
        · rw [← ec]; exact g4 j a d
        · rcases g5 with q | q
          · left; omega
          · right; rw [← ec]; exact q
