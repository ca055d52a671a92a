abbrev XSN (r k : Nat) : Prop := r = 192 ∧ 10 ≤ k ∧ k ≤ 13
theorem mby2 {S : SS} {k : Int} (h0 : 0 ≤ k) (h2 : gi S 192 9 ≤ 2000) : f_M_byteAt S k = some (if gi S 192 9 ≤ k then 0 else andi (gi S 197 k.toNat) 255) := by
  by_cases c : gi S 192 9 ≤ k
  · unfold f_M_byteAt; rw [if_pos c, if_pos c]
  · rw [if_neg c]; exact mby h0 (by omega) h2
theorem mk_81 (S0 : SS) (s : Int) (h2 : gi S0 192 9 ≤ 2000) : ∀ (n : Nat) (S : SS), fr XSN S0 S → gi S 192 10 = s → 0 ≤ s → s ≤ gi S 192 11 → gi S 192 11 ≤ gi S0 192 9 → (∀ j, s ≤ j → j < gi S 192 11 → t_cls (mby_ S0 j) = 1) → pc (f_M_scan_81 n S) (fun S1 => fr XSN S0 S1 ∧ gi S1 192 10 = s ∧ gi S1 192 12 = 1 ∧ s ≤ gi S1 192 11 ∧ gi S1 192 11 ≤ gi S0 192 9 ∧ (∀ j, s ≤ j → j < gi S1 192 11 → t_cls (mby_ S0 j) = 1) ∧ (gi S1 192 11 = gi S0 192 9 ∨ t_cls (mby_ S0 (gi S1 192 11)) ≠ 1)) := by
  intro n
  induction n with
  | zero => intro S _ _ _ _ _ _ r e; exact absurd e (by simp [f_M_scan_81])
  | succ n ih =>
    intro S hf hs h0 h1 hN hb
    have e9 : gi S 192 9 = gi S0 192 9 := hf 192 9 (by omega)
    have e197 : gi S 197 (gi S 192 11).toNat = gi S0 197 (gi S 192 11).toNat := hf 197 _ (by omega)
    show pc (f_M_scan_81_b (f_M_scan_81 n) S) _
    unfold f_M_scan_81_b
    rw [w_b1_is (mby2 (S := S) (k := gi S 192 11) (by omega) (by omega)), e9, e197]
    have eb : andi (gi S0 197 (gi S 192 11).toNat) 255 = mby_ S0 (gi S 192 11) := rfl
    rw [eb]
    have sm := sm_m S (if gi S0 192 9 ≤ gi S 192 11 then 0 else mby_ S0 (gi S 192 11))
    refine pc_if (fun c => pc_lt (fun S5 e5 => pc_some ?_)) (fun c => pc_chk (fun _ => pc_lt (fun S8 e8 => ?_)))
    · have d10 : gi S5 192 10 = s := by rw [e5, gi_off (by omega)]; exact hs
      have d11 : gi S5 192 11 = gi S 192 11 := by rw [e5, gi_off (by omega)]
      refine ⟨by rw [e5]; exact fr_si hf ⟨rfl, by omega, by omega⟩, d10, by rw [e5, gi_at], by omega, by omega, fun j a d => hb j a (by omega), ?_⟩
      rw [d11]
      by_cases c9 : gi S0 192 9 ≤ gi S 192 11
      · left; omega
      · right
        rw [if_neg c9] at sm c
        rcases sm with q | q
        · exact q.2
        · exact absurd (q.1.symm.trans c) (by decide)
    · have c9 : ¬ gi S0 192 9 ≤ gi S 192 11 := by
        intro c9
        rw [if_pos c9] at sm c
        have z : t_cls 0 = 0 := by decide
        rcases sm with q | q
        · exact c q.1
        · rw [z] at q; exact absurd q.2 (by decide)
      rw [if_neg c9] at sm c
      have cl : t_cls (mby_ S0 (gi S 192 11)) = 1 := by
        rcases sm with q | q
        · exact absurd q.1 c
        · exact q.2
      have d10 : gi S8 192 10 = s := by rw [e8, gi_off (by omega)]; exact hs
      have d11 : gi S8 192 11 = gi S 192 11 + 1 := by rw [e8, gi_at]
      refine ih S8 (by rw [e8]; exact fr_si hf ⟨rfl, by omega, by omega⟩) d10 h0 (by omega) (by omega) (fun j a d => ?_)
      by_cases e : j = gi S 192 11
      · rw [e]; exact cl
      · exact hb j a (by omega)
theorem mk_128 (S0 : SS) (s : Int) (h2 : gi S0 192 9 ≤ 2000) : ∀ (n : Nat) (S : SS), fr XSN S0 S → gi S 192 10 = s → 0 ≤ s → s ≤ gi S 192 11 → gi S 192 11 ≤ gi S0 192 9 → (∀ j, s ≤ j → j < gi S 192 11 → t_cls (mby_ S0 j) = 2) → gi S 192 13 = t_val (mby_ S0) s (min (gi S 192 11 - s).toNat 3) → pc (f_M_scan_128 n S) (fun S1 => fr XSN S0 S1 ∧ gi S1 192 10 = s ∧ ((gi S1 192 11 - s ≤ 3 ∧ gi S1 192 12 = 2) ∨ (3 < gi S1 192 11 - s ∧ gi S1 192 12 = 4)) ∧ s ≤ gi S1 192 11 ∧ gi S1 192 11 ≤ gi S0 192 9 ∧ (∀ j, s ≤ j → j < gi S1 192 11 → t_cls (mby_ S0 j) = 2) ∧ (gi S1 192 11 = gi S0 192 9 ∨ t_cls (mby_ S0 (gi S1 192 11)) ≠ 2) ∧ gi S1 192 13 = t_val (mby_ S0) s (min (gi S1 192 11 - s).toNat 3)) := by
  intro n
  induction n with
  | zero => intro S _ _ _ _ _ _ _ r e; exact absurd e (by simp [f_M_scan_128])
  | succ n ih =>
    intro S hf hs h0 h1 hN hb hv
    have e9 : gi S 192 9 = gi S0 192 9 := hf 192 9 (by omega)
    have e197 : gi S 197 (gi S 192 11).toNat = gi S0 197 (gi S 192 11).toNat := hf 197 _ (by omega)
    show pc (f_M_scan_128_b (f_M_scan_128 n) S) _
    unfold f_M_scan_128_b
    rw [w_b1_is (mby2 (S := S) (k := gi S 192 11) (by omega) (by omega)), e9, e197]
    have eb : andi (gi S0 197 (gi S 192 11).toNat) 255 = mby_ S0 (gi S 192 11) := rfl
    rw [eb]
    have dg := dg_m S (if gi S0 192 9 ≤ gi S 192 11 then 0 else mby_ S0 (gi S 192 11))
    refine pc_if (fun c => pc_chk (fun _ => ?_)) (fun c => pc_chk (fun _ => ?_))
    · have stop : gi S 192 11 = gi S0 192 9 ∨ t_cls (mby_ S0 (gi S 192 11)) ≠ 2 := by
        by_cases c9 : gi S0 192 9 ≤ gi S 192 11
        · left; omega
        · right
          rw [if_neg c9] at dg c
          rcases dg with q | q
          · exact q.2
          · exact absurd (q.1.symm.trans c) (by decide)
      have fin : ∀ v, ((gi S 192 11 - s ≤ 3 ∧ v = 2) ∨ (3 < gi S 192 11 - s ∧ v = 4)) → pc (f_M_scan_210 S v) (fun S1 => fr XSN S0 S1 ∧ gi S1 192 10 = s ∧ ((gi S1 192 11 - s ≤ 3 ∧ gi S1 192 12 = 2) ∨ (3 < gi S1 192 11 - s ∧ gi S1 192 12 = 4)) ∧ s ≤ gi S1 192 11 ∧ gi S1 192 11 ≤ gi S0 192 9 ∧ (∀ j, s ≤ j → j < gi S1 192 11 → t_cls (mby_ S0 j) = 2) ∧ (gi S1 192 11 = gi S0 192 9 ∨ t_cls (mby_ S0 (gi S1 192 11)) ≠ 2) ∧ gi S1 192 13 = t_val (mby_ S0) s (min (gi S1 192 11 - s).toNat 3)) := by
        intro v hv'
        unfold f_M_scan_210
        refine pc_lt (fun S5 e5 => pc_some ?_)
        have d10 : gi S5 192 10 = s := by rw [e5, gi_off (by omega)]; exact hs
        have d11 : gi S5 192 11 = gi S 192 11 := by rw [e5, gi_off (by omega)]
        have d12 : gi S5 192 12 = v := by rw [e5, gi_at]
        have d13 : gi S5 192 13 = gi S 192 13 := by rw [e5, gi_off (by omega)]
        rw [d10, d11, d12, d13]
        exact ⟨by rw [e5]; exact fr_si hf ⟨rfl, by omega, by omega⟩, rfl, hv', h1, hN, hb, stop, hv⟩
      exact pc_if (fun c2 => fin 2 (.inl ⟨by omega, rfl⟩)) (fun c2 => fin 4 (.inr ⟨by omega, rfl⟩))
    · have c9 : ¬ gi S0 192 9 ≤ gi S 192 11 := by
        intro c9
        rw [if_pos c9] at dg c
        have z : t_cls 0 = 0 := by decide
        rcases dg with q | q
        · exact c q.1
        · rw [z] at q; exact absurd q.2 (by decide)
      rw [if_neg c9] at dg c
      have cl : t_cls (mby_ S0 (gi S 192 11)) = 2 := by
        rcases dg with q | q
        · exact absurd q.1 c
        · exact q.2
      have go : ∀ S', fr XSN S0 S' → gi S' 192 10 = s → gi S' 192 11 = gi S 192 11 → gi S' 192 13 = t_val (mby_ S0) s (min (gi S 192 11 + 1 - s).toNat 3) → pc (f_M_scan_178 (f_M_scan_128 n) S') (fun S1 => fr XSN S0 S1 ∧ gi S1 192 10 = s ∧ ((gi S1 192 11 - s ≤ 3 ∧ gi S1 192 12 = 2) ∨ (3 < gi S1 192 11 - s ∧ gi S1 192 12 = 4)) ∧ s ≤ gi S1 192 11 ∧ gi S1 192 11 ≤ gi S0 192 9 ∧ (∀ j, s ≤ j → j < gi S1 192 11 → t_cls (mby_ S0 j) = 2) ∧ (gi S1 192 11 = gi S0 192 9 ∨ t_cls (mby_ S0 (gi S1 192 11)) ≠ 2) ∧ gi S1 192 13 = t_val (mby_ S0) s (min (gi S1 192 11 - s).toNat 3)) := by
        intro S' f' a10 a11 a13
        unfold f_M_scan_178
        refine pc_chk (fun _ => pc_lt (fun S3 e3 => ?_))
        have d10 : gi S3 192 10 = s := by rw [e3, gi_off (by omega)]; exact a10
        have d11 : gi S3 192 11 = gi S 192 11 + 1 := by rw [e3, gi_at, a11]
        have d13 : gi S3 192 13 = gi S' 192 13 := by rw [e3, gi_off (by omega)]
        refine ih S3 (by rw [e3]; exact fr_si f' ⟨rfl, by omega, by omega⟩) d10 h0 (by omega) (by omega) (fun j a d => ?_) (by rw [d13, d11]; exact a13)
        by_cases e : j = gi S 192 11
        · rw [e]; exact cl
        · exact hb j a (by omega)
      refine pc_if (fun c2 => go S hf hs rfl ?_) (fun c2 => pc_chk (fun _ => ?_))
      · rw [hv, show min (gi S 192 11 - s).toNat 3 = 3 by omega, show min (gi S 192 11 + 1 - s).toNat 3 = 3 by omega]
      · rw [w_b1_is (mby2 (S := S) (k := gi S 192 11) (by omega) (by omega)), e9, if_neg c9, e197, eb]
        refine pc_chk (fun _ => pc_chk (fun _ => pc_lt (fun S18 e18 => go S18 (by rw [e18]; exact fr_si hf ⟨rfl, by omega, by omega⟩) (by rw [e18, gi_off (by omega)]; exact hs) (by rw [e18, gi_off (by omega)]) ?_)))
        rw [e18, gi_at, hv]
        obtain ⟨m, hm⟩ : ∃ m : Nat, (gi S 192 11 - s).toNat = m := ⟨_, rfl⟩
        rw [show min (gi S 192 11 - s).toNat 3 = m by omega, show min (gi S 192 11 + 1 - s).toNat 3 = m + 1 by omega, t_val, show s + (m : Int) = gi S 192 11 by omega]
/-- what the reference's hand says of the token s .. e -/
def t_hand (b : Int → Int) (N s e hand value : Int) : Prop := (s = N → hand = 0) ∧ (s < N → (t_cls (b s) = 1 → hand = 1) ∧ (t_cls (b s) = 2 → ((e - s ≤ 3 ∧ hand = 2) ∨ (3 < e - s ∧ hand = 4)) ∧ value = t_val b s (min (e - s).toNat 3)) ∧ (t_cls (b s) = 0 → (hand = 3 ∧ (b s = 63 ∨ b s = 61 ∨ b s = 59)) ∨ (hand = 4 ∧ ¬ (b s = 63 ∨ b s = 61 ∨ b s = 59))))
theorem mk_38 (S0 S : SS) (p : Int) (h2 : gi S0 192 9 ≤ 2000) (hf : fr XSN S0 S) (h0 : 0 ≤ p) (h1 : p ≤ gi S 192 11) (hN : gi S 192 11 ≤ gi S0 192 9) (hb : ∀ j, p ≤ j → j < gi S 192 11 → t_bl (mby_ S0 j)) (hs : gi S 192 11 = gi S0 192 9 ∨ ¬ t_bl (mby_ S0 (gi S 192 11))) : pc (f_M_scan_38 S) (fun S1 => fr XSN S0 S1 ∧ t_is (mby_ S0) (gi S0 192 9) p (gi S1 192 10) (gi S1 192 11) ∧ t_hand (mby_ S0) (gi S0 192 9) (gi S1 192 10) (gi S1 192 11) (gi S1 192 12) (gi S1 192 13)) := by
  unfold f_M_scan_38
  refine pc_lt (fun S2 e2 => ?_)
  have f2 : fr XSN S0 S2 := by rw [e2]; exact fr_si hf ⟨rfl, by omega, by omega⟩
  have d10 : gi S2 192 10 = gi S 192 11 := by rw [e2, gi_at]
  have d11 : gi S2 192 11 = gi S 192 11 := by rw [e2, gi_off (by omega)]
  have e9 : gi S2 192 9 = gi S0 192 9 := f2 192 9 (by omega)
  have e197 : gi S2 197 (gi S 192 11).toNat = gi S0 197 (gi S 192 11).toNat := f2 197 _ (by omega)
  rw [d10, w_b1_is (mby2 (S := S2) (k := gi S 192 11) (by omega) (by omega)), e9, e197]
  have eb : andi (gi S0 197 (gi S 192 11).toNat) 255 = mby_ S0 (gi S 192 11) := rfl
  rw [eb]
  refine pc_if (fun c => pc_lt (fun S11 e11 => pc_some ?_)) (fun c => ?_)
  · have x10 : gi S11 192 10 = gi S 192 11 := by rw [e11, gi_off (by omega)]; exact d10
    have x11 : gi S11 192 11 = gi S 192 11 := by rw [e11, gi_off (by omega)]; exact d11
    refine ⟨by rw [e11]; exact fr_si f2 ⟨rfl, by omega, by omega⟩, ?_, ?_⟩
    · rw [x10, x11]; exact ⟨h1, hN, hb, .inl ⟨c, c⟩⟩
    · rw [x10, x11]; exact ⟨fun _ => by rw [e11, gi_at], fun q => by omega⟩
  · have nb : ¬ t_bl (mby_ S0 (gi S 192 11)) := by
      rcases hs with q | q
      · exact absurd q c
      · exact q
    rw [if_neg (show ¬ gi S0 192 9 ≤ gi S 192 11 by omega)]
    have sm := sm_m S2 (mby_ S0 (gi S 192 11))
    have dg := dg_m S2 (mby_ S0 (gi S 192 11))
    refine pc_if (fun c2 => pc_if (fun c3 => ?_) (fun c3 => pc_lt (fun S10 e10 => ?_))) (fun c2 => ?_)
    · have cl : t_cls (mby_ S0 (gi S 192 11)) = 0 := by
        have a1 : t_cls (mby_ S0 (gi S 192 11)) ≠ 1 := by
          rcases sm with q | q
          · exact q.2
          · exact absurd (q.1.symm.trans c2) (by decide)
        have a2 : t_cls (mby_ S0 (gi S 192 11)) ≠ 2 := by
          rcases dg with q | q
          · exact q.2
          · exact absurd (q.1.symm.trans c3) (by decide)
        unfold t_cls at a1 a2 ⊢
        split at a1
        · exact absurd rfl a1
        · rename_i x
          rw [if_neg x] at a2 ⊢
          split at a2
          · exact absurd rfl a2
          · rename_i y; rw [if_neg y]
      have fin : ∀ v, ((v = 3 ∧ (mby_ S0 (gi S 192 11) = 63 ∨ mby_ S0 (gi S 192 11) = 61 ∨ mby_ S0 (gi S 192 11) = 59)) ∨ (v = 4 ∧ ¬ (mby_ S0 (gi S 192 11) = 63 ∨ mby_ S0 (gi S 192 11) = 61 ∨ mby_ S0 (gi S 192 11) = 59))) → pc (f_M_scan_240 S2 v) (fun S1 => fr XSN S0 S1 ∧ t_is (mby_ S0) (gi S0 192 9) p (gi S1 192 10) (gi S1 192 11) ∧ t_hand (mby_ S0) (gi S0 192 9) (gi S1 192 10) (gi S1 192 11) (gi S1 192 12) (gi S1 192 13)) := by
        intro v hv
        unfold f_M_scan_240
        refine pc_lt (fun S3 e3 => pc_chk (fun _ => pc_lt (fun S4 e4 => pc_some ?_)))
        have x10 : gi S4 192 10 = gi S 192 11 := by rw [e4, gi_off (by omega), e3, gi_off (by omega)]; exact d10
        have x11 : gi S4 192 11 = gi S 192 11 + 1 := by rw [e4, gi_at, e3, gi_off (by omega), d11]
        have x12 : gi S4 192 12 = v := by rw [e4, gi_off (by omega), e3, gi_at]
        refine ⟨by rw [e4, e3]; exact fr_si (fr_si f2 ⟨rfl, by omega, by omega⟩) ⟨rfl, by omega, by omega⟩, ?_, ?_⟩
        · rw [x10, x11]; exact ⟨h1, hN, hb, .inr ⟨by omega, nb, by omega, by omega, .inl ⟨cl, rfl⟩⟩⟩
        · rw [x10, x11, x12]
          exact ⟨fun q => absurd q c, fun _ => ⟨fun q => absurd (cl.symm.trans q) (by decide), fun q => absurd (cl.symm.trans q) (by decide), fun _ => hv⟩⟩
      unfold f_M_scan_235
      exact pc_if (fun q => fin 3 (.inl ⟨rfl, .inl q⟩)) (fun q1 => pc_if (fun q => fin 3 (.inl ⟨rfl, .inr (.inl q)⟩)) (fun q2 => pc_if (fun q => fin 3 (.inl ⟨rfl, .inr (.inr q)⟩)) (fun q3 => fin 4 (.inr ⟨rfl, fun q => q.elim q1 (fun q => q.elim q2 q3)⟩))))
    · have cl : t_cls (mby_ S0 (gi S 192 11)) = 2 := by
        rcases dg with q | q
        · exact absurd q.1 c3
        · exact q.2
      have f10 : fr XSN S0 S10 := by rw [e10]; exact fr_si f2 ⟨rfl, by omega, by omega⟩
      have x10 : gi S10 192 10 = gi S 192 11 := by rw [e10, gi_off (by omega)]; exact d10
      have x11 : gi S10 192 11 = gi S 192 11 := by rw [e10, gi_off (by omega)]; exact d11
      refine pc_mono (mk_128 S0 (gi S 192 11) h2 FU S10 f10 x10 (by omega) (by omega) (by omega) (fun j a d => by omega) ?_) (fun S1 h => ?_)
      · rw [e10, gi_at]
        have : gi (si S2 192 13 0) 192 11 = gi S 192 11 := by rw [gi_off (by omega)]; exact d11
        rw [this, show min (gi S 192 11 - gi S 192 11).toNat 3 = 0 by omega]
        rfl
      · obtain ⟨g1, g2, g3, g4, g5, g6, g7, g8⟩ := h
        have ne : gi S1 192 11 ≠ gi S 192 11 := by
          intro e
          rcases g7 with q | q
          · omega
          · rw [e] at q; exact q cl
        refine ⟨g1, ?_, ?_⟩
        · rw [g2]
          refine ⟨h1, hN, hb, .inr ⟨by omega, nb, by omega, g5, .inr ⟨by rw [cl]; decide, fun j a d => by rw [cl]; exact g6 j a d, ?_⟩⟩⟩
          rw [cl]; exact g7
        · rw [g2]
          exact ⟨fun q => absurd q c, fun _ => ⟨fun q => absurd (cl.symm.trans q) (by decide), fun _ => ⟨g3, g8⟩, fun q => absurd (cl.symm.trans q) (by decide)⟩⟩
    · have cl : t_cls (mby_ S0 (gi S 192 11)) = 1 := by
        rcases sm with q | q
        · exact absurd q.1 c2
        · exact q.2
      refine pc_mono (mk_81 S0 (gi S 192 11) h2 FU S2 f2 d10 (by omega) (by omega) (by omega) (fun j a d => by omega)) (fun S1 h => ?_)
      obtain ⟨g1, g2, g3, g4, g5, g6, g7⟩ := h
      have ne : gi S1 192 11 ≠ gi S 192 11 := by
        intro e
        rcases g7 with q | q
        · omega
        · rw [e] at q; exact q cl
      refine ⟨g1, ?_, ?_⟩
      · rw [g2]
        refine ⟨h1, hN, hb, .inr ⟨by omega, nb, by omega, g5, .inr ⟨by rw [cl]; decide, fun j a d => by rw [cl]; exact g6 j a d, ?_⟩⟩⟩
        rw [cl]; exact g7
      · rw [g2, g3]
        exact ⟨fun q => absurd q c, fun _ => ⟨fun _ => rfl, fun q => absurd (cl.symm.trans q) (by decide), fun q => absurd (cl.symm.trans q) (by decide)⟩⟩
theorem mk_scan0 (S0 : SS) (p : Int) (h2 : gi S0 192 9 ≤ 2000) : ∀ (n : Nat) (S : SS), fr XSN S0 S → 0 ≤ p → p ≤ gi S 192 11 → gi S 192 11 ≤ gi S0 192 9 → (∀ j, p ≤ j → j < gi S 192 11 → t_bl (mby_ S0 j)) → pc (f_M_scan_0 n S) (fun S1 => fr XSN S0 S1 ∧ t_is (mby_ S0) (gi S0 192 9) p (gi S1 192 10) (gi S1 192 11) ∧ t_hand (mby_ S0) (gi S0 192 9) (gi S1 192 10) (gi S1 192 11) (gi S1 192 12) (gi S1 192 13)) := by
  intro n
  induction n with
  | zero => intro S _ _ _ _ _ r e; exact absurd e (by simp [f_M_scan_0])
  | succ n ih =>
    intro S hf h0 h1 hN hb
    have e9 : gi S 192 9 = gi S0 192 9 := hf 192 9 (by omega)
    have e197 : gi S 197 (gi S 192 11).toNat = gi S0 197 (gi S 192 11).toNat := hf 197 _ (by omega)
    show pc (f_M_scan_0_b (f_M_scan_0 n) S) _
    unfold f_M_scan_0_b
    rw [e9]
    refine pc_if (fun c => mk_38 S0 S p h2 hf h0 h1 hN hb (.inl (by omega))) (fun c => ?_)
    rw [w_b1_is (mby2 (S := S) (k := gi S 192 11) (by omega) (by omega)), e9, if_neg c, e197]
    have eb : andi (gi S0 197 (gi S 192 11).toNat) 255 = mby_ S0 (gi S 192 11) := rfl
    rw [eb]
    have bl : (f_M_isBlank S (mby_ S0 (gi S 192 11)) = 0 ∧ ¬ t_bl (mby_ S0 (gi S 192 11))) ∨ (f_M_isBlank S (mby_ S0 (gi S 192 11)) = 1 ∧ t_bl (mby_ S0 (gi S 192 11))) := bl_c S (mby_ S0 (gi S 192 11))
    refine pc_if (fun c2 => mk_38 S0 S p h2 hf h0 h1 hN hb (.inr ?_)) (fun c2 => pc_chk (fun _ => pc_lt (fun S9 e9' => ?_)))
    · rcases bl with q | q
      · exact q.2
      · exact absurd (q.1.symm.trans c2) (by decide)
    · have d11 : gi S9 192 11 = gi S 192 11 + 1 := by rw [e9', gi_at]
      refine ih S9 (by rw [e9']; exact fr_si hf ⟨rfl, by omega, by omega⟩) h0 (by omega) (by omega) (fun j a d => ?_)
      by_cases e : j = gi S 192 11
      · rw [e]
        rcases bl with q | q
        · exact absurd q.1 c2
        · exact q.2
      · exact hb j a (by omega)
theorem mk_scan (T : SS) (h0 : 0 ≤ gi T 192 11 ∧ gi T 192 11 ≤ gi T 192 9) (h2 : gi T 192 9 ≤ 2000) : pc (f_M_scan T) (fun T1 => fr XSN T T1 ∧ t_is (mby_ T) (gi T 192 9) (gi T 192 11) (gi T1 192 10) (gi T1 192 11) ∧ t_hand (mby_ T) (gi T 192 9) (gi T1 192 10) (gi T1 192 11) (gi T1 192 12) (gi T1 192 13)) :=
  mk_scan0 T (gi T 192 11) h2 FU T (fr_refl _ T) h0.1 (Int.le_refl _) h0.2 (fun j a d => by omega)
