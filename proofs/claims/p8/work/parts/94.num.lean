def c_flt (S : SS) (kd : Int) : SS := si (si S 3 0 kd) 3 1 (gi S 177 5)
theorem c_refuse {S S1 : SS} {kd r : Int} (h : f_MarkReader_refuse S kd = some (r, S1)) : r = 0 ∧ S1 = c_flt S kd := by
  unfold f_MarkReader_refuse at h
  obtain ⟨_, h⟩ := w_chkE h
  obtain ⟨a, t, e, h⟩ := w_b2E h
  unfold f_Fault_tellOf w_lt at e
  cases e
  obtain ⟨_, h⟩ := w_chkE h
  cases h
  exact ⟨rfl, rfl⟩
theorem FE_flt {S T : SS} {kd : Int} (h : gi S 177 5 = gi T 192 10) : FE (c_flt S kd) (f_M_wrong T kd (gi T 192 10)) := by
  refine ⟨?_, ?_⟩
  · show gi (si (si S 3 0 kd) 3 1 _) 3 0 = gi (si (si T 192 14 kd) 192 15 _) 192 14
    rw [gi_off (by omega), gi_at, gi_off (by omega), gi_at]
  · show gi (si (si S 3 0 kd) 3 1 _) 3 1 = gi (si (si T 192 14 kd) 192 15 _) 192 15
    rw [gi_at, gi_at, h]
theorem nr_loop (S : SS) (N : Int) (hN : gi S 1 1 = N) (h2 : N ≤ 2000) (h0 : 0 ≤ gi S 177 5) (h1 : gi S 177 4 ≤ N) : ∀ (n : Nat) (acc : Int) (k : Nat), gi S 177 5 + (k : Int) ≤ gi S 177 4 → acc = t_val (cby_ S) (gi S 177 5) k → pc (f_MarkReader_numberRead_7 S n acc (gi S 177 5 + (k : Int))) (fun r => r = t_val (cby_ S) (gi S 177 5) (gi S 177 4 - gi S 177 5).toNat) := by
  intro n
  induction n with
  | zero => intro acc k _ _ r e; exact absurd e (by simp [f_MarkReader_numberRead_7])
  | succ n ih =>
    intro acc k hk ha
    show pc (f_MarkReader_numberRead_7_b S (f_MarkReader_numberRead_7 S n) acc (gi S 177 5 + (k : Int))) _
    unfold f_MarkReader_numberRead_7_b
    refine pc_if (fun c => pc_some (by rw [ha, show (gi S 177 4 - gi S 177 5).toNat = k by omega])) (fun c => pc_chk (fun _ => pc_chk (fun _ => ?_)))
    rw [w_b1_is (cby (S := S) (i := gi S 177 5 + (k : Int)) (by omega) (by omega) (by omega))]
    have eb : andi (gi S 2 (gi S 177 5 + (k : Int)).toNat) 255 = cby_ S (gi S 177 5 + (k : Int)) := rfl
    rw [eb]
    refine pc_chk (fun _ => pc_chk (fun _ => pc_chk (fun _ => ?_)))
    rw [show gi S 177 5 + (k : Int) + 1 = gi S 177 5 + ((k + 1 : Nat) : Int) by omega]
    refine ih _ (k + 1) (by omega) ?_
    rw [t_val, ha]; omega
theorem nr_is {S : SS} {N v : Int} (hN : gi S 1 1 = N) (h2 : N ≤ 2000) (h0 : 0 ≤ gi S 177 5) (h5 : gi S 177 5 ≤ gi S 177 4) (h1 : gi S 177 4 ≤ N) (e : f_MarkReader_numberRead S = some v) : v = t_val (cby_ S) (gi S 177 5) (gi S 177 4 - gi S 177 5).toNat := by
  unfold f_MarkReader_numberRead at e
  have L := nr_loop S N hN h2 h0 h1 FU 0 0 (by omega) rfl v
  rw [show gi S 177 5 + ((0 : Nat) : Int) = gi S 177 5 by omega] at L
  exact L e
theorem t_val_congr {b b' : Int → Int} {s : Int} : ∀ n : Nat, (∀ j, s ≤ j → j < s + (n : Int) → b j = b' j) → t_val b s n = t_val b' s n := by
  intro n
  induction n with
  | zero => intro _; rfl
  | succ n ih =>
    intro h
    rw [t_val, t_val, ih (fun j a d => h j a (by omega)), h (s + (n : Int)) (by omega) (by omega)]
/-- a number stands there for both, or for none -/
theorem num_tok {S T : SS} (hB : BF S T) (h : TKR S T) : ((gi S 177 6 = 2 ∧ gi S 177 4 - gi S 177 5 ≤ 3) ↔ gi T 192 12 = 2) ∧ (gi T 192 12 = 2 → ∀ v, f_MarkReader_numberRead S = some v → v = gi T 192 13) := by
  obtain ⟨k1, k2, k3, k4, k5, k6, k7, k8⟩ := h
  by_cases c : gi T 192 10 = gi T 192 9
  · rw [if_pos c] at k7
    have hd := k8.1 c
    exact ⟨⟨fun q => by omega, fun q => by omega⟩, fun q => by omega⟩
  · rw [if_neg c] at k7
    have lt : gi T 192 10 < gi T 192 9 := by omega
    obtain ⟨x1, x2, x3⟩ := k8.2 lt
    have cl : t_cls (mby_ T (gi T 192 10)) = 1 ∨ t_cls (mby_ T (gi T 192 10)) = 2 ∨ t_cls (mby_ T (gi T 192 10)) = 0 := by
      unfold t_cls
      repeat' split
      all_goals omega
    rcases cl with w | w | w
    · have := x1 w
      exact ⟨⟨fun q => by omega, fun q => by omega⟩, fun q => by omega⟩
    · have y := x2 w
      refine ⟨⟨fun q => ?_, fun q => ⟨by omega, ?_⟩⟩, fun q v ev => ?_⟩
      · rcases y.1 with z | z <;> omega
      · rcases y.1 with z | z <;> omega
      · have e3 : gi T 192 11 - gi T 192 10 ≤ 3 := by rcases y.1 with z | z <;> omega
        have nv := nr_is (N := gi S 1 1) rfl hB.2.2.1 (by omega) (by omega) (by rw [hB.1]; omega) ev
        rw [nv, y.2, k1, k2, show min (gi T 192 11 - gi T 192 10).toNat 3 = (gi T 192 11 - gi T 192 10).toNat by omega]
        exact t_val_congr _ (fun j a d => BF_by hB j (by omega) (by omega))
    · have z := x3 w
      have hz : gi T 192 12 ≠ 2 := by rcases z with z | z <;> omega
      exact ⟨⟨fun q => by omega, fun q => absurd q hz⟩, fun q => absurd q hz⟩
theorem mn_is {T T1 : SS} {a c : Int} {o : Option Int} (h : f_M_number T a c = some (o, T1)) : (gi T 192 12 ≠ 2 ∧ o = none ∧ T1 = f_M_wrong T 1 (gi T 192 10)) ∨ (gi T 192 12 = 2 ∧ ¬ (a ≤ gi T 192 13 ∧ gi T 192 13 ≤ c) ∧ o = none ∧ T1 = f_M_wrong T 2 (gi T 192 10)) ∨ (gi T 192 12 = 2 ∧ (a ≤ gi T 192 13 ∧ gi T 192 13 ≤ c) ∧ o = some (gi T 192 13) ∧ f_M_scan T = some T1) := by
  unfold f_M_number at h
  have i := in01 T (gi T 192 13) a c
  by_cases c1 : gi T 192 12 = 2
  · rw [if_pos c1] at h
    by_cases c2 : f_M_in T (gi T 192 13) a c = 0
    · rw [if_pos c2] at h
      unfold w_lt at h
      cases h
      exact .inr (.inl ⟨c1, by omega, rfl, rfl⟩)
    · rw [if_neg c2] at h
      obtain ⟨T2, e, h⟩ := w_b1E h
      cases h
      exact .inr (.inr ⟨c1, by omega, rfl, e⟩)
  · rw [if_neg c1] at h
    unfold w_lt at h
    cases h
    exact .inl ⟨c1, rfl, rfl⟩
/-- one number of both sides -/
theorem num_step {S T S' T1 : SS} {b j n : Nat} {told i r : Int} {o : Option Int} (G : Prop) (hC : CX b S) (hbb : 2 ≤ b) (hj : j < 40) (hval : 0 ≤ gi T 192 13 ∧ gi T 192 13 ≤ 999) (hB : BF S T) (hA : AH S T) (hi : 0 ≤ i ∧ i < 3 ∧ i < told) (h1 : f_MarkReader_readNumbers_33 j (n + 1) S told i = some (r, S'))
    (hr : (gi T 192 12 ≠ 2 ∧ o = none ∧ T1 = f_M_wrong T 1 (gi T 192 10)) ∨ (gi T 192 12 = 2 ∧ ¬ G ∧ o = none ∧ T1 = f_M_wrong T 2 (gi T 192 10)) ∨ (gi T 192 12 = 2 ∧ G ∧ o = some (gi T 192 13) ∧ f_M_scan T = some T1))
    (hm : ∀ S9 x, CX b S9 → FX (fun r k => (r = 177 ∧ 4 ≤ k) ∨ (r = 14 + 4 * j + 1 ∧ k = i.toNat)) S S9 → gi S9 (14 + 4 * j + 1) i.toNat = gi T 192 13 → f_MarkReader_mayBegin S9 j i = some x → (x = 0 ↔ ¬ G)) :
    (r = 0 ∧ o = none ∧ FE S' T1 ∧ (∀ r k, ¬ (r = 3 ∨ (r = 177 ∧ 4 ≤ k) ∨ r = 14 + 4 * j + 1) → gi S' r k = gi S r k) ∧ (∀ r k, ¬ (r = 192 ∧ 10 ≤ k ∧ k ≤ 15) → gi T1 r k = gi T r k)) ∨
    (∃ S9, o = some (gi T 192 13) ∧ G ∧ f_MarkReader_readNumbers_33 j n S9 told (i + 1) = some (r, S') ∧ CX b S9 ∧ AH S9 T1 ∧ gi S9 (14 + 4 * j + 1) i.toNat = gi T 192 13 ∧ FX (fun r k => (r = 177 ∧ 4 ≤ k) ∨ (r = 14 + 4 * j + 1 ∧ k = i.toNat)) S S9 ∧ fr XSN T T1) := by
  have h1 : f_MarkReader_readNumbers_33_b j (f_MarkReader_readNumbers_33 j n) S told i = some (r, S') := h1
  unfold f_MarkReader_readNumbers_33_b at h1
  rw [if_neg (by omega)] at h1
  obtain ⟨S1, e1, h1⟩ := w_b1E h1
  obtain ⟨tk, f1⟩ := AH_read hB hA e1
  have hB1 : BF S1 T := ⟨by rw [f1.1 1 1 (by omega)]; exact hB.1, by rw [f1.1 1 1 (by omega)]; exact hB.2.1, by rw [f1.1 1 1 (by omega)]; exact hB.2.2.1, fun k hk => by rw [f1.1 1 1 (by omega)] at hk; rw [f1.1 2 k (by omega)]; exact hB.2.2.2 k hk⟩
  obtain ⟨nt, nv⟩ := num_tok hB1 tk
  have hC1 : CX b S1 := (ok_true (ok_MarkReader_readToken S hC hbb) S1 e1).1
  have mk : ∀ S9, S9 = si S1 (14 + 4 * j + 1) i.toNat (gi T 192 13) → CX b S9 ∧ gi S9 (14 + 4 * j + 1) i.toNat = gi T 192 13 ∧ FX (fun r k => (r = 177 ∧ 4 ≤ k) ∨ (r = 14 + 4 * j + 1 ∧ k = i.toNat)) S S9 := fun S9 e => ⟨by rw [e]; exact cs_nm hC1 hj (by omega) (by omega), by rw [e, gi_at], ⟨fun r k a => by rw [e, gi_off (by omega)]; exact f1.1 r k (by omega), by rw [e]; exact f1.2⟩⟩
  have k1 := tk.1
  have bad63 : f_MarkReader_readNumbers_63 j S1 = some (r, S') → r = 0 ∧ S' = c_flt S1 1 := by
    intro q
    unfold f_MarkReader_readNumbers_63 at q
    obtain ⟨a, t, e, q⟩ := w_b2E q
    obtain ⟨_, q⟩ := w_chkE q
    have w := c_refuse e
    cases q
    exact w
  have cf : ∀ (Sx : SS) (kd : Int) r k, r ≠ 3 → gi (c_flt Sx kd) r k = gi Sx r k := fun Sx kd r k h => by
    show gi (si (si Sx 3 0 kd) 3 1 _) r k = _
    rw [gi_off (by omega), gi_off (by omega)]
  have wf : ∀ (kd : Int) r k, ¬ (r = 192 ∧ 10 ≤ k ∧ k ≤ 15) → gi (f_M_wrong T kd (gi T 192 10)) r k = gi T r k := fun kd r k h => by
    show gi (si (si T 192 14 kd) 192 15 _) r k = _
    rw [gi_off (by omega), gi_off (by omega)]
  rcases hr with ⟨m1, m2, m3⟩ | ⟨m1, m2, m3, m4⟩ | ⟨m1, m2, m4, m5⟩
  · left
    have nn : ¬ (gi S1 177 6 = 2 ∧ gi S1 177 4 - gi S1 177 5 ≤ 3) := fun q => m1 (nt.1 q)
    have w : r = 0 ∧ S' = c_flt S1 1 := by
      by_cases c1 : gi S1 177 6 = 2
      · rw [if_pos c1] at h1
        obtain ⟨_, h1⟩ := w_chkE h1
        rw [if_neg (fun q => nn ⟨c1, q⟩)] at h1
        exact bad63 h1
      · rw [if_neg c1] at h1
        exact bad63 h1
    refine ⟨w.1, m2, ?_, fun r k a => ?_, fun r k a => ?_⟩
    · rw [w.2, m3]; exact FE_flt k1
    · rw [w.2, cf _ _ r k (by omega)]; exact f1.1 r k (by omega)
    · rw [m3]; exact wf 1 r k a
  · left
    have yy := nt.2 m1
    rw [if_pos yy.1] at h1
    obtain ⟨_, h1⟩ := w_chkE h1
    rw [if_pos yy.2] at h1
    obtain ⟨v, ev, h1⟩ := w_b1E h1
    have hv := nv m1 v ev
    obtain ⟨S9, e9, h1⟩ := w_b1E h1
    unfold f_Mark_setNumber at e9
    rw [if_neg (by omega), if_neg (by omega)] at e9
    obtain ⟨_, e9⟩ := w_chkE e9
    unfold w_lt at e9
    have e9 := (Option.some.inj e9).symm
    rw [hv] at e9
    obtain ⟨b', eb, h1⟩ := w_b1E h1
    have K := mk S9 e9
    have hb := (hm S9 b' K.1 K.2.2 K.2.1 eb).2 m2
    rw [if_pos hb] at h1
    obtain ⟨a', t', e', h1⟩ := w_b2E h1
    obtain ⟨_, h1⟩ := w_chkE h1
    have w := c_refuse e'
    cases h1
    have g5 : gi S9 177 5 = gi S1 177 5 := by rw [e9, gi_off (by omega)]
    refine ⟨w.1, m3, ?_, fun r k a => ?_, fun r k a => ?_⟩
    · rw [w.2, m4]; exact FE_flt (g5.trans k1)
    · rw [w.2, cf _ _ r k (by omega), e9, gi_off (by omega)]; exact f1.1 r k (by omega)
    · rw [m4]; exact wf 2 r k a
  · right
    have yy := nt.2 m1
    rw [if_pos yy.1] at h1
    obtain ⟨_, h1⟩ := w_chkE h1
    rw [if_pos yy.2] at h1
    obtain ⟨v, ev, h1⟩ := w_b1E h1
    have hv := nv m1 v ev
    obtain ⟨S9, e9, h1⟩ := w_b1E h1
    unfold f_Mark_setNumber at e9
    rw [if_neg (by omega), if_neg (by omega)] at e9
    obtain ⟨_, e9⟩ := w_chkE e9
    unfold w_lt at e9
    have e9 := (Option.some.inj e9).symm
    rw [hv] at e9
    obtain ⟨b', eb, h1⟩ := w_b1E h1
    have K := mk S9 e9
    have hb : ¬ b' = 0 := fun q => (hm S9 b' K.1 K.2.2 K.2.1 eb).1 q m2
    rw [if_neg hb] at h1
    obtain ⟨_, h1⟩ := w_chkE h1
    obtain ⟨ah, fs⟩ := TKR_scan (by rw [← hB.1]; exact hB.2.2.1) tk m5
    have g4 : gi S9 177 4 = gi S1 177 4 := by rw [e9, gi_off (by omega)]
    refine ⟨S9, m4, m2, h1, K.1, ?_, K.2.1, K.2.2, fs⟩
    unfold AH at ah ⊢
    rw [g4]; exact ah
