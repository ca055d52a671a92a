/-- behind the numbers: row and gap, words, the line's end -/
theorem rl_tail {S0 T0 S T S' T1 : SS} {m : Nat} {r : Int} {o : Option Unit} (hm : m < 40) (hB : BF S T) (hA : AH S T) (hk : gi S (14 + 4 * m) 2 = gi T 199 m) (h3 : gi S (14 + 4 * m) 3 = gi T 200 m) (hn : gi S (14 + 4 * m + 1) 0 = gi T 201 m ∧ gi S (14 + 4 * m + 1) 1 = gi T 202 m ∧ gi S (14 + 4 * m + 1) 2 = gi T 203 m) (hw : gi S (14 + 4 * m + 2) 1 = 0 ∧ gi T 204 m = 0) (h7 : gi S (14 + 4 * m) 7 = gi T 207 m) (h8 : gi S (14 + 4 * m) 8 = 0) (h9 : gi S (14 + 4 * m) 9 = gi T 208 m) (h5 : gi T 205 m = 0) (f0 : fr (XLC m) S0 S) (g0 : fr (XLR m) T0 T) (l0 : S.2 = S0.2) (k0 : T.2 = T0.2)
    (h1 : w_b1 (f_Mark_place S m) (fun S4_z => w_b1 (f_MarkReader_readToken S4_z) (fun S6_z => (if gi S6_z (14 + 4 * m) 2 = 1 then f_MarkReader_readLine_132 S6_z m else (if gi S6_z (14 + 4 * m) 2 = 2 then f_MarkReader_readLine_132 S6_z m else w_b1 (f_MarkReader_isToken S6_z 12) (fun r10_z => (if r10_z = 0 then w_b2 (f_MarkReader_refuse S6_z 1) (fun r13_z S12_z => (if r13_z = 0 then some (0, S12_z) else some (1, S12_z))) else some (1, S6_z))))))) = some (r, S')) (h2 : f_M_readLine_480 (m : Int) T = some (o, T1)) : LQ S0 T0 m r S' o T1 := by
  have tm : ((m : Int)).toNat = m := Int.toNat_natCast m
  have n9 : gi T 192 9 ≤ 2000 := by rw [← hB.1]; exact hB.2.2.1
  obtain ⟨S4, e4, h1⟩ := w_b1E h1
  obtain ⟨p1, p2, p3⟩ := place_is e4
  obtain ⟨S6, e6, h1⟩ := w_b1E h1
  have A4 : AH S4 T := by
    unfold AH at hA ⊢
    rw [p3 177 4 (by omega)]; exact hA
  have B4 : BF S4 T := BF_keep hB (fun k => ⟨p3 1 1 (by omega), p3 2 k (by omega)⟩) (fun _ => ⟨rfl, rfl⟩)
  obtain ⟨K6, g6⟩ := AH_read B4 A4 e6
  have l6 := lq_token S4 S6 e6
  have B6 : BF S6 T := BF_keep B4 (fun k => ⟨g6.1 1 1 (by omega), g6.1 2 k (by omega)⟩) (fun _ => ⟨rfl, rfl⟩)
  have c6 : ∀ r k, ¬ (r = 177 ∧ 4 ≤ k) → ¬ (r = 14 + 4 * m ∧ 4 ≤ k ∧ k ≤ 6) → gi S6 r k = gi S r k := fun r k a1 a2 => by rw [g6.1 r k (by omega)]; exact p3 r k a2
  have P6 : PLC S6 m := by
    unfold PLC at p1 ⊢
    rw [g6.1 (14 + 4 * m) 4 (by omega), g6.1 (14 + 4 * m) 5 (by omega), g6.1 (14 + 4 * m) 6 (by omega), g6.1 (14 + 4 * m) 2 (by omega), g6.1 (14 + 4 * m + 1) 0 (by omega), g6.1 (14 + 4 * m + 1) 1 (by omega), g6.1 (14 + 4 * m + 1) 2 (by omega)]
    exact p1
  have f6 : fr (XLC m) S0 S6 := fun r k a => by rw [c6 r k (by omega) (by omega)]; exact f0 r k a
  have L6 : S6.2 = S0.2 := (l6.trans p2).trans l0
  have W6 : WL S6 T m := ⟨by rw [c6 _ 1 (by omega) (by omega), hw.1, hw.2], by omega, by omega, fun k hk => by omega⟩
  -- both have the mark
  have good : ∀ Sx Tx, (∀ r k, ¬ (r = 3 ∨ (r = 177 ∧ 4 ≤ k) ∨ (r = 14 + 4 * m + 2 ∧ k = 1)) → gi Sx r k = gi S6 r k) → (∀ r k, ¬ ((r = 192 ∧ 10 ≤ k ∧ k ≤ 15) ∨ (r = 204 ∧ k = m)) → gi Tx r k = gi T r k) → WL Sx Tx m → MK Sx Tx m ∧ MF Sx Tx m := by
    intro Sx Tx fx ft wl
    refine ⟨⟨?_, ?_, ?_, ?_, ?_, wl, ?_, ?_⟩, ?_, ?_, ?_⟩
    · rw [fx _ 2 (by omega), c6 _ 2 (by omega) (by omega), ft 199 m (by omega)]; exact hk
    · rw [fx _ 3 (by omega), c6 _ 3 (by omega) (by omega), ft 200 m (by omega)]; exact h3
    · rw [fx _ 0 (by omega), c6 _ 0 (by omega) (by omega), ft 201 m (by omega)]; exact hn.1
    · rw [fx _ 1 (by omega), c6 _ 1 (by omega) (by omega), ft 202 m (by omega)]; exact hn.2.1
    · rw [fx _ 2 (by omega), c6 _ 2 (by omega) (by omega), ft 203 m (by omega)]; exact hn.2.2
    · unfold PLC at P6 ⊢
      rw [fx (14 + 4 * m) 4 (by omega), fx (14 + 4 * m) 5 (by omega), fx (14 + 4 * m) 6 (by omega), fx (14 + 4 * m) 2 (by omega), fx (14 + 4 * m + 1) 0 (by omega), fx (14 + 4 * m + 1) 1 (by omega), fx (14 + 4 * m + 1) 2 (by omega)]
      exact P6
    · rw [fx _ 9 (by omega), c6 _ 9 (by omega) (by omega), ft 208 m (by omega)]; exact h9
    · rw [fx _ 7 (by omega), c6 _ 7 (by omega) (by omega), ft 207 m (by omega)]; exact h7
    · rw [fx _ 8 (by omega), c6 _ 8 (by omega) (by omega)]; exact h8
    · rw [ft 205 m (by omega)]; exact h5
  have bad : r = 0 ∧ S' = c_flt S6 1 → o = none ∧ T1 = f_M_wrong T 1 (gi T 192 10) → LQ S0 T0 m r S' o T1 := by
    intro a d
    refine ⟨.inl ⟨a.1, d.1, ?_⟩, fun r k x => ?_, fun r k x => ?_, LGC_2 (by rw [a.2]; exact L6), LGR_2 (by rw [d.2]; exact k0)⟩
    · rw [a.2, d.2]; exact FE_flt K6.1
    · rw [a.2, cf_3 S6 1 r k (by omega)]; exact f6 r k x
    · rw [d.2, wf_192 T 1 _ r k (by omega)]; exact g0 r k x
  have ek : gi S6 (14 + 4 * m) 2 = gi T 199 m := by rw [c6 _ 2 (by omega) (by omega)]; exact hk
  unfold f_M_readLine_480 at h2
  rw [tm] at h2
  obtain ⟨_, h2⟩ := w_chkE h2
  have words : f_MarkReader_readLine_132 S6 m = some (r, S') → f_M_readLine_500 (m : Int) T = some (o, T1) → LQ S0 T0 m r S' o T1 := by
    intro q1 q2
    unfold f_MarkReader_readLine_132 at q1
    obtain ⟨x, ex, q1⟩ := w_b1E q1
    unfold f_M_readLine_500 at q2
    obtain ⟨o', T1', e2, h3⟩ : ∃ o' T1', f_M_readWords T (m : Int) = some (o', T1') ∧ ((o' = none ∧ o = none ∧ T1 = T1') ∨ (∃ u, o' = some u ∧ f_M_readLine_505 (m : Int) T1' = some (o, T1))) := by
      rcases w_b3E q2 with ⟨v, T2, e2, q2⟩ | ⟨T2, e2, q2⟩
      · exact ⟨_, _, e2, .inr ⟨v, rfl, q2⟩⟩
      · cases q2; exact ⟨_, _, e2, .inl ⟨rfl, rfl, rfl⟩⟩
    unfold f_M_readWords at e2
    obtain ⟨y, ey, e2⟩ := w_b1E e2
    have qe := is_eq ⟨by decide, by decide⟩ B6 K6 ex ey
    by_cases c : x = 0
    · rw [if_pos c] at q1
      rw [if_pos (by omega)] at e2
      have e2 := w_ltX e2
      cases e2
      obtain ⟨a, t, e, q1⟩ := w_b2E q1
      obtain ⟨_, q1⟩ := w_chkE q1
      have w := c_refuse e
      cases q1
      rcases h3 with z | ⟨u, z, _⟩
      · exact bad w ⟨z.2.1, z.2.2⟩
      · cases z
    · rw [if_neg c] at q1
      rw [if_neg (by omega)] at e2
      obtain ⟨a, t, e, q1⟩ := w_b2E q1
      obtain ⟨_, q1⟩ := w_chkE q1
      cases q1
      have e : f_MarkReader_readWords_2 m FU S6 0 = some (r, S') := e
      obtain ⟨k1, k2, k3, k4, k5, _⟩ := id K6
      have R := rw_sim hm FU FU S6 T 0 r S' o' o T1' T1 B6 k2 (by omega) k5 W6 hw.2.symm e e2 h3
      rcases R with ⟨y1, y2, y3, y4, y5, y6, y7⟩ | ⟨y1, y2, y3, y4, y5, y6, y7, y8⟩
      · exact ⟨.inl ⟨y1, y2, y3⟩, fr_trans f6 (fun r k a => y4 r k (by omega)), fr_trans g0 (fun r k a => y5 r k (by omega)), LGC_t (LGC_2 L6) y6, LGR_t (LGR_2 k0) y7⟩
      · have G := good S' T1 (fun r k a => y5 r k (by omega)) (fun r k a => y6 r k (by omega)) y4
        exact ⟨.inr ⟨y1, y2, hm, y3, G.1, G.2⟩, fr_trans f6 (fun r k a => y5 r k (by omega)), fr_trans g0 (fun r k a => y6 r k (by omega)), LGC_t (LGC_2 L6) y7, LGR_t (LGR_2 k0) y8⟩
  rw [ek] at h1
  by_cases c1 : gi T 199 m = 1
  · rw [if_pos c1] at h1 h2
    exact words h1 h2
  rw [if_neg c1] at h1 h2
  obtain ⟨_, h2⟩ := w_chkE h2
  by_cases c2 : gi T 199 m = 2
  · rw [if_pos c2] at h1 h2
    exact words h1 h2
  rw [if_neg c2] at h1 h2
  unfold f_M_readLine_505 at h2
  obtain ⟨x, ex, h1⟩ := w_b1E h1
  obtain ⟨y, ey, h2⟩ := w_b1E h2
  have qe := is_eq ⟨by decide, by decide⟩ B6 K6 ex ey
  by_cases c : x = 0
  · rw [if_pos c] at h1
    rw [if_pos (by omega)] at h2
    have h2 := w_ltX h2
    cases h2
    obtain ⟨a, t, e, h1⟩ := w_b2E h1
    have w := c_refuse e
    rw [if_pos w.1] at h1
    cases h1
    exact bad ⟨rfl, w.2⟩ ⟨rfl, rfl⟩
  · rw [if_neg c] at h1
    rw [if_neg (by omega)] at h2
    obtain ⟨Td, ed, h2⟩ := w_b1E h2
    cases h1
    cases h2
    obtain ⟨ad, fd⟩ := TKR_scan n9 K6 ed
    have ld := lq_scan T T1 ed
    have G := good S' T1 (fun r k a => rfl) (fun r k a => fd r k (by omega)) (WL_keep W6 rfl (fd 204 m (by omega)) (fun _ => rfl) (fun k => gl_2 ld _ k))
    exact ⟨.inr ⟨rfl, rfl, hm, ad, G.1, G.2⟩, f6, fr_trans g0 (fun r k a => fd r k (by omega)), LGC_2 L6, LGR_2 (ld.trans k0)⟩
theorem lq_nums (S0 : SS) (m : Nat) : ∀ (n : Nat) (S : SS) (told i : Int), S.2 = S0.2 → pc (f_MarkReader_readNumbers_33 m n S told i) (fun u => u.2.2 = S0.2) := by
  intro n
  induction n with
  | zero => intro S told i _ r e; exact absurd e (by simp [f_MarkReader_readNumbers_33])
  | succ n ih =>
    intro S told i h
    show pc (f_MarkReader_readNumbers_33_b m (f_MarkReader_readNumbers_33 m n) S told i) _
    have rf : ∀ (S' : SS) (kd : Int), S'.2 = S0.2 → pc (f_MarkReader_refuse S' kd) (fun u => u.2.2 = S0.2) := fun S' kd hs u e => by
      obtain ⟨a, b⟩ := u
      have w := c_refuse e
      show b.2 = S0.2
      rw [w.2]; exact hs
    unfold f_MarkReader_readNumbers_33_b f_MarkReader_readNumbers_63
    refine pc_if (fun _ => pc_some h) (fun _ => pc_b1 (lq_token S) (fun S1 h1 => ?_))
    have h1' : S1.2 = S0.2 := h1.trans h
    refine pc_if (fun _ => pc_chk (fun _ => pc_if (fun _ => pf_b1 (fun v => pc_b1 (R := fun S9 => S9.2 = S0.2) ?_ (fun S9 h9 => pf_b1 (fun x => pc_if (fun _ => pc_b2 (rf S9 2 h9) (fun a t ht => pc_chk (fun _ => pc_some ht))) (fun _ => pc_chk (fun _ => ih S9 told _ h9)))))) (fun _ => pc_b2 (rf S1 1 h1') (fun a t ht => pc_chk (fun _ => pc_some ht))))) (fun _ => pc_b2 (rf S1 1 h1') (fun a t ht => pc_chk (fun _ => pc_some ht)))
    unfold f_Mark_setNumber
    repeat' first | with_reducible exact pc_some h1' | with_reducible refine pc_if (fun _ => ?_) (fun _ => ?_) | with_reducible refine pc_chk (fun _ => ?_) | with_reducible refine lq_lt h1' (fun S9 h9 => pc_some h9)
/-- a line of both sides -/
theorem rl_sim {S T S' T1 : SS} {m : Nat} {r : Int} {o : Option Unit} (hm : m ≤ 40) (hC : CX (m + 2) S) (hM : MX 1 T) (hB : BF S T) (hK : TKR S T) (hF : gi S 177 3 = gi T 192 3) (hkk : ∀ k : Nat, k < m → gi S (14 + 4 * k) 2 = gi T 199 k) (h1 : f_MarkReader_readLine S = some (r, S')) (h2 : f_M_readLine T (m : Int) = some (o, T1)) : LQ S T m r S' o T1 := by
  have tm : ((m : Int)).toNat = m := Int.toNat_natCast m
  rcases rl_head hm hC hM hB hK hF hkk h1 h2 with q | ⟨hm', Sx, Tx, h1, h2, x1, x2, x3, x4, x5, x6, x7, x8, x9, x10, x11, x12, x13, x14, x15, x16, x17⟩
  · exact q
  have n9 : gi Tx 192 9 ≤ 2000 := by rw [← x3.1]; exact x3.2.2.1
  unfold f_MarkReader_readLine_61 at h1
  obtain ⟨kd, ek, h1⟩ := w_b1E h1
  obtain ⟨kk, h2, k1, k2, k3⟩ := kind_eq x3 x4 ek h2
  have h1 := w_ltX h1
  rw [gi_at] at h1
  have c7 : gi (si Sx (14 + 4 * m) 2 kd) (14 + 4 * m) 7 = gi Tx 207 m := by rw [gi_off (by omega)]; exact x10
  rw [c7] at h1
  have fc : ∀ r k, ¬ (r = 14 + 4 * m ∧ k = 2) → gi (si Sx (14 + 4 * m) 2 kd) r k = gi Sx r k := fun r k a => gi_off a
  have ac : gi (si Sx (14 + 4 * m) 2 kd) (14 + 4 * m) 2 = kd := gi_at _ _ _ _
  have Cc : CX (m + 2) (si Sx (14 + 4 * m) 2 kd) := cs_mk_2 x1 hm' k1 k2
  have lc : (si Sx (14 + 4 * m) 2 kd).2 = Sx.2 := rfl
  generalize si Sx (14 + 4 * m) 2 kd = Sc at h1 fc ac Cc lc c7
  unfold f_M_readLine_250 at h2
  rw [tm] at h2
  obtain ⟨_, h2⟩ := w_chkE h2
  have h2 := w_ltX h2
  obtain ⟨_, h2⟩ := w_chkE h2
  rw [gi_at] at h2
  have bk : -1 ≤ kk ∧ kk ≤ 5 := by rcases k3 with q | q <;> omega
  have ft : ∀ r k, ¬ (r = 199 ∧ k = m) → gi (si Tx 199 m kk) r k = gi Tx r k := fun r k a => gi_off a
  have at1 : gi (si Tx 199 m kk) 199 m = kk := gi_at _ _ _ _
  have Mt : MX 1 (si Tx 199 m kk) := ms_199 x2 bk.1 bk.2
  have lt1 : (si Tx 199 m kk).2 = Tx.2 := rfl
  generalize si Tx 199 m kk = Tt at h2 ft at1 Mt lt1
  have Kt : TKR Sc Tt := TKR_keep x4 (fun k => fc 177 k (by omega)) (fun k => ft 192 k (by omega)) (fun k => ft 197 k (by omega))
  have fS : fr (XLC m) S Sc := fun r k a => by rw [fc r k (by omega)]; exact x14 r k a
  have fT : fr (XLR m) T Tt := fun r k a => by rw [ft r k (by omega)]; exact x15 r k a
  have lS : Sc.2 = S.2 := lc.trans x16
  have lT : Tt.2 = T.2 := lt1.trans x17
  by_cases cb : kk = -1
  · rw [if_pos cb] at h2
    have h2 := w_ltX h2
    cases h2
    have e92 : f_MarkReader_readLine_92 Sc = some (r, S') := by
      by_cases c1 : kd = -1
      · rw [if_pos c1] at h1; exact h1
      · rw [if_neg c1] at h1
        rcases k3 with q | q
        · exact absurd (q.1.symm.trans cb) c1
        · rw [if_neg q.2.2, if_pos q.2.1] at h1; exact h1
    unfold f_MarkReader_readLine_92 at e92
    obtain ⟨a, t, e, e92⟩ := w_b2E e92
    obtain ⟨_, e92⟩ := w_chkE e92
    have w := c_refuse e
    cases e92
    refine ⟨.inl ⟨w.1, rfl, ?_⟩, fun r k x => ?_, fun r k x => ?_, LGC_2 (by rw [w.2]; exact lS), LGR_2 lT⟩
    · rw [w.2]; exact FE_flt Kt.1
    · rw [w.2, cf_3 Sc 1 r k (by omega)]; exact fS r k x
    · rw [wf_192 Tt 1 _ r k (by omega)]; exact fT r k x
  rw [if_neg cb] at h2
  have ekk : kk = kd ∧ (kd ≠ 5 ∨ gi Tx 207 m = 0) := by
    rcases k3 with q | q
    · exact q
    · exact absurd q.1 cb
  have e98 : f_MarkReader_readLine_98 Sc m = some (r, S') := by
    rw [if_neg (by omega)] at h1
    by_cases c0 : gi Tx 207 m = 0
    · rw [if_pos c0] at h1; exact h1
    · rw [if_neg c0, if_neg (by omega)] at h1; exact h1
  clear h1
  obtain ⟨T3, e3, h2⟩ := w_b1E h2
  obtain ⟨A3, f3⟩ := TKR_scan (by rw [ft 192 9 (by omega)]; exact n9) Kt e3
  have M3 : MX 1 T3 := (ok_true (ok_M_scan Tt Mt) T3 e3).1
  have l3 := lq_scan Tt T3 e3
  have B3 : BF Sc T3 := BF_keep x3 (fun k => ⟨fc 1 1 (by omega), fc 2 k (by omega)⟩) (fun k => ⟨by rw [f3 192 9 (by omega)]; exact ft 192 9 (by omega), by rw [f3 197 k (by omega)]; exact ft 197 k (by omega)⟩)
  have gT : ∀ r k, ¬ (r = 192 ∧ 10 ≤ k ∧ k ≤ 13) → ¬ (r = 199 ∧ k = m) → gi T3 r k = gi Tx r k := fun r k a1 a2 => by rw [f3 r k (by omega)]; exact ft r k a2
  have e199 : gi T3 199 m = kd := by rw [f3 199 m (by omega), at1]; exact ekk.1
  have F3 : gi Sc 177 3 = gi T3 192 3 := by rw [fc 177 3 (by omega), gT 192 3 (by omega) (by omega)]; exact x5
  have N3 : gi Tx 192 3 = gi T3 192 3 := (gT 192 3 (by omega) (by omega)).symm
  have kl : ∀ k : Nat, k < m → gi Sc (14 + 4 * k) 2 = gi T3 199 k := fun k hk => by rw [fc _ 2 (by omega), gT 199 k (by omega) (by omega)]; exact x6 k hk
  have nn : gi Sc (14 + 4 * m + 1) 0 = gi T3 201 m ∧ gi Sc (14 + 4 * m + 1) 1 = gi T3 202 m ∧ gi Sc (14 + 4 * m + 1) 2 = gi T3 203 m := by
    rw [fc _ 0 (by omega), fc _ 1 (by omega), fc _ 2 (by omega), gT 201 m (by omega) (by omega), gT 202 m (by omega) (by omega), gT 203 m (by omega) (by omega)]; exact x8
  unfold f_MarkReader_readLine_98 at e98
  obtain ⟨rn, Sn, en, e98⟩ := w_b2E e98
  unfold f_MarkReader_readNumbers f_MarkReader_readNumbers_30 at en
  rw [ac, if_neg (by omega), if_pos (by omega)] at en
  obtain ⟨_, en⟩ := w_chkE en
  have ln : Sn.2 = Sc.2 := lq_nums Sc m FU Sc _ 0 rfl _ en
  rw [N3] at h2
  rw [e199] at h2
  obtain ⟨_, h2⟩ := w_chkE h2
  have Q : NQ Sc T3 (m + 2) m rn Sn o T1 (f_M_readLine_480 (m : Int)) := by
    have : kd = 0 ∨ kd = 1 ∨ kd = 2 ∨ kd = 3 ∨ kd = 4 ∨ kd = 5 := by omega
    rcases this with e | e | e | e | e | e
    · subst e
      rw [if_pos rfl] at h2
      exact nq_two Cc (by omega) hm' M3 B3 A3 F3 (.inl ac) nn.2.2 _ en h2
    · subst e
      rw [if_neg (by decide), if_pos rfl] at h2
      exact nq_put Cc (by omega) hm' M3 B3 A3 F3 ac nn.2.1 nn.2.2 _ en h2
    · subst e
      rw [if_neg (by decide), if_neg (by decide), if_pos rfl] at h2
      exact nq_two Cc (by omega) hm' M3 B3 A3 F3 (.inr ac) nn.2.2 _ en h2
    · subst e
      rw [if_neg (by decide), if_neg (by decide), if_neg (by decide), if_pos rfl] at h2
      obtain ⟨_, h2⟩ := w_chkE h2
      exact nq_turn Cc (by omega) hm' M3 B3 A3 F3 ac _ en h2
    · subst e
      rw [if_neg (by decide), if_neg (by decide), if_neg (by decide), if_neg (by decide), if_pos rfl] at h2
      exact nq_move Cc (by omega) hm' M3 B3 A3 F3 ac _ en h2
    · subst e
      rw [if_neg (by decide), if_neg (by decide), if_neg (by decide), if_neg (by decide), if_neg (by decide)] at h2
      exact nq_stet Cc hm' M3 B3 A3 ac kl nn.2.1 nn.2.2 en h2
  rcases Q with ⟨y1, y2, y3, y4, y5, y6⟩ | ⟨T', y1, y2, y3, y4, y5, y6, y7, y8, y9, y10⟩
  · rw [if_pos y1] at e98
    cases e98
    exact ⟨.inl ⟨rfl, y2, y3⟩, fr_trans fS (fun r k a => y4 r k (by omega)), fr_trans fT (fun r k a => by rw [y5 r k (by omega)]; exact f3 r k (by omega)), LGC_2 (ln.trans lS), LGR_2 ((y6.trans l3).trans lT)⟩
  · rw [if_neg (by omega)] at e98
    have gk : ∀ r k, ¬ (r = 192 ∧ 10 ≤ k ∧ k ≤ 15) → ¬ (201 ≤ r ∧ r ≤ 203 ∧ k = m) → gi T' r k = gi T3 r k := fun r k a1 a2 => y9 r k (by omega)
    have ck : ∀ r k, ¬ (r = 3 ∨ (r = 177 ∧ 4 ≤ k) ∨ r = 14 + 4 * m + 1) → gi Sn r k = gi Sc r k := fun r k a => y8 r k a
    refine rl_tail (S0 := S) (T0 := T) (S := Sn) (T := T') hm' (BF_keep B3 (fun k => ⟨ck 1 1 (by omega), ck 2 k (by omega)⟩) (fun k => ⟨gk 192 9 (by omega) (by omega), gk 197 k (by omega) (by omega)⟩)) y4 ?_ ?_ ⟨y5, y6, y7⟩ ⟨?_, ?_⟩ ?_ ?_ ?_ ?_ (fr_trans fS (fun r k a => y8 r k (by omega))) (fr_trans fT (fun r k a => by rw [y9 r k (by omega)]; exact f3 r k (by omega))) (ln.trans lS) ((y10.trans l3).trans lT) e98 y2
    · rw [ck _ 2 (by omega), ac, gk 199 m (by omega) (by omega)]; exact e199.symm
    · rw [ck _ 3 (by omega), fc _ 3 (by omega), gk 200 m (by omega) (by omega), gT 200 m (by omega) (by omega)]; exact x7
    · rw [ck _ 1 (by omega), fc _ 1 (by omega)]; exact x9.1
    · rw [gk 204 m (by omega) (by omega), gT 204 m (by omega) (by omega)]; exact x9.2
    · rw [ck _ 7 (by omega), gk 207 m (by omega) (by omega), gT 207 m (by omega) (by omega)]; exact c7
    · rw [ck _ 8 (by omega), fc _ 8 (by omega)]; exact x11
    · rw [ck _ 9 (by omega), fc _ 9 (by omega), gk 208 m (by omega) (by omega), gT 208 m (by omega) (by omega)]; exact x12
    · rw [gk 205 m (by omega) (by omega), gT 205 m (by omega) (by omega)]; exact x13
