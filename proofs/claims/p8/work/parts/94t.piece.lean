theorem cset_skip {rk : SS → Int → Int → Int → Option SS} {low high depth v4 : Int} {S : SS} {P : SS → Prop} (hh : v4 ≤ high + 1) (h : ∀ n2, pc (f_Setter_setRowB_13 rk low high depth n2 S v4 v4) P) : ∀ (e n2 : Nat) (i : Int), i + (e : Int) = v4 → pc (f_Setter_setRowB_13 rk low high depth n2 S v4 i) P := by
  intro e
  induction e with
  | zero => intro n2 i hi; rw [show i = v4 by omega]; exact h n2
  | succ e ih =>
    intro n2 i hi
    cases n2 with
    | zero => intro r e; exact absurd e (by simp [f_Setter_setRowB_13])
    | succ n2 =>
      show pc (f_Setter_setRowB_13_b rk low high depth (f_Setter_setRowB_13 rk low high depth n2) S v4 i) P
      unfold f_Setter_setRowB_13_b
      rw [if_neg (by omega), if_neg (by omega)]
      unfold f_Setter_setRowB_51
      exact pc_chk (fun _ => ih n2 (i + 1) (by omega))
theorem c_number {S : SS} {j : Nat} : f_Mark_number S j 1 = some (gi S (14 + 4 * j + 1) 1) := by
  unfold f_Mark_number
  rw [if_neg (by omega), if_pos (by omega), w_chkP (by omega)]
  rfl
def c_pl (M : q_MK) (n d : Nat) (high mv i : Int) : List Nat := if q_om M high mv i n = -1 then [i.toNat] else q_pc M (q_row M n d) mv (q_om M high mv i n).toNat
def c_nx (M : q_MK) (n : Nat) (high mv i : Int) : Int := (if q_om M high mv i n = -1 then i else q_hi M (q_om M high mv i n).toNat) + 1
theorem cset_piece {q : Nat} {S0 : SS} {u : Nat → Int} {n : Nat} {F low high mv i : Int} (H : CSET q S0 u n F) (R : q_reg (cu S0 u) n F low high mv) (hl : low ≤ i) (hh : i ≤ high) (B : q_bd (cu S0 u) n low high mv i) (rk : SS → Int → Int → Int → Option SS) (d : Nat) (depth : Int)
    (hrk : ∀ low' high' mv', q_reg (cu S0 u) n F low' high' mv' → low' ≤ high' → q_cnt (cu S0 u) low' high' mv' n < q_cnt (cu S0 u) low high mv n → c_lays q S0 u n low' high' mv' (fun S => rk S low' high' (depth + 1)) (q_row (cu S0 u) n d low' high' mv') ∧ q_lt (q_row (cu S0 u) n d low' high' mv')) :
    ∀ S, CT q S0 S → OPS S0 S u n low high mv → 0 ≤ gi S q 1 → gi S q 1 + (q_wt (c_W S0) (c_pl (cu S0 u) n d high mv i) : Int) ≤ cap q → pc (f_Setter_setPiece rk S i depth) (fun z => z.1 = c_nx (cu S0 u) n high mv i ∧ z.2 = c_toks q S (c_pl (cu S0 u) n d high mv i) ∧ q_lt (c_pl (cu S0 u) n d high mv i)) := by
  obtain ⟨G, hn, hF0, hF, h4, h6, h7, h8, h9, hq, hW⟩ := id H
  intro S hT hO h0 hc
  have r1 := R.1
  have r2 := R.2.1
  have gq4 : gq S 178 4 = some q := by unfold gq; rw [hT.2.2]; exact h8
  have gq3 : gq S 178 3 = some 4 := by unfold gq; rw [hT.2.2]; exact h9
  have bst0 : c_bst (cu S0 u) u high mv i 0 (-1) (-1) := .inl ⟨rfl, rfl, rfl⟩
  have om := cset_om H R hl hh hT hO n 0 FU (-1) (-1) (by omega) bst0
  rw [show ((c_dn u 0 : Nat) : Int) = 0 from rfl] at om
  unfold f_Setter_setPiece f_Setter_outermostAt
  refine pc_b1 om (fun r hr => ?_)
  rcases hr with ⟨e0, er⟩ | ⟨m, hm, um, e0, er⟩
  · have eL : c_pl (cu S0 u) n d high mv i = [i.toNat] := by unfold c_pl; rw [if_pos e0]
    have eN : c_nx (cu S0 u) n high mv i = i + 1 := by unfold c_nx; rw [if_pos e0]
    rw [eL] at hc ⊢
    rw [eN]
    have w1 : q_wt (c_W S0) [i.toNat] = 1 := by show c_W S0 i.toNat + 0 = 1; unfold c_W; rw [if_pos (by omega)]
    rw [w1] at hc
    have tn : f_Setter_takenAt S r = some none := by unfold f_Setter_takenAt; rw [if_pos (by omega)]
    rw [w_b1_is tn, gq4, gq3]
    show pc (w_chk (shOk q) (w_chk (shOk 4) _)) _
    refine pc_chk (fun _ => pc_chk (fun _ => ?_))
    have e4 : gi S 4 1 = F := by rw [hT.1 4 1 (by omega) (by omega)]; exact h4
    have c4 : cap 4 = 60 := rfl
    have wa : f_Sheet_wordAt S 4 i = some (gl S 5 i.toNat) := by
      unfold f_Sheet_wordAt
      rw [if_neg (by omega), if_neg (by omega), if_pos (by omega), w_chkP (by omega)]
    rw [w_b1_is wa]
    refine pc_b1 (R := fun S1 => S1 = c_toks q S [i.toNat]) (fun S1 e1 => ?_) (fun S10 h10 => pc_chk (fun _ => pc_some ⟨rfl, h10, fun t ht => by simp at ht; omega⟩))
    rw [c_add e1 h0 (by omega)]
    show _ = c_tok q S i.toNat
    unfold c_tok
    rw [if_pos (by omega)]
  · have us1 : q_us (cu S0 u) m = 1 := um
    have eL : c_pl (cu S0 u) n d high mv i = q_pc (cu S0 u) (q_row (cu S0 u) n d) mv m := by unfold c_pl; rw [if_neg (by omega), e0, Int.toNat_natCast]
    have eN : c_nx (cu S0 u) n high mv i = q_hi (cu S0 u) m + 1 := by unfold c_nx; rw [if_neg (by omega), e0, Int.toNat_natCast]
    rw [eL] at hc ⊢
    rw [eN]
    rcases q_om_spec (cu S0 u) high mv i n with ⟨e0', _⟩ | ⟨m', hm', e0', c0, g0⟩
    · omega
    have em : m' = m := by omega
    subst em
    have vm := G.1 m' hm us1
    unfold q_val at vm
    have im : q_in (cu S0 u) low high mv m' := ⟨c0.2.2.1, by omega, c0.2.2.2.2⟩
    have tk := c_taken H hT hm um
    have l40 : c_dn u m' < 40 := by have := c_dn_le u m'; omega
    have m40 : m' < 40 := by omega
    rw [er, w_b1_is tk.1]
    show pc (w_chk (m' < 40) _) _
    refine pc_chk (fun _ => ?_)
    have ek : gi S (14 + 4 * m') 2 = q_kd (cu S0 u) m' := hT.1 _ 2 (by omega) (by omega)
    have eh : gi S (14 + 4 * m') 5 = q_hi (cu S0 u) m' := hT.1 _ 5 (by omega) (by omega)
    by_cases k2 : q_kd (cu S0 u) m' = 2
    · rw [if_pos (ek.trans k2), gq4]
      show pc (w_chk (shOk q) _) _
      refine pc_chk (fun _ => ?_)
      have ep : q_pc (cu S0 u) (q_row (cu S0 u) n d) mv m' = [60 + m'] := by unfold q_pc; rw [if_pos k2]
      rw [ep] at hc ⊢
      have ew : gi S (14 + 4 * m' + 2) 1 = gi S0 (14 + 4 * m' + 2) 1 := hT.1 _ 1 (by omega) (by omega)
      have w1 : q_wt (c_W S0) [60 + m'] = (gi S0 (14 + 4 * m' + 2) 1).toNat := by
        show c_W S0 (60 + m') + 0 = _
        unfold c_W
        rw [if_neg (by omega), show 60 + m' - 60 = m' by omega]; rfl
      have wk := hW m' m40
      have l1 : q_lt [60 + m'] := fun t ht => by simp at ht; omega
      have X := CT_toks hq hT l1
      refine pc_b1 (R := fun S1 => S1 = c_toks q S [60 + m']) (fun S1 e1 => ?_) (fun S15 h15 => ?_)
      · exact c_addAll hq m40 e1 (by rw [ew]; exact wk) h0 (by rw [ew]; omega)
      · rw [h15]
        unfold f_Setter_setPiece_58
        have ek' : gi (c_toks q S [60 + m']) (14 + 4 * m') 2 = q_kd (cu S0 u) m' := X.1.1 _ 2 (by omega) (by omega)
        have eh' : gi (c_toks q S [60 + m']) (14 + 4 * m') 5 = q_hi (cu S0 u) m' := X.1.1 _ 5 (by omega) (by omega)
        rw [if_neg (by omega), eh']
        exact pc_chk (fun _ => pc_some ⟨rfl, rfl, l1⟩)
    · rw [if_neg (fun w => k2 (ek.symm.trans w))]
      unfold f_Setter_setPiece_58
      by_cases k3 : q_kd (cu S0 u) m' = 3
      · rw [if_pos (ek.trans k3)]
        have vt : q_lo (cu S0 u) m' < q_mi (cu S0 u) m' ∧ q_mi (cu S0 u) m' ≤ q_hi (cu S0 u) m' ∧ 0 ≤ q_lo (cu S0 u) m' ∧ q_hi (cu S0 u) m' < F := by omega
        clear vm
        have mvk := q_in_mv hl B hm c0 k3 g0
        have R1 := q_reg_turn G R hm us1 k3 im (fun k a b c d => mvk k a b c d (by omega)) (a := q_mi (cu S0 u) m') (b := q_hi (cu S0 u) m') (.inr ⟨rfl, rfl⟩)
        have R2 := q_reg_turn G R hm us1 k3 im (fun k a b c d => mvk k a b c d (by omega)) (a := q_lo (cu S0 u) m') (b := q_mi (cu S0 u) m' - 1) (.inl ⟨rfl, rfl⟩)
        have C1 := q_cnt_turn G hm us1 k3 im (a := q_mi (cu S0 u) m') (b := q_hi (cu S0 u) m') (.inr ⟨rfl, rfl⟩)
        have C2 := q_cnt_turn G hm us1 k3 im (a := q_lo (cu S0 u) m') (b := q_mi (cu S0 u) m' - 1) (.inl ⟨rfl, rfl⟩)
        obtain ⟨L1, lt1⟩ := hrk _ _ _ R1 (by omega) C1
        obtain ⟨L2, lt2⟩ := hrk _ _ _ R2 (by omega) C2
        have ep : q_pc (cu S0 u) (q_row (cu S0 u) n d) mv m' = q_row (cu S0 u) n d (q_mi (cu S0 u) m') (q_hi (cu S0 u) m') mv ++ q_row (cu S0 u) n d (q_lo (cu S0 u) m') (q_mi (cu S0 u) m' - 1) mv := by unfold q_pc; rw [if_neg k2, if_pos k3]
        rw [ep] at hc ⊢
        rw [q_wt_append] at hc
        generalize q_row (cu S0 u) n d (q_mi (cu S0 u) m') (q_hi (cu S0 u) m') mv = A1 at L1 lt1 hc ⊢
        generalize q_row (cu S0 u) n d (q_lo (cu S0 u) m') (q_mi (cu S0 u) m' - 1) mv = A2 at L2 lt2 hc ⊢
        have lt12 : q_lt (A1 ++ A2) := fun t ht => by
          rcases List.mem_append.1 ht with w | w
          · exact lt1 t w
          · exact lt2 t w
        have no : ¬ q_op (cu S0 u) low high mv m' := q_op_in G R hm us1 (by omega) im
        have f0 : gi S 180 (c_dn u m') = 0 := by
          have o := hO m' hm um
          rcases o.1 with w | w
          · exact w
          · exact absurd (o.2.1 w) no
        rw [w_b1_is (c_mind l40 (.inr rfl))]
        have T9 : CT q S0 (si S 180 (c_dn u m') 1) := ⟨fun r i a d => by rw [gi_off (by omega)]; exact hT.1 r i a d, hT.2.1, hT.2.2⟩
        have O9 : ∀ a b : Int, (a = q_lo (cu S0 u) m' ∧ b = q_mi (cu S0 u) m' - 1) ∨ (a = q_mi (cu S0 u) m' ∧ b = q_hi (cu S0 u) m') → OPS S0 (si S 180 (c_dn u m') 1) u n a b mv := by
          intro a b hab o ho uo
          by_cases e : o = m'
          · rw [e, gi_at]
            exact ⟨.inr rfl, fun _ => .inr ⟨by omega, by omega, by omega, .inr ⟨k3, by omega⟩⟩, fun _ => rfl⟩
          · have ne : c_dn u o ≠ c_dn u m' := fun w => e (c_dn_inj (n := n) uo um w)
            rw [gi_off (by omega)]
            have w := hO o ho uo
            rw [← q_op_turn G R hl B hm c0 k3 g0 hab ho uo e]
            exact w
        have eq9 : gi (si S 180 (c_dn u m') 1) q 1 = gi S q 1 := gi_off (by omega)
        have emi : gi (si S 180 (c_dn u m') 1) (14 + 4 * m' + 1) 1 = q_mi (cu S0 u) m' := T9.1 _ 1 (by omega) (by omega)
        have ehi : gi (si S 180 (c_dn u m') 1) (14 + 4 * m') 5 = q_hi (cu S0 u) m' := T9.1 _ 5 (by omega) (by omega)
        rw [w_b1_is c_number, emi, ehi]
        refine pc_chk (fun _ => ?_)
        refine pc_b1 (L1 _ T9 (O9 _ _ (.inr ⟨rfl, rfl⟩)) (by omega) (by omega)) (fun S10 h10 => ?_)
        have X1 := CT_toks hq T9 lt1
        rw [← h10] at X1
        have O10 : OPS S0 S10 u n (q_lo (cu S0 u) m') (q_mi (cu S0 u) m' - 1) mv := by rw [h10]; exact OPS_toks hq lt1 (O9 _ _ (.inl ⟨rfl, rfl⟩))
        have emi' : gi S10 (14 + 4 * m' + 1) 1 = q_mi (cu S0 u) m' := X1.1.1 _ 1 (by omega) (by omega)
        have elo' : gi S10 (14 + 4 * m') 4 = q_lo (cu S0 u) m' := X1.1.1 _ 4 (by omega) (by omega)
        rw [w_b1_is c_number, emi', elo']
        refine pc_chk (fun _ => pc_chk (fun _ => ?_))
        refine pc_b1 (L2 S10 X1.1 O10 (by omega) (by omega)) (fun S17 h17 => ?_)
        rw [w_b1_is (c_mind l40 (.inl rfl))]
        have back : si S17 180 (c_dn u m') 0 = c_toks q S (A1 ++ A2) := by
          rw [h17, h10, ← c_toks_append, c_toks_op hq _ _ _ _ lt12]
          exact si_twice (by rw [(c_toks_fp hq _ S lt12).1.1 180 _ (by omega)]; exact f0)
        rw [back]
        have X := CT_toks hq hT lt12
        have eh' : gi (c_toks q S (A1 ++ A2)) (14 + 4 * m') 5 = q_hi (cu S0 u) m' := X.1.1 _ 5 (by omega) (by omega)
        rw [eh']
        exact pc_chk (fun _ => pc_some ⟨rfl, rfl, lt12⟩)
      · rw [if_neg (fun w => k3 (ek.symm.trans w)), eh]
        have ep : q_pc (cu S0 u) (q_row (cu S0 u) n d) mv m' = [] := by unfold q_pc; rw [if_neg k2, if_neg k3]
        rw [ep]
        exact pc_chk (fun _ => pc_some ⟨rfl, rfl, fun t ht => absurd ht (by simp)⟩)
