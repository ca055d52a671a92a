theorem cset_skip {rk : SS → Int → Int → Int → Option SS} {low high depth v4 : Int} {S : SS} {P : SS → Prop} (hh : v4 ≤ high + 1) (h : ∀ n2, pc (f_Setter_setRowB_13 rk low high depth n2 S v4 v4) P) : ∀ (e n2 : Nat) (i : Int), i + (e : Int) = v4 → pc (f_Setter_setRowB_13 rk low high depth n2 S v4 i) P := by
  intro e
  induction e with
  | zero => intro n2 i hi; rw [show i = v4 by omega]; exact h n2
  | succ e ih =>
    intro n2 i hi
    cases n2 with
    | zero => intro r e; exact absurd e (by simp [f_Setter_setRowB_13])
    | succ n2 =>
      show pc (f_Setter_setRowB_13_b rk low high depth (f_Setter_setRowB_13 rk low high depth n2) S v4 i) P
      unfold f_Setter_setRowB_13_b
      rw [if_neg (by omega), if_neg (by omega)]
      unfold f_Setter_setRowB_51
      exact pc_chk (fun _ => ih n2 (i + 1) (by omega))
theorem c_number {S : SS} {j : Nat} : f_Mark_number S j 1 = some (gi S (14 + 4 * j + 1) 1) := by
  unfold f_Mark_number
  rw [if_neg (by omega), if_pos (by omega), w_chkP (by omega)]
  rfl
def c_pl (M : q_MK) (n d : Nat) (high mv i : Int) : List Nat := if q_om M high mv i n = -1 then [i.toNat] else q_pc M (q_row M n d) mv (q_om M high mv i n).toNat
def c_nx (M : q_MK) (n : Nat) (high mv i : Int) : Int := (if q_om M high mv i n = -1 then i else q_hi M (q_om M high mv i n).toNat) + 1
theorem cset_piece {q : Nat} {S0 : SS} {u : Nat → Int} {n : Nat} {F low high mv i : Int} (H : CSET q S0 u n F) (R : q_reg (cu S0 u) n F low high mv) (hl : low ≤ i) (hh : i ≤ high) (B : q_bd (cu S0 u) n low high mv i) (rk : SS → Int → Int → Int → Option SS) (d : Nat) (depth : Int)
    (hrk : ∀ low' high' mv', q_reg (cu S0 u) n F low' high' mv' → low' ≤ high' → q_cnt (cu S0 u) low' high' mv' n < q_cnt (cu S0 u) low high mv n → c_lays q S0 u n low' high' mv' (fun S => rk S low' high' (depth + 1)) (q_row (cu S0 u) n d low' high' mv') ∧ q_lt (q_row (cu S0 u) n d low' high' mv')) :
    ∀ S, CT q S0 S → OPS S0 S u n low high mv → 0 ≤ gi S q 1 → gi S q 1 + (q_wt (c_W S0) (c_pl (cu S0 u) n d high mv i) : Int) ≤ cap q → pc (f_Setter_setPiece rk S i depth) (fun z => z.1 = c_nx (cu S0 u) n high mv i ∧ z.2 = c_toks q S (c_pl (cu S0 u) n d high mv i) ∧ q_lt (c_pl (cu S0 u) n d high mv i)) := by
  obtain ⟨G, hn, hF0, hF, h4, h6, h7, h8, h9, hq, hW⟩ := id H
  intro S hT hO h0 hc
  have r1 := R.1
  have r2 := R.2.1
  have gq4 : gq S 178 4 = some q := by unfold gq; rw [hT.2.2]; exact h8
  have gq3 : gq S 178 3 = some 4 := by unfold gq; rw [hT.2.2]; exact h9
  have bst0 : c_bst (cu S0 u) u high mv i 0 (-1) (-1) := .inl ⟨rfl, rfl, rfl⟩
  have om := cset_om H R hl hh hT hO n 0 FU (-1) (-1) (by omega) bst0
  rw [show ((c_dn u 0 : Nat) : Int) = 0 from rfl] at om
  unfold f_Setter_setPiece f_Setter_outermostAt
  refine pc_b1 om (fun r hr => ?_)
  rcases hr with ⟨e0, er⟩ | ⟨m, hm, um, e0, er⟩
  · have eL : c_pl (cu S0 u) n d high mv i = [i.toNat] := by unfold c_pl; rw [if_pos e0]
    have eN : c_nx (cu S0 u) n high mv i = i + 1 := by unfold c_nx; rw [if_pos e0]
    rw [eL] at hc ⊢
    rw [eN]
    have w1 : q_wt (c_W S0) [i.toNat] = 1 := by show c_W S0 i.toNat + 0 = 1; unfold c_W; rw [if_pos (by omega)]
    rw [w1] at hc
    have tn : f_Setter_takenAt S r = some none := by unfold f_Setter_takenAt; rw [if_pos (by omega)]
    rw [w_b1_is tn, gq4, gq3]
    show pc (w_chk (shOk q) (w_chk (shOk 4) _)) _
    refine pc_chk (fun _ => pc_chk (fun _ => ?_))
    have e4 : gi S 4 1 = F := by rw [hT.1 4 1 (by omega) (by omega)]; exact h4
    have c4 : cap 4 = 60 := rfl
    have wa : f_Sheet_wordAt S 4 i = some (gl S 5 i.toNat) := by
      unfold f_Sheet_wordAt
      rw [if_neg (by omega), if_neg (by omega), if_pos (by omega), w_chkP (by omega)]
    rw [w_b1_is wa]
    refine pc_b1 (R := fun S1 => S1 = c_toks q S [i.toNat]) (fun S1 e1 => ?_) (fun S10 h10 => pc_chk (fun _ => pc_some ⟨rfl, h10, fun t ht => by simp at ht; omega⟩))
    rw [c_add e1 h0 (by omega)]
    show _ = c_tok q S i.toNat
    unfold c_tok
    rw [if_pos (by omega)]
  · have us1 : q_us (cu S0 u) m = 1 := um
    have eL : c_pl (cu S0 u) n d high mv i = q_pc (cu S0 u) (q_row (cu S0 u) n d) mv m := by unfold c_pl; rw [if_neg (by omega), e0, Int.toNat_natCast]
    have eN : c_nx (cu S0 u) n high mv i = q_hi (cu S0 u) m + 1 := by unfold c_nx; rw [if_neg (by omega), e0, Int.toNat_natCast]
    rw [eL] at hc ⊢
    rw [eN]
    rcases q_om_spec (cu S0 u) high mv i n with ⟨e0', _⟩ | ⟨m', hm', e0', c0, g0⟩
    · omega
    have em : m' = m := by omega
    subst em
    have vm := G.1 m' hm us1
    unfold q_val at vm
    have im : q_in (cu S0 u) low high mv m' := ⟨c0.2.2.1, by omega, c0.2.2.2.2⟩
    have tk := c_taken H hT hm um
    have l40 : c_dn u m' < 40 := by have := c_dn_le u m'; omega
    have m40 : m' < 40 := by omega
    rw [er, w_b1_is tk.1]
    show pc (w_chk (m' < 40) _) _
    refine pc_chk (fun _ => ?_)
    have ek : gi S (14 + 4 * m') 2 = q_kd (cu S0 u) m' := hT.1 _ 2 (by omega) (by omega)
    have eh : gi S (14 + 4 * m') 5 = q_hi (cu S0 u) m' := hT.1 _ 5 (by omega) (by omega)
    by_cases k2 : q_kd (cu S0 u) m' = 2
    · rw [if_pos (ek.trans k2), gq4]
      show pc (w_chk (shOk q) _) _
      refine pc_chk (fun _ => ?_)
      have ep : q_pc (cu S0 u) (q_row (cu S0 u) n d) mv m' = [60 + m'] := by unfold q_pc; rw [if_pos k2]
      rw [ep] at hc ⊢
      have ew : gi S (14 + 4 * m' + 2) 1 = gi S0 (14 + 4 * m' + 2) 1 := hT.1 _ 1 (by omega) (by omega)
      have w1 : q_wt (c_W S0) [60 + m'] = (gi S0 (14 + 4 * m' + 2) 1).toNat := by
        show c_W S0 (60 + m') + 0 = _
        unfold c_W
        rw [if_neg (by omega), show 60 + m' - 60 = m' by omega]; rfl
      have wk := hW m' m40
      have l1 : q_lt [60 + m'] := fun t ht => by simp at ht; omega
      have X := CT_toks hq hT l1
      refine pc_b1 (R := fun S1 => S1 = c_toks q S [60 + m']) (fun S1 e1 => ?_) (fun S15 h15 => ?_)
      · exact c_addAll hq m40 e1 (by rw [ew]; exact wk) h0 (by rw [ew]; omega)
      · rw [h15]
        unfold f_Setter_setPiece_58
        have ek' : gi (c_toks q S [60 + m']) (14 + 4 * m') 2 = q_kd (cu S0 u) m' := X.1.1 _ 2 (by omega) (by omega)
        have eh' : gi (c_toks q S [60 + m']) (14 + 4 * m') 5 = q_hi (cu S0 u) m' := X.1.1 _ 5 (by omega) (by omega)
        rw [if_neg (by omega), eh']
        exact pc_chk (fun _ => pc_some ⟨rfl, rfl, l1⟩)
    · rw [if_neg (fun w => k2 (ek.symm.trans w))]
      unfold f_Setter_setPiece_58
      by_cases k3 : q_kd (cu S0 u) m' = 3
      · rw [if_pos (ek.trans k3)]
        have vt : q_lo (cu S0 u) m' < q_mi (cu S0 u) m' ∧ q_mi (cu S0 u) m' ≤ q_hi (cu S0 u) m' ∧ 0 ≤ q_lo (cu S0 u) m' ∧ q_hi (cu S0 u) m' < F := by omega
        clear vm
        have mvk := q_in_mv hl B hm c0 k3 g0
        have R1 := q_reg_turn G R hm us1 k3 im (fun k a b c d => mvk k a b c d (by omega)) (a := q_mi (cu S0 u) m') (b := q_hi (cu S0 u) m') (.inr ⟨rfl, rfl⟩)
        have R2 := q_reg_turn G R hm us1 k3 im (fun k a b c d => mvk k a b c d (by omega)) (a := q_lo (cu S0 u) m') (b := q_mi (cu S0 u) m' - 1) (.inl ⟨rfl, rfl⟩)
        have C1 := q_cnt_turn G hm us1 k3 im (a := q_mi (cu S0 u) m') (b := q_hi (cu S0 u) m') (.inr ⟨rfl, rfl⟩)
        have C2 := q_cnt_turn G hm us1 k3 im (a := q_lo (cu S0 u) m') (b := q_mi (cu S0 u) m' - 1) (.inl ⟨rfl, rfl⟩)
        obtain ⟨L1, lt1⟩ := hrk _ _ _ R1 (by omega) C1
        obtain ⟨L2, lt2⟩ := hrk _ _ _ R2 (by omega) C2
        have ep : q_pc (cu S0 u) (q_row (cu S0 u) n d) mv m' = q_row (cu S0 u) n d (q_mi (cu S0 u) m') (q_hi (cu S0 u) m') mv ++ q_row (cu S0 u) n d (q_lo (cu S0 u) m') (q_mi (cu S0 u) m' - 1) mv := by unfold q_pc; rw [if_neg k2, if_pos k3]
        rw [ep] at hc ⊢
        rw [q_wt_append] at hc
        generalize q_row (cu S0 u) n d (q_mi (cu S0 u) m') (q_hi (cu S0 u) m') mv = A1 at L1 lt1 hc ⊢
        generalize q_row (cu S0 u) n d (q_lo (cu S0 u) m') (q_mi (cu S0 u) m' - 1) mv = A2 at L2 lt2 hc ⊢
        have lt12 : q_lt (A1 ++ A2) := fun t ht => by
          rcases List.mem_append.1 ht with w | w
          · exact lt1 t w
          · exact lt2 t w
        have no : ¬ q_op (cu S0 u) low high mv m' := q_op_in G R hm us1 (by omega) im
        have f0 : gi S 180 (c_dn u m') = 0 := by
          have o := hO m' hm um
          rcases o.1 with w | w
          · exact w
          · exact absurd (o.2.1 w) no
        rw [w_b1_is (c_mind l40 (.inr rfl))]
        have T9 : CT q S0 (si S 180 (c_dn u m') 1) := ⟨fun r i a d => by rw [gi_off (by omega)]; exact hT.1 r i a d, hT.2.1, hT.2.2⟩
        have O9 : ∀ a b : Int, (a = q_lo (cu S0 u) m' ∧ b = q_mi (cu S0 u) m' - 1) ∨ (a = q_mi (cu S0 u) m' ∧ b = q_hi (cu S0 u) m') → OPS S0 (si S 180 (c_dn u m') 1) u n a b mv := by
          intro a b hab o ho uo
          by_cases e : o = m'
          · rw [e, gi_at]
            exact ⟨.inr rfl, fun _ => .inr ⟨by omega, by omega, by omega, .inr ⟨k3, by omega⟩⟩, fun _ => rfl⟩
          · have ne : c_dn u o ≠ c_dn u m' := fun w => e (c_dn_inj (n := n) uo um w)
            rw [gi_off (by omega)]
            have w := hO o ho uo
            rw [← q_op_turn G R hl B hm c0 k3 g0 hab ho uo e]
            exact w
        have eq9 : gi (si S 180 (c_dn u m') 1) q 1 = gi S q 1 := gi_off (by omega)
        have emi : gi (si S 180 (c_dn u m') 1) (14 + 4 * m' + 1) 1 = q_mi (cu S0 u) m' := T9.1 _ 1 (by omega) (by omega)
        have ehi : gi (si S 180 (c_dn u m') 1) (14 + 4 * m') 5 = q_hi (cu S0 u) m' := T9.1 _ 5 (by omega) (by omega)
        rw [w_b1_is c_number, emi, ehi]
        refine pc_chk (fun _ => ?_)
        refine pc_b1 (L1 _ T9 (O9 _ _ (.inr ⟨rfl, rfl⟩)) (by omega) (by omega)) (fun S10 h10 => ?_)
        have X1 := CT_toks hq T9 lt1
        rw [← h10] at X1
        have O10 : OPS S0 S10 u n (q_lo (cu S0 u) m') (q_mi (cu S0 u) m' - 1) mv := by rw [h10]; exact OPS_toks hq lt1 (O9 _ _ (.inl ⟨rfl, rfl⟩))
        have emi' : gi S10 (14 + 4 * m' + 1) 1 = q_mi (cu S0 u) m' := X1.1.1 _ 1 (by omega) (by omega)
        have elo' : gi S10 (14 + 4 * m') 4 = q_lo (cu S0 u) m' := X1.1.1 _ 4 (by omega) (by omega)
        rw [w_b1_is c_number, emi', elo']
        refine pc_chk (fun _ => pc_chk (fun _ => ?_))
        refine pc_b1 (L2 S10 X1.1 O10 (by omega) (by omega)) (fun S17 h17 => ?_)
        rw [w_b1_is (c_mind l40 (.inl rfl))]
        have back : si S17 180 (c_dn u m') 0 = c_toks q S (A1 ++ A2) := by
          rw [h17, h10, ← c_toks_append, c_toks_op hq _ _ _ _ lt12]
          exact si_twice (by rw [(c_toks_fp hq _ S lt12).1.1 180 _ (by omega)]; exact f0)
        rw [back]
        have X := CT_toks hq hT lt12
        have eh' : gi (c_toks q S (A1 ++ A2)) (14 + 4 * m') 5 = q_hi (cu S0 u) m' := X.1.1 _ 5 (by omega) (by omega)
        rw [eh']
        exact pc_chk (fun _ => pc_some ⟨rfl, rfl, lt12⟩)
      · rw [if_neg (fun w => k3 (ek.symm.trans w)), eh]
        have ep : q_pc (cu S0 u) (q_row (cu S0 u) n d) mv m' = [] := by unfold q_pc; rw [if_neg k2, if_neg k3]
        rw [ep]
        exact pc_chk (fun _ => pc_some ⟨rfl, rfl, fun t ht => absurd ht (by simp)⟩)
theorem cset_loop {q : Nat} {S0 : SS} {u : Nat → Int} {n : Nat} {F low high mv : Int} (H : CSET q S0 u n F) (R : q_reg (cu S0 u) n F low high mv) (rk : SS → Int → Int → Int → Option SS) (d : Nat) (depth : Int)
    (hrk : ∀ low' high' mv', q_reg (cu S0 u) n F low' high' mv' → low' ≤ high' → q_cnt (cu S0 u) low' high' mv' n < q_cnt (cu S0 u) low high mv n → c_lays q S0 u n low' high' mv' (fun S => rk S low' high' (depth + 1)) (q_row (cu S0 u) n d low' high' mv') ∧ q_lt (q_row (cu S0 u) n d low' high' mv')) :
    ∀ (c : Nat) (i : Int) (n2 : Nat), low ≤ i → i ≤ high + 1 → q_bd (cu S0 u) n low high mv i → high + 1 - i < (c : Int) → c_lays q S0 u n low high mv (fun S => f_Setter_setRowB_13 rk low high depth n2 S i i) (q_loop (cu S0 u) n (q_row (cu S0 u) n d) low high mv c i) := by
  obtain ⟨G, hn, hF0, hF, h4, h6, h7, h8, h9, hq, hW⟩ := id H
  obtain ⟨r1, r2, r3, r4, r5⟩ := id R
  have gapL : ∀ g : Int, low < g → g ≤ high → q_bd (cu S0 u) n low high mv g → c_lays q S0 u n low high mv (fun S => f_Setter_setGap rk S g depth) (q_gap (cu S0 u) (q_row (cu S0 u) n d) g n 0) := by
    intro g g1 g2 B
    have := cset_gap H R B (by omega) (fun k hk uk gk => r4 k hk uk (by omega) (by omega)) rk (q_row (cu S0 u) n d) depth (fun k hk uk gk k4 => ?_) n 0 FU (by omega)
    · exact this
    · have ik : q_in (cu S0 u) low high mv k := by
        rcases r4 k hk uk (by omega) (by omega) with w | w
        · omega
        · exact w.2
      have vk := G.1 k hk uk
      unfold q_val at vk
      exact hrk _ _ _ (q_reg_move G hk uk k4) (by omega) (q_cnt_move G r5 hk uk k4 ik)
  have K := q_row_ok G hF d
  have ltG : ∀ g : Int, low < g → g ≤ high → q_bd (cu S0 u) n low high mv g → q_lt (q_gap (cu S0 u) (q_row (cu S0 u) n d) g n 0) := by
    intro g g1 g2 B t ht
    obtain ⟨j, _, sj⟩ := q_gap_src G K B (fun k hk uk gk => r4 k hk uk (by omega) (by omega)) (c := n) (k := 0) (by omega) ht
    obtain ⟨s1, s2, s3, s4, s5⟩ := sj
    rcases s5 with s5 | s5
    · omega
    · exact q_bel_lt hn s5.2.2
  intro c
  induction c with
  | zero => intro i n2 h1 h1' B h2 S hT hO h0 hc; exfalso; omega
  | succ c ih =>
    intro i n2 h1 h1' B h2 S hT hO h0 hc
    cases n2 with
    | zero => intro r e; exact absurd e (by simp [f_Setter_setRowB_13])
    | succ n2 =>
      rw [q_loop] at hc ⊢
      show pc (f_Setter_setRowB_13_b rk low high depth (f_Setter_setRowB_13 rk low high depth n2) S i i) _
      unfold f_Setter_setRowB_13_b
      by_cases c0 : high < i
      · rw [if_pos c0, if_pos c0]; exact pc_some rfl
      rw [if_neg c0] at hc
      rw [if_neg c0, if_neg c0, if_pos (Int.le_refl i)]
      have tail : ∀ S', CT q S0 S' → OPS S0 S' u n low high mv → 0 ≤ gi S' q 1 → ∀ L, gi S' q 1 + (q_wt (c_W S0) L : Int) ≤ cap q → L = (if q_om (cu S0 u) high mv i n = -1 then [i.toNat] ++ q_loop (cu S0 u) n (q_row (cu S0 u) n d) low high mv c (i + 1) else q_pc (cu S0 u) (q_row (cu S0 u) n d) mv (q_om (cu S0 u) high mv i n).toNat ++ q_loop (cu S0 u) n (q_row (cu S0 u) n d) low high mv c (q_hi (cu S0 u) (q_om (cu S0 u) high mv i n).toNat + 1)) → pc (f_Setter_setRowB_42 rk low high depth (f_Setter_setRowB_13 rk low high depth n2) S' i) (fun S1 => S1 = c_toks q S' L) := by
        intro S' hT' hO' h0' L hL eL
        have eL2 : L = c_pl (cu S0 u) n d high mv i ++ q_loop (cu S0 u) n (q_row (cu S0 u) n d) low high mv c (c_nx (cu S0 u) n high mv i) := by
          rw [eL]
          unfold c_pl c_nx
          by_cases e0 : q_om (cu S0 u) high mv i n = -1
          · rw [if_pos e0, if_pos e0, if_pos e0]
          · rw [if_neg e0, if_neg e0, if_neg e0]
        have nx : i < c_nx (cu S0 u) n high mv i ∧ c_nx (cu S0 u) n high mv i ≤ high + 1 ∧ q_bd (cu S0 u) n low high mv (c_nx (cu S0 u) n high mv i) := by
          unfold c_nx
          rcases q_om_spec (cu S0 u) high mv i n with ⟨e0, g0⟩ | ⟨m, hm, e0, c0', g0⟩
          · rw [if_pos e0]
            exact ⟨by omega, by omega, q_bd_word B e0⟩
          · rw [if_neg (by omega), e0, Int.toNat_natCast]
            have vm := G.1 m hm c0'.1
            unfold q_val at vm
            exact ⟨by omega, by omega, q_bd_next G B h1 hm c0' g0⟩
        clear eL
        rw [eL2, q_wt_append] at hL
        unfold f_Setter_setRowB_42
        refine pc_b2 (cset_piece H R h1 (by omega) B rk d depth hrk S' hT' hO' h0' (by omega)) (fun r S1 h => ?_)
        obtain ⟨e1, e2, lt⟩ := h
        have e1 : r = c_nx (cu S0 u) n high mv i := e1
        have e2 : S1 = c_toks q S' (c_pl (cu S0 u) n d high mv i) := e2
        have X := CT_toks hq hT' lt
        rw [← e2] at X
        have O1 : OPS S0 S1 u n low high mv := by rw [e2]; exact OPS_toks hq lt hO'
        unfold f_Setter_setRowB_51
        refine pc_chk (fun _ => ?_)
        rw [e1]
        refine cset_skip nx.2.1 (fun n2' => ?_) (c_nx (cu S0 u) n high mv i - (i + 1)).toNat n2 (i + 1) (by omega)
        have I := ih (c_nx (cu S0 u) n high mv i) n2' (by omega) nx.2.1 nx.2.2 (by omega) S1 X.1 O1 (by omega) (by omega)
        refine pc_mono I (fun S2 e3 => ?_)
        rw [e3, eL2, c_toks_append, ← e2]
      by_cases c1 : i ≤ low
      · rw [if_pos c1]
        rw [if_neg (show ¬ low < i by omega), List.nil_append] at hc ⊢
        exact tail S hT hO h0 _ hc rfl
      · rw [if_neg c1]
        rw [if_pos (show low < i by omega)] at hc ⊢
        rw [q_wt_append] at hc
        have lt := ltG i (by omega) (by omega) B
        have X := CT_toks hq hT lt
        refine pc_b1 (gapL i (by omega) (by omega) B S hT hO h0 (by omega)) (fun S1 e1 => ?_)
        have e1 : S1 = c_toks q S (q_gap (cu S0 u) (q_row (cu S0 u) n d) i n 0) := e1
        rw [c_toks_append, ← e1]
        rw [← e1] at X
        exact tail S1 X.1 (by rw [e1]; exact OPS_toks hq lt hO) (by omega) _ (by omega) rfl
theorem cset_row {q : Nat} {S0 : SS} {u : Nat → Int} {n : Nat} {F : Int} (H : CSET q S0 u n F) : ∀ (d : Nat) (low high mv depth : Int), q_reg (cu S0 u) n F low high mv → low ≤ high → q_cnt (cu S0 u) low high mv n < d → depth + (q_cnt (cu S0 u) low high mv n : Int) ≤ 40 → c_lays q S0 u n low high mv (fun S => f_Setter_setRow d S low high depth) (q_row (cu S0 u) n d low high mv) := by
  obtain ⟨G, hn, hF0, hF, h4, h6, h7, h8, h9, hq, hW⟩ := id H
  intro d
  induction d with
  | zero => intro low high mv depth _ _ h; exact absurd h (Nat.not_lt_zero _)
  | succ d ih =>
    intro low high mv depth R hl h hd
    have r1 := R.1
    have r2 := R.2.1
    have LP := cset_loop H R (f_Setter_setRow d) d depth (fun low' high' mv' R' hl' hc' => ⟨ih low' high' mv' (depth + 1) R' hl' (by omega) (by omega), fun t ht => q_bel_lt hn ((q_row_ok G hF d _ _ _ R').2 t ht)⟩) 100 low FU (by omega) (by omega) q_bd_low (by omega)
    intro S hT hO h0 hc
    show pc (f_Setter_setRowB (f_Setter_setRow d) S low high depth) _
    unfold f_Setter_setRowB
    rw [if_pos (by omega)]
    exact LP S hT hO h0 hc
theorem q_wt_cg {W V : Nat → Nat} : ∀ L : List Nat, (∀ t, t ∈ L → W t = V t) → q_wt W L = q_wt V L := by
  intro L
  induction L with
  | nil => intro _; rfl
  | cons t L ih => intro h; rw [q_wt, q_wt, h t List.mem_cons_self, ih (fun x hx => h x (List.mem_cons_of_mem _ hx))]
/-- what takeDone leaves: the used marks in order, none open -/
def TKN (S : SS) (u : Nat → Int) (n : Nat) : Prop := gi S 178 2 = (c_dn u n : Int) ∧ ∀ k, k < n → u k = 1 → gq S 179 (c_dn u k) = some k ∧ gi S 180 (c_dn u k) = 0
def c_s4 (S : SS) (q : Nat) : SS := si (sq (sq S 178 3 (some 4)) 178 4 (some q)) q 1 0
theorem cset_make {q : Nat} (hq : qok q) {S : SS} {u : Nat → Int} {n : Nat} {F : Int} (G : q_good (cu S u) n F) (hn : n ≤ 40) (hF0 : 0 ≤ F) (hF : F ≤ 60) (h4 : gi S 4 1 = F) (hK : TKN S u n) (hW : ∀ k, k < 40 → 0 ≤ gi S (14 + 4 * k + 2) 1 ∧ gi S (14 + 4 * k + 2) 1 ≤ 6) (hc : (q_wt (c_W S) (q_all (cu S u) n F) : Int) ≤ cap q) : pc (f_Setter_make S 4 q) (fun S1 => S1 = c_toks q (c_s4 S q) (q_all (cu S u) n F)) := by
  have gS : ∀ r k, ¬ (r = q ∧ k = 1) → gi (c_s4 S q) r k = gi S r k := fun r k a => by unfold c_s4; rw [gi_off a]; rfl
  have emd : c_md (c_s4 S q) = c_md S := by
    funext j k
    unfold c_md
    rw [gS (14 + 4 * k) 2 (by omega), gS (14 + 4 * k) 4 (by omega), gS (14 + 4 * k) 5 (by omega), gS (14 + 4 * k + 1) 1 (by omega), gS (14 + 4 * k) 6 (by omega)]
  have ecu : cu (c_s4 S q) u = cu S u := by unfold cu; rw [emd]
  have ew : q_wt (c_W (c_s4 S q)) (q_all (cu S u) n F) = q_wt (c_W S) (q_all (cu S u) n F) := by
    refine q_wt_cg _ (fun t ht => ?_)
    have := (q_all_ok G hF hF0 hn).2 t ht
    unfold c_W
    by_cases e : t < 60
    · rw [if_pos e, if_pos e]
    · rw [if_neg e, if_neg e, gS (14 + 4 * (t - 60) + 2) 1 (by omega)]
  have gq4 : gq (c_s4 S q) 178 4 = some q := by unfold c_s4; exact gq_at _ _ _ _
  have gq3 : gq (c_s4 S q) 178 3 = some 4 := by
    unfold c_s4
    show gq (sq (sq S 178 3 (some 4)) 178 4 (some q)) 178 3 = _
    rw [gq_off (by omega)]; exact gq_at _ _ _ _
  have gqo : ∀ r k, r ≠ 178 → gq (c_s4 S q) r k = gq S r k := fun r k a => by
    unfold c_s4
    show gq (sq (sq S 178 3 (some 4)) 178 4 (some q)) r k = _
    rw [gq_off (by omega), gq_off (by omega)]
  have H : CSET q (c_s4 S q) u n F := by
    refine ⟨by rw [ecu]; exact G, hn, hF0, hF, by rw [gS 4 1 (by omega)]; exact h4, by rw [gS 178 2 (by omega)]; exact hK.1, fun k hk uk => by rw [gqo 179 _ (by omega)]; exact (hK.2 k hk uk).1, gq4, gq3, hq, fun k hk => by rw [gS _ 1 (by omega)]; exact hW k hk⟩
  have O : OPS (c_s4 S q) (c_s4 S q) u n 0 (F - 1) (-1) := by
    intro k hk uk
    rw [gS 180 _ (by omega), (hK.2 k hk uk).2]
    refine ⟨.inl rfl, fun w => absurd w (by decide), fun w => ?_⟩
    rw [ecu] at w
    exact absurd w (q_op_top G hk uk)
  have T : CT q (c_s4 S q) (c_s4 S q) := ⟨fun _ _ _ _ => rfl, fun _ _ _ => rfl, rfl⟩
  have z0 : gi (c_s4 S q) q 1 = 0 := by unfold c_s4; exact gi_at _ _ _ _
  have e4 : gi (c_s4 S q) 4 1 = F := by rw [gS 4 1 (by omega)]; exact h4
  unfold f_Setter_make
  refine pc_lt (fun S1 e1 => pc_lt (fun S2 e2 => ?_))
  have g2 : gq S2 178 4 = some q := by rw [e2, gq_at]
  rw [g2]
  show pc (w_chk (shOk q) _) _
  refine pc_chk (fun _ => pc_lt (fun S4 e5 => ?_))
  have e5 : S4 = c_s4 S q := by rw [e5, e2, e1]; rfl
  rw [e5, gq3]
  show pc (w_chk (shOk 4) _) _
  refine pc_chk (fun _ => ?_)
  rw [e4]
  rw [← ew, ← ecu] at hc
  rw [← ecu]
  rw [← ecu] at G
  generalize c_s4 S q = S0 at H O T z0 hc G ⊢
  clear e5 e4 emd ecu ew gS gqo gq4 gq3
  have R := q_reg_top G
  have K := q_row_ok G hF 43
  have hcnt : ∀ low high mv, q_cnt (cu S0 u) low high mv n ≤ 40 := fun low high mv => by
    have := q_cnt_le (cu S0 u) low high mv n
    omega
  have hB : ∀ g : Int, (g = 0 ∨ g = F) → q_bd (cu S0 u) n 0 (F - 1) (-1) g := by
    intro g hg k hk hu hr hi w
    have v := G.1 k hk hu
    unfold q_val at v
    omega
  have hin : ∀ g : Int, 0 ≤ g → ∀ k, k < n → u k = 1 → q_gp (cu S0 u) k = g → q_kd (cu S0 u) k = 1 ∨ (q_kd (cu S0 u) k = 4 ∧ q_in (cu S0 u) 0 (F - 1) (-1) k) := by
    intro g h0 k hk hu hg
    have v := G.1 k hk hu
    unfold q_val at v
    rcases v with v | v | v | v
    · omega
    · exact .inl v.1
    · omega
    · exact .inr ⟨v.1, by omega, by omega, by omega⟩
  have gapL : ∀ g : Int, (g = 0 ∨ g = F) → c_lays q S0 u n 0 (F - 1) (-1) (fun S => f_Setter_setGap (f_Setter_setRow 43) S g 0) (q_gap (cu S0 u) (q_row (cu S0 u) n 43) g n 0) := by
    intro g hg
    have := cset_gap H R (hB g hg) (by omega) (hin g (by omega)) (f_Setter_setRow 43) (q_row (cu S0 u) n 43) 0 (fun k hk uk gk k4 => ?_) n 0 FU (by omega)
    · exact this
    · have ik : q_in (cu S0 u) 0 (F - 1) (-1) k := by
        rcases hin g (by omega) k hk uk gk with w | w
        · omega
        · exact w.2
      have vk := G.1 k hk uk
      unfold q_val at vk
      have Rk := q_reg_move G hk uk k4
      have cl := q_cnt_move G R.2.2.2.2 hk uk k4 ik
      have c1 := hcnt 0 (F - 1) (-1)
      exact ⟨cset_row H 43 _ _ _ (0 + 1) Rk (by omega) (by omega) (by omega), fun t ht => q_bel_lt hn ((K _ _ _ Rk).2 t ht)⟩
  have L := (q_all_ok G hF hF0 hn).2
  have sub : ∀ A B : List Nat, (∀ t, t ∈ A ++ B → t < 100) → q_lt A ∧ (∀ t, t ∈ B → t < 100) := fun A B h => ⟨fun t ht => by have := h t (List.mem_append_left B ht); omega, fun t ht => h t (List.mem_append_right A ht)⟩
  unfold q_all at hc L ⊢
  by_cases c : F ≤ 0
  · have c' : F = 0 := by omega
    rw [if_pos c' ] at hc L ⊢
    rw [List.append_nil] at hc L ⊢
    rw [if_pos c]
    unfold f_Setter_make_44
    refine pc_b1 (gapL F (.inr rfl) S0 T O (by omega) (by rw [c']; omega)) (fun S5 h5 => pc_some ?_)
    rw [c'] at h5; exact h5
  · have c' : ¬ F = 0 := by omega
    rw [if_neg c'] at hc L ⊢
    rw [if_neg c]
    rw [q_wt_append, q_wt_append] at hc
    rw [c_toks_append, c_toks_append]
    have s1 := sub _ _ L
    have s2 := sub _ _ s1.2
    have X1 := CT_toks hq T s1.1
    refine pc_b1 (gapL 0 (.inl rfl) S0 T O (by omega) (by omega)) (fun S8 h8 => pc_chk (fun _ => ?_))
    have h8 : S8 = c_toks q S0 (q_gap (cu S0 u) (q_row (cu S0 u) n 43) 0 n 0) := h8
    have O8 : OPS S0 S8 u n 0 (F - 1) (-1) := by rw [h8]; exact OPS_toks hq s1.1 O
    rw [← h8] at X1 ⊢
    have X2 := CT_toks hq X1.1 s2.1
    refine pc_b1 (cset_row H 43 0 (F - 1) (-1) 0 R (by omega) (by have := hcnt 0 (F - 1) (-1); omega) (by have := hcnt 0 (F - 1) (-1); omega) S8 X1.1 O8 (by omega) (by omega)) (fun S11 h11 => ?_)
    have h11 : S11 = c_toks q S8 (q_row (cu S0 u) n 43 0 (F - 1) (-1)) := h11
    have O11 : OPS S0 S11 u n 0 (F - 1) (-1) := by rw [h11]; exact OPS_toks hq s2.1 O8
    rw [← h11] at X2 ⊢
    unfold f_Setter_make_44
    exact pc_b1 (gapL F (.inr rfl) S11 X2.1 O11 (by omega) (by omega)) (fun S12 h12 => pc_some h12)
/-- the marks that the class takes: done, and not left out by a bit of w -/
def c_us (w : Int) (st : Nat → Int) (k : Nat) : Int := if st k = 0 ∧ ¬ (m_dn st k < 8 ∧ andi (shri w (m_dn st k : Int)) 1 = 1) then 1 else 0
theorem c_us_1 {w : Int} {st : Nat → Int} {k : Nat} (h : c_us w st k = 1) : st k = 0 ∧ ¬ (m_dn st k < 8 ∧ andi (shri w (m_dn st k : Int)) 1 = 1) := by
  unfold c_us at h
  by_cases c : st k = 0 ∧ ¬ (m_dn st k < 8 ∧ andi (shri w (m_dn st k : Int)) 1 = 1)
  · exact c
  · rw [if_neg c] at h; exact absurd h (by decide)
/-- what taking changes -/
def TKF (S0 S : SS) : Prop := (∀ r k, r ≠ 180 → ¬ (r = 178 ∧ k = 2) → gi S r k = gi S0 r k) ∧ S.2.1 = S0.2.1 ∧ ∀ r k, r ≠ 179 → gq S r k = gq S0 r k
theorem TKF_refl (S : SS) : TKF S S := ⟨fun _ _ _ _ => rfl, rfl, fun _ _ _ => rfl⟩
theorem m_dn_le (st : Nat → Int) : ∀ k, m_dn st k ≤ k := by
  intro k
  induction k with
  | zero => exact Nat.le_refl _
  | succ k ih => rw [m_dn]; split <;> omega
theorem ctake_loop (S0 : SS) (w : Int) (st : Nat → Int) (n : Nat) (hn : n ≤ 40) (hq : ∀ k, k < 40 → gq S0 11 k = some k) (h3 : gi S0 10 3 = (n : Int)) (h5 : gi S0 10 5 = (m_dn st n : Int)) (hd : ∀ j, j < n → st j = 0 → gi S0 13 (m_dn st j) = (j : Int)) : ∀ (c k n2 : Nat) (S : SS), k + c = n → TKF S0 S → gi S 178 2 = (c_dn (c_us w st) k : Int) → (∀ j, j < k → c_us w st j = 1 → gq S 179 (c_dn (c_us w st) j) = some j ∧ gi S 180 (c_dn (c_us w st) j) = 0) → pc (f_Setter_takeDone_7 w n2 S (m_dn st k : Int)) (fun S1 => TKF S0 S1 ∧ TKN S1 (c_us w st) n) := by
  intro c
  induction c with
  | zero =>
    intro k n2 S hk hF h2 hj
    cases n2 with
    | zero => intro r e; exact absurd e (by simp [f_Setter_takeDone_7])
    | succ n2 =>
      have hk : k = n := by omega
      subst hk
      show pc (f_Setter_takeDone_7_b w (f_Setter_takeDone_7 w n2) S (m_dn st k : Int)) _
      unfold f_Setter_takeDone_7_b
      rw [if_pos (by rw [hF.1 10 5 (by omega) (by omega), h5]; exact Int.le_refl _)]
      exact pc_some ⟨hF, h2, hj⟩
  | succ c ih =>
    intro k n2 S hk hF h2 hj
    by_cases s0 : st k = 0
    · have dn : m_dn st (k + 1) = m_dn st k + 1 := by rw [m_dn, if_pos s0]
      cases n2 with
      | zero => intro r e; exact absurd e (by simp [f_Setter_takeDone_7])
      | succ n2 =>
        have lt := m_dn_lt st k s0 n (by omega)
        have lk := m_dn_le st k
        have e5 : gi S 10 5 = (m_dn st n : Int) := by rw [hF.1 10 5 (by omega) (by omega)]; exact h5
        have e3 : gi S 10 3 = (n : Int) := by rw [hF.1 10 3 (by omega) (by omega)]; exact h3
        have dnr : f_Pile_doneNumber S (m_dn st k : Int) = some (k : Int) := by
          unfold f_Pile_doneNumber
          rw [if_neg (by omega), if_neg (by omega), if_pos (by omega), w_chkP (by omega), Int.toNat_natCast, hF.1 13 _ (by omega) (by omega), hd k (by omega) s0]
        have fnd : f_Pile_find S (k : Int) = some (some k) := c_find (fun k hk => by rw [hF.2.2 11 k (by omega)]; exact hq k hk) (by omega) (by omega)
        have next : ∀ S', TKF S0 S' → gi S' 178 2 = (c_dn (c_us w st) (k + 1) : Int) → (∀ j, j < k + 1 → c_us w st j = 1 → gq S' 179 (c_dn (c_us w st) j) = some j ∧ gi S' 180 (c_dn (c_us w st) j) = 0) → pc (f_Setter_takeDone_101 w (f_Setter_takeDone_7 w n2) S' (m_dn st k : Int)) (fun S1 => TKF S0 S1 ∧ TKN S1 (c_us w st) n) := by
          intro S' a b d
          unfold f_Setter_takeDone_101
          refine pc_chk (fun _ => ?_)
          rw [show (m_dn st k : Int) + 1 = ((m_dn st (k + 1) : Nat) : Int) by rw [dn]; omega]
          exact ih (k + 1) n2 S' (by omega) a b d
        have skip : c_us w st k ≠ 1 → pc (f_Setter_takeDone_101 w (f_Setter_takeDone_7 w n2) S (m_dn st k : Int)) (fun S1 => TKF S0 S1 ∧ TKN S1 (c_us w st) n) := by
          intro hu
          refine next S hF (by rw [c_dn_0 hu]; exact h2) (fun j hj' uj => ?_)
          by_cases e : j = k
          · rw [e] at uj; exact absurd uj hu
          · exact hj j (by omega) uj
        have take : c_us w st k = 1 → pc (f_Setter_takeDone_34 w (f_Setter_takeDone_7 w n2) S (m_dn st k : Int)) (fun S1 => TKF S0 S1 ∧ TKN S1 (c_us w st) n) := by
          intro hu
          have cl := c_dn_le (c_us w st) k
          unfold f_Setter_takeDone_34 f_Setter_takeDone_35
          rw [w_b1_is dnr, w_b1_is fnd, if_pos rfl]
          show pc (w_chk (k < 40) _) _
          refine pc_chk (fun _ => ?_)
          rw [if_neg (by omega)]
          refine pc_chk (fun _ => pc_lt (fun S8 e8 => pc_chk (fun _ => pc_lt (fun S10 e10 => pc_chk (fun _ => pc_lt (fun S13 e13 => ?_))))))
          have a8 : gi S8 178 2 = (c_dn (c_us w st) k : Int) := by rw [e8]; exact h2
          have a10 : gi S10 178 2 = (c_dn (c_us w st) k : Int) := by rw [e10, gi_off (by omega)]; exact a8
          have t8 : (gi S 178 2).toNat = c_dn (c_us w st) k := by rw [h2]; omega
          have t8' : (gi S8 178 2).toNat = c_dn (c_us w st) k := by rw [a8]; omega
          rw [t8] at e8
          rw [t8'] at e10
          refine next S13 ⟨fun r i a d => ?_, ?_, fun r i a => ?_⟩ ?_ (fun j hj' uj => ?_)
          · rw [e13, gi_off (by omega), e10, gi_off (by omega), e8]; exact hF.1 r i a d
          · rw [e13, e10, e8]; exact hF.2.1
          · rw [e13, e10, e8]
            show gq (sq S 179 (c_dn (c_us w st) k) (some k)) r i = _
            rw [gq_off (by omega)]; exact hF.2.2 r i a
          · rw [e13, gi_at, a10, c_dn_1 hu]; omega
          · have gS : gq S13 179 (c_dn (c_us w st) j) = gq (sq S 179 (c_dn (c_us w st) k) (some k)) 179 (c_dn (c_us w st) j) := by rw [e13, e10, e8]; rfl
            have iS : gi S13 180 (c_dn (c_us w st) j) = gi (si S8 180 (c_dn (c_us w st) k) 0) 180 (c_dn (c_us w st) j) := by rw [e13, gi_off (by omega), e10]
            rw [gS, iS]
            by_cases e : j = k
            · rw [e, gq_at, gi_at]; exact ⟨rfl, rfl⟩
            · have ne : c_dn (c_us w st) j ≠ c_dn (c_us w st) k := fun z => e (c_dn_inj (n := n) uj hu z)
              have := hj j (by omega) uj
              rw [gq_off (by omega), gi_off (by omega), e8]
              exact this
        show pc (f_Setter_takeDone_7_b w (f_Setter_takeDone_7 w n2) S (m_dn st k : Int)) _
        unfold f_Setter_takeDone_7_b
        rw [if_neg (by omega)]
        refine pc_if (fun c8 => take ?_) (fun c8 => pc_if (fun cb => ?_) (fun cb => take ?_))
        · unfold c_us
          rw [if_pos ⟨s0, fun z => by omega⟩]
        · unfold f_Setter_takeDone_35
          rw [w_b1_is dnr, w_b1_is fnd, if_neg (by decide)]
          refine skip (fun hu => ?_)
          exact (c_us_1 hu).2 ⟨by omega, cb⟩
        · unfold c_us
          rw [if_pos ⟨s0, fun z => cb z.2⟩]
    · have dn : m_dn st (k + 1) = m_dn st k := by rw [m_dn, if_neg s0]; rfl
      have hu : c_us w st k ≠ 1 := fun z => s0 (c_us_1 z).1
      rw [← dn]
      refine ih (k + 1) n2 S (by omega) hF (by rw [c_dn_0 hu]; exact h2) (fun j hj' uj => ?_)
      by_cases e : j = k
      · rw [e] at uj; exact absurd uj hu
      · exact hj j (by omega) uj
theorem pc_take (S : SS) (w : Int) (st : Nat → Int) (n : Nat) (hn : n ≤ 40) (hq : ∀ k, k < 40 → gq S 11 k = some k) (h3 : gi S 10 3 = (n : Int)) (h5 : gi S 10 5 = (m_dn st n : Int)) (hd : ∀ j, j < n → st j = 0 → gi S 13 (m_dn st j) = (j : Int)) : pc (f_Setter_takeDone S w) (fun S1 => TKF S S1 ∧ TKN S1 (c_us w st) n) := by
  unfold f_Setter_takeDone
  refine pc_lt (fun S1 e1 => ?_)
  exact ctake_loop S w st n hn hq h3 h5 hd n 0 FU S1 (by omega) ⟨fun r k a d => by rw [e1, gi_off d], by rw [e1]; rfl, fun r k _ => by rw [e1]; rfl⟩ (by rw [e1, gi_at]; rfl) (fun j hj => absurd hj (Nat.not_lt_zero j))
/-- marks that are alike as far as they are used -/
def q_al (M M' : q_MK) (n : Nat) : Prop := ∀ k, k < n → (q_us M k = 1 ↔ q_us M' k = 1) ∧ (q_us M k = 1 → q_kd M k = q_kd M' k ∧ q_lo M k = q_lo M' k ∧ q_hi M k = q_hi M' k ∧ q_mi M k = q_mi M' k ∧ q_gp M k = q_gp M' k)
theorem q_al_symm {M M' : q_MK} {n : Nat} (h : q_al M M' n) : q_al M' M n := fun k hk => by
  obtain ⟨a, b⟩ := h k hk
  refine ⟨a.symm, fun u => ?_⟩
  obtain ⟨b1, b2, b3, b4, b5⟩ := b (a.2 u)
  exact ⟨b1.symm, b2.symm, b3.symm, b4.symm, b5.symm⟩
theorem q_om_al {M M' : q_MK} {n : Nat} (h : q_al M M' n) (high mv i : Int) : ∀ k, k ≤ n → q_om M high mv i k = q_om M' high mv i k := by
  intro k
  induction k with
  | zero => intro _; rfl
  | succ k ih =>
    intro hk
    have ih := ih (by omega)
    obtain ⟨a, b⟩ := h k (by omega)
    have sp := q_om_spec M high mv i k
    rw [q_om_succ, q_om_succ, ← ih]
    have key : (q_cand M high mv i k ∧ (q_om M high mv i k = -1 ∨ q_hi M (q_om M high mv i k).toNat < q_hi M k ∨ (q_hi M (q_om M high mv i k).toNat = q_hi M k ∧ q_kd M k = 4))) ↔ (q_cand M' high mv i k ∧ (q_om M high mv i k = -1 ∨ q_hi M' (q_om M high mv i k).toNat < q_hi M' k ∨ (q_hi M' (q_om M high mv i k).toNat = q_hi M' k ∧ q_kd M' k = 4))) := by
      by_cases u : q_us M k = 1
      · obtain ⟨b1, b2, b3, b4, b5⟩ := b u
        have u' := a.1 u
        unfold q_cand
        rw [b1, b2, b3]
        have e : q_om M high mv i k = -1 ∨ q_hi M (q_om M high mv i k).toNat = q_hi M' (q_om M high mv i k).toNat := by
          rcases sp with ⟨e0, _⟩ | ⟨m, hm, e0, c0, _⟩
          · exact .inl e0
          · right
            rw [e0, Int.toNat_natCast]
            exact ((h m (by omega)).2 c0.1).2.2.1
        rcases e with e | e
        · constructor
          · rintro ⟨⟨_, w2, w3, w4, w5⟩, _⟩; exact ⟨⟨u', w2, w3, w4, w5⟩, .inl e⟩
          · rintro ⟨⟨_, w2, w3, w4, w5⟩, _⟩; exact ⟨⟨u, w2, w3, w4, w5⟩, .inl e⟩
        · rw [e]
          constructor
          · rintro ⟨⟨_, w2, w3, w4, w5⟩, w⟩; exact ⟨⟨u', w2, w3, w4, w5⟩, w⟩
          · rintro ⟨⟨_, w2, w3, w4, w5⟩, w⟩; exact ⟨⟨u, w2, w3, w4, w5⟩, w⟩
      · constructor
        · rintro ⟨w, _⟩; exact absurd w.1 u
        · rintro ⟨w, _⟩; exact absurd (a.2 w.1) u
    by_cases c : q_cand M high mv i k ∧ (q_om M high mv i k = -1 ∨ q_hi M (q_om M high mv i k).toNat < q_hi M k ∨ (q_hi M (q_om M high mv i k).toNat = q_hi M k ∧ q_kd M k = 4))
    · rw [if_pos c, if_pos (key.1 c)]
    · rw [if_neg c, if_neg (fun w => c (key.2 w))]
theorem q_gap_al {M M' : q_MK} {n : Nat} (h : q_al M M' n) {rk rk' : Int → Int → Int → List Nat} (hr : ∀ a b m, rk a b m = rk' a b m) (g : Int) : ∀ c k, k + c ≤ n → q_gap M rk g c k = q_gap M' rk' g c k := by
  intro c
  induction c with
  | zero => intro k _; rfl
  | succ c ih =>
    intro k hk
    obtain ⟨a, b⟩ := h k (by omega)
    rw [q_gap, q_gap, ih (k + 1) (by omega)]
    by_cases u : q_us M k = 1
    · obtain ⟨b1, b2, b3, b4, b5⟩ := b u
      rw [b1, b2, b3, b5, hr]
      by_cases cg : q_gp M' k = g
      · rw [if_pos (show q_us M k = 1 ∧ q_gp M' k = g from ⟨u, cg⟩), if_pos (show q_us M' k = 1 ∧ q_gp M' k = g from ⟨a.1 u, cg⟩)]
      · rw [if_neg (show ¬ (q_us M k = 1 ∧ q_gp M' k = g) from fun w => cg w.2), if_neg (show ¬ (q_us M' k = 1 ∧ q_gp M' k = g) from fun w => cg w.2)]
    · rw [if_neg (show ¬ (q_us M k = 1 ∧ q_gp M k = g) from fun w => u w.1), if_neg (show ¬ (q_us M' k = 1 ∧ q_gp M' k = g) from fun w => u (a.2 w.1))]
theorem q_loop_al {M M' : q_MK} {n : Nat} (h : q_al M M' n) {rk rk' : Int → Int → Int → List Nat} (hr : ∀ a b m, rk a b m = rk' a b m) (low high mv : Int) : ∀ c i, q_loop M n rk low high mv c i = q_loop M' n rk' low high mv c i := by
  intro c
  induction c with
  | zero => intro i; rfl
  | succ c ih =>
    intro i
    rw [q_loop, q_loop, q_gap_al h hr i n 0 (by omega), ih (i + 1), ← q_om_al h high mv i n (Nat.le_refl _)]
    rcases q_om_spec M high mv i n with ⟨e0, _⟩ | ⟨m, hm, e0, c0, _⟩
    · rw [if_pos e0, if_pos e0]
    · obtain ⟨b1, b2, b3, b4, b5⟩ := (h m hm).2 c0.1
      have ne : ¬ q_om M high mv i n = -1 := by omega
      rw [if_neg ne, if_neg ne, e0, Int.toNat_natCast, b3, ih]
      unfold q_pc
      rw [b1, b2, b3, b4, hr, hr]
theorem q_row_al {M M' : q_MK} {n : Nat} (h : q_al M M' n) : ∀ d a b m, q_row M n d a b m = q_row M' n d a b m := by
  intro d
  induction d with
  | zero => intro a b m; rfl
  | succ d ih => intro a b m; exact q_loop_al h ih a b m 100 a
theorem q_all_al {M M' : q_MK} {n : Nat} (h : q_al M M' n) (F : Int) : q_all M n F = q_all M' n F := by
  unfold q_all
  rw [q_gap_al h (q_row_al h 43) 0 n 0 (by omega), q_gap_al h (q_row_al h 43) F n 0 (by omega), q_row_al h 43]
theorem q_good_al {M M' : q_MK} {n : Nat} (h : q_al M M' n) {F : Int} (G : q_good M n F) : q_good M' n F := by
  refine ⟨fun k hk u => ?_, fun k o hk ho ne uk uo => ?_⟩
  · obtain ⟨a, b⟩ := h k hk
    have v := G.1 k hk (a.2 u)
    obtain ⟨b1, b2, b3, b4, b5⟩ := b (a.2 u)
    unfold q_val at v ⊢
    rw [← b1, ← b2, ← b3, ← b4, ← b5]
    exact v
  · have ak := (h k hk).1.2 uk
    have ao := (h o ho).1.2 uo
    exact (wi_eq ((h k hk).2 ak) ((h o ho).2 ao)).2.1 (G.2 k o hk ho ne ak ao)
/-- words of a token -/
def w_from (f : Nat → Int64) : Nat → Nat → List Int64
  | 0, _ => []
  | c + 1, i => f i :: w_from f c (i + 1)
theorem w_from_len (f : Nat → Int64) : ∀ c i, (w_from f c i).length = c := by
  intro c
  induction c with
  | zero => intro i; rfl
  | succ c ih => intro i; rw [w_from, List.length_cons, ih]
theorem w_from_cg {f g : Nat → Int64} : ∀ c i, (∀ j, i ≤ j → j < i + c → f j = g j) → w_from f c i = w_from g c i := by
  intro c
  induction c with
  | zero => intro i _; rfl
  | succ c ih => intro i h; rw [w_from, w_from, h i (by omega) (by omega), ih (i + 1) (fun j a b => h j (by omega) (by omega))]
/-- a row of longs holds a list -/
def HL (f : Nat → Int64) (n : Int) (L : List Int64) : Prop := n = (L.length : Int) ∧ ∀ i, i < L.length → L[i]? = some (f i)
theorem HL_nil (f : Nat → Int64) : HL f 0 [] := ⟨rfl, fun i h => absurd h (Nat.not_lt_zero i)⟩
theorem HL_add {f g : Nat → Int64} {n m : Int} {L : List Int64} {w : Int64} (h : HL f n L) (hm : m = n + 1) (hg : ∀ i, i ≠ n.toNat → g i = f i) (hw : g n.toNat = w) : HL g m (L ++ [w]) := by
  obtain ⟨h1, h2⟩ := h
  have e : n.toNat = L.length := by omega
  refine ⟨by rw [List.length_append]; show m = ((L.length + 1 : Nat) : Int); omega, fun i hi => ?_⟩
  rw [List.length_append] at hi
  have hi : i < L.length + 1 := hi
  by_cases c : i < L.length
  · rw [List.getElem?_append_left c, hg i (by omega)]; exact h2 i c
  · have ei : i = L.length := by omega
    rw [ei, List.getElem?_append_right (Nat.le_refl _), Nat.sub_self, ← e, hw]; rfl
theorem HL_eq {f g : Nat → Int64} {n m : Int} {L : List Int64} (h : HL f n L) (h' : HL g m L) : n = m ∧ ∀ i : Nat, (i : Int) < n → f i = g i := by
  refine ⟨h.1.trans h'.1.symm, fun i hi => ?_⟩
  have hi : i < L.length := by have := h.1; omega
  exact Option.some.inj ((h.2 i hi).symm.trans (h'.2 i hi))
theorem HL_cg {f g : Nat → Int64} {n m : Int} {L : List Int64} (h : HL f n L) (e : m = n) (hg : ∀ i : Nat, (i : Int) < n → g i = f i) : HL g m L := ⟨by rw [e]; exact h.1, fun i hi => by rw [hg i (by have := h.1; omega)]; exact h.2 i hi⟩
/-- the words of tokens -/
def w_toks (W : Nat → List Int64) : List Nat → List Int64
  | [] => []
  | t :: L => W t ++ w_toks W L
theorem w_toks_cg {W V : Nat → List Int64} : ∀ L : List Nat, (∀ t, t ∈ L → W t = V t) → w_toks W L = w_toks V L := by
  intro L
  induction L with
  | nil => intro _; rfl
  | cons t L ih => intro h; rw [w_toks, w_toks, h t List.mem_cons_self, ih (fun x hx => h x (List.mem_cons_of_mem _ hx))]
def c_wl (S : SS) (t : Nat) : List Int64 := if t < 60 then [gl S 5 t] else w_from (gl S (14 + 4 * (t - 60) + 3)) (gi S (14 + 4 * (t - 60) + 2) 1).toNat 0
def m_wl (T : SS) (t : Nat) : List Int64 := if t < 60 then [gl T 193 t] else w_from (fun i => gl T 206 (6 * (t - 60) + i)) (gi T 204 (t - 60)).toNat 0
theorem c_put_HL {q : Nat} {S : SS} {L : List Int64} {w : Int64} (h : HL (gl S (q + 1)) (gi S q 1) L) : HL (gl (c_put q S w) (q + 1)) (gi (c_put q S w) q 1) (L ++ [w]) := by
  refine HL_add h (by unfold c_put; rw [gi_at]) (fun i hi => ?_) ?_
  · show gl (sl S (q + 1) (gi S q 1).toNat w) (q + 1) i = _
    rw [gl_slN, if_neg (fun z => hi z.2)]
  · show gl (sl S (q + 1) (gi S q 1).toNat w) (q + 1) _ = _
    rw [gl_slN, if_pos ⟨rfl, rfl⟩]
theorem c_pws_HL {q j : Nat} (hj : 14 + 4 * j + 3 ≠ q + 1) : ∀ (c i : Nat) (S : SS) (L : List Int64), HL (gl S (q + 1)) (gi S q 1) L → HL (gl (c_pws q j c i S) (q + 1)) (gi (c_pws q j c i S) q 1) (L ++ w_from (gl S (14 + 4 * j + 3)) c i) := by
  intro c
  induction c with
  | zero => intro i S L h; rw [w_from, List.append_nil]; exact h
  | succ c ih =>
    intro i S L h
    have I := ih (i + 1) (c_put q S (gl S (14 + 4 * j + 3) i)) _ (c_put_HL (w := gl S (14 + 4 * j + 3) i) h)
    have e : w_from (gl (c_put q S (gl S (14 + 4 * j + 3) i)) (14 + 4 * j + 3)) c (i + 1) = w_from (gl S (14 + 4 * j + 3)) c (i + 1) := w_from_cg c (i + 1) (fun k _ _ => (c_put_fp q S _).2.1 _ k hj)
    rw [e, List.append_assoc] at I
    exact I
theorem c_tok_HL {q : Nat} (hq : qok q) {t : Nat} (ht : t < 100) (S : SS) {L : List Int64} (h : HL (gl S (q + 1)) (gi S q 1) L) : HL (gl (c_tok q S t) (q + 1)) (gi (c_tok q S t) q 1) (L ++ c_wl S t) := by
  unfold c_tok c_wl
  by_cases e : t < 60
  · rw [if_pos e, if_pos e]; exact c_put_HL h
  · rw [if_neg e, if_neg e]; exact c_pws_HL (by omega) _ 0 S L h
theorem c_wl_fp {q : Nat} (hq : qok q) {S S1 : SS} (h : c_fp q S S1) {t : Nat} (ht : t < 100) : c_wl S1 t = c_wl S t := by
  unfold c_wl
  by_cases e : t < 60
  · rw [if_pos e, if_pos e, h.2.1 5 t (by omega)]
  · rw [if_neg e, if_neg e, h.1 (14 + 4 * (t - 60) + 2) 1 (by omega)]
    exact w_from_cg _ 0 (fun j _ _ => h.2.1 _ j (by omega))
theorem c_toks_HL {q : Nat} (hq : qok q) : ∀ (A : List Nat) (S : SS) (L : List Int64), (∀ t, t ∈ A → t < 100) → HL (gl S (q + 1)) (gi S q 1) L → HL (gl (c_toks q S A) (q + 1)) (gi (c_toks q S A) q 1) (L ++ w_toks (c_wl S) A) := by
  intro A
  induction A with
  | nil => intro S L _ h; rw [w_toks, List.append_nil]; exact h
  | cons t A ih =>
    intro S L hA h
    have I := ih (c_tok q S t) _ (fun x hx => hA x (List.mem_cons_of_mem _ hx)) (c_tok_HL hq (hA t List.mem_cons_self) S h)
    have e : w_toks (c_wl (c_tok q S t)) A = w_toks (c_wl S) A := w_toks_cg A (fun x hx => c_wl_fp hq (c_tok_fp q S t).1 (hA x (List.mem_cons_of_mem _ hx)))
    rw [e, List.append_assoc] at I
    exact I
theorem mt_put_HL {S : SS} {L : List Int64} {w : Int64} (h : HL (gl S 195) (gi S 192 5) L) : HL (gl (mt_put S w) 195) (gi (mt_put S w) 192 5) (L ++ [w]) := by
  refine HL_add h (by unfold mt_put; rw [gi_at]) (fun i hi => ?_) ?_
  · show gl (sl S 195 (gi S 192 5).toNat w) 195 i = _
    rw [gl_slN, if_neg (fun z => hi z.2)]
  · show gl (sl S 195 (gi S 192 5).toNat w) 195 _ = _
    rw [gl_slN, if_pos ⟨rfl, rfl⟩]
theorem mt_put_fp (S : SS) (w : Int64) : q_fp S (mt_put S w) := by
  refine ⟨fun r k h => ?_, fun r k h => ?_, rfl⟩
  · unfold mt_put; rw [gi_si, if_neg h]; rfl
  · show gl (sl S 195 _ w) r k = _
    rw [gl_slN, if_neg (fun z => h z.1)]
theorem m_pws_HL {k : Nat} : ∀ (c i : Nat) (S : SS) (L : List Int64), HL (gl S 195) (gi S 192 5) L → HL (gl (m_pws k c i S) 195) (gi (m_pws k c i S) 192 5) (L ++ w_from (fun i => gl S 206 (6 * k + i)) c i) ∧ q_fp S (m_pws k c i S) := by
  intro c
  induction c with
  | zero => intro i S L h; rw [w_from, List.append_nil]; exact ⟨h, q_fp_refl S⟩
  | succ c ih =>
    intro i S L h
    have I := ih (i + 1) (mt_put S (gl S 206 (6 * k + i))) _ (mt_put_HL (w := gl S 206 (6 * k + i)) h)
    have fp := mt_put_fp S (gl S 206 (6 * k + i))
    have e : w_from (fun j => gl (mt_put S (gl S 206 (6 * k + i))) 206 (6 * k + j)) c (i + 1) = w_from (fun j => gl S 206 (6 * k + j)) c (i + 1) := w_from_cg c (i + 1) (fun j _ _ => fp.2.1 206 _ (by decide))
    rw [e, List.append_assoc] at I
    exact ⟨I.1, q_fp_trans fp I.2⟩
theorem m_tok_HL (t : Nat) (S : SS) {L : List Int64} (h : HL (gl S 195) (gi S 192 5) L) : HL (gl (m_tok S t) 195) (gi (m_tok S t) 192 5) (L ++ m_wl S t) ∧ q_fp S (m_tok S t) := by
  unfold m_tok m_wl
  by_cases e : t < 60
  · rw [if_pos e, if_pos e]; exact ⟨mt_put_HL h, mt_put_fp S _⟩
  · rw [if_neg e, if_neg e]; exact m_pws_HL _ 0 S L h
theorem m_wl_fp {S S1 : SS} (h : q_fp S S1) (t : Nat) : m_wl S1 t = m_wl S t := by
  unfold m_wl
  by_cases e : t < 60
  · rw [if_pos e, if_pos e, h.2.1 193 t (by decide)]
  · rw [if_neg e, if_neg e, h.1 204 (t - 60) (by omega)]
    exact w_from_cg _ 0 (fun j _ _ => h.2.1 206 _ (by decide))
theorem m_toks_HL : ∀ (A : List Nat) (S : SS) (L : List Int64), HL (gl S 195) (gi S 192 5) L → HL (gl (m_toks S A) 195) (gi (m_toks S A) 192 5) (L ++ w_toks (m_wl S) A) := by
  intro A
  induction A with
  | nil => intro S L h; rw [w_toks, List.append_nil]; exact h
  | cons t A ih =>
    intro S L h
    have T := m_tok_HL t S h
    have I := ih (m_tok S t) _ T.1
    have e : w_toks (m_wl (m_tok S t)) A = w_toks (m_wl S) A := w_toks_cg A (fun x _ => m_wl_fp T.2 x)
    rw [e, List.append_assoc] at I
    exact I
/-- the reference's marks, those of the set w left out -/
noncomputable def q_mu (T : SS) (w : Int) : q_MK := fun j k => if j = 5 then m_us w (m_st T) k else q_md T j k
noncomputable def s_mu (T : SS) (w : Int) : SS := (fun r k => if r = 212 then m_st T k else if r = 214 then m_us w (m_st T) k else T.1 r k, T.2)
theorem al_mu {T S1 : SS} {w : Int} (h : ∀ r k, r = 199 ∨ r = 201 ∨ r = 202 ∨ r = 203 → gi S1 r k = gi T r k) (hu : ∀ j : Nat, (j : Int) < gi T 192 27 → gi S1 214 j = m_us w (m_st T) j) : q_al (q_md S1) (q_mu T w) (q_n T) := by
  intro k hk
  have hk : k < (gi T 192 27).toNat := hk
  refine ⟨?_, fun _ => ⟨?_, ?_, ?_, ?_, ?_⟩⟩
  · rw [md_us, hu k (by omega)]; exact Iff.rfl
  · show q_kd (q_md S1) k = q_kd (q_md T) k
    rw [md_kd, md_kd]; exact h 199 k (by omega)
  · show q_lo (q_md S1) k = q_lo (q_md T) k
    rw [md_lo, md_lo, h 199 k (by omega), h 201 k (by omega)]
  · show q_hi (q_md S1) k = q_hi (q_md T) k
    rw [md_hi, md_hi, h 199 k (by omega), h 202 k (by omega), h 203 k (by omega)]
  · show q_mi (q_md S1) k = q_mi (q_md T) k
    rw [md_mi, md_mi]; exact h 202 k (by omega)
  · show q_gp (q_md S1) k = q_gp (q_md T) k
    rw [md_gp, md_gp, h 199 k (by omega), h 201 k (by omega), h 203 k (by omega)]
theorem q_mu_good {T : SS} (h0 : 0 ≤ gi T 192 27) (hN : NX T) (w : Int) : q_good (q_mu T w) (q_n T) (gi T 192 3) := by
  have e : ∀ r k, r ≠ 212 → r ≠ 213 → r ≠ 214 → gi (s_mu T w) r k = gi T r k := fun r k a b c => by
    show (if r = 212 then m_st T k else if r = 214 then m_us w (m_st T) k else T.1 r k) = T.1 r k
    rw [if_neg a, if_neg c]
  have g := q_fu_good (S := T) (S1 := s_mu T w) (w := w) hN h0 ⟨rfl, e⟩ (fun j _ => ⟨rfl, rfl⟩)
  exact q_good_al (al_mu (fun r k a => e r k (by omega) (by omega) (by omega)) (fun j _ => rfl)) g
theorem q_bel_m {M : q_MK} {n : Nat} {F a b : Int} {t : Nat} (hb : b < F) (h : q_bel M n a b t) : (t < 60 ∧ (t : Int) < F) ∨ ∃ k, t = 60 + k ∧ k < n ∧ q_us M k = 1 := by
  rcases h with h | ⟨k, e, hk, hu, _⟩
  · exact .inl ⟨h.1, by omega⟩
  · exact .inr ⟨k, e, hk, hu⟩
/-- of what tokens the text is made -/
theorem q_all_mem {M : q_MK} {n : Nat} {F : Int} (G : q_good M n F) (hF : F ≤ 60) (hF0 : 0 ≤ F) {t : Nat} (ht : t ∈ q_all M n F) : (t < 60 ∧ (t : Int) < F) ∨ ∃ k, t = 60 + k ∧ k < n ∧ q_us M k = 1 := by
  have K := q_row_ok G hF 43
  have gp : ∀ g : Int, 0 ≤ g → t ∈ q_gap M (q_row M n 43) g n 0 → (t < 60 ∧ (t : Int) < F) ∨ ∃ k, t = 60 + k ∧ k < n ∧ q_us M k = 1 := by
    intro g hg h
    obtain ⟨j, _, hj, uj, gj, q⟩ := q_gap_mem n 0 t h
    have hj : j < n := by omega
    rcases q with q | q
    · exact .inr ⟨j, q.2, hj, uj⟩
    · have v := G.1 j hj uj
      unfold q_val at v
      have k4 : q_kd M j = 4 := by omega
      exact q_bel_m (by omega) ((K _ _ _ (q_reg_move G hj uj k4)).2 t q.2)
  unfold q_all at ht
  rcases List.mem_append.1 ht with h | h
  · exact gp 0 (Int.le_refl _) h
  · by_cases c : F = 0
    · rw [if_pos c] at h; exact absurd h (by simp)
    · rw [if_neg c] at h
      rcases List.mem_append.1 h with h | h
      · exact q_bel_m (by omega) ((K _ _ _ (q_reg_top G)).2 t h)
      · exact gp F hF0 h
/-- THE TEXT of the reference's marks without the set w -/
noncomputable def tx (T : SS) (w : Int) : List Int64 := w_toks (m_wl T) (q_all (q_mu T w) (q_n T) (gi T 192 3))
theorem tx_cg {T T1 : SS} (hM : MX 0 T) (hN : NX T) (w : Int) (hn : gi T1 192 27 = gi T 192 27) (h3 : gi T1 192 3 = gi T 192 3) (hs : ∀ k : Nat, (k : Int) < gi T 192 27 → m_st T1 k = m_st T k) (hm : ∀ r k : Nat, r = 199 ∨ r = 201 ∨ r = 202 ∨ r = 203 ∨ r = 204 → (k : Int) < gi T 192 27 → gi T1 r k = gi T r k) (hl : ∀ i : Nat, (i : Int) < gi T 192 3 → gl T1 193 i = gl T 193 i) (hw : ∀ k : Nat, (k : Int) < gi T 192 27 → ∀ j, j < 6 → gl T1 206 (6 * k + j) = gl T 206 (6 * k + j)) : tx T1 w = tx T w := by
  have b27 := mx_192_27 hM
  have b3 := mx_192_3 hM
  have G := q_mu_good b27.1 hN w
  have al : q_al (q_mu T w) (q_mu T1 w) (q_n T) := by
    intro k hk
    have hk : k < (gi T 192 27).toNat := hk
    have us : m_us w (m_st T1) k = m_us w (m_st T) k := by
      unfold m_us
      rw [hs k (by omega), m_dn_cg (a := m_st T1) (c := m_st T) k (fun j hj => hs j (by omega))]
    refine ⟨?_, fun _ => ⟨?_, ?_, ?_, ?_, ?_⟩⟩
    · show m_us w (m_st T) k = 1 ↔ m_us w (m_st T1) k = 1
      rw [us]
    · show q_kd (q_md T) k = q_kd (q_md T1) k
      rw [md_kd, md_kd, hm 199 k (by omega) (by omega)]
    · show q_lo (q_md T) k = q_lo (q_md T1) k
      rw [md_lo, md_lo, hm 199 k (by omega) (by omega), hm 201 k (by omega) (by omega)]
    · show q_hi (q_md T) k = q_hi (q_md T1) k
      rw [md_hi, md_hi, hm 199 k (by omega) (by omega), hm 202 k (by omega) (by omega), hm 203 k (by omega) (by omega)]
    · show q_mi (q_md T) k = q_mi (q_md T1) k
      rw [md_mi, md_mi, hm 202 k (by omega) (by omega)]
    · show q_gp (q_md T) k = q_gp (q_md T1) k
      rw [md_gp, md_gp, hm 199 k (by omega) (by omega), hm 201 k (by omega) (by omega), hm 203 k (by omega) (by omega)]
  unfold tx
  have en : q_n T1 = q_n T := by unfold q_n; rw [hn]
  rw [en, h3, ← q_all_al al]
  refine w_toks_cg _ (fun t ht => ?_)
  rcases q_all_mem G b3.2 b3.1 ht with q | ⟨k, e, hk, _⟩
  · unfold m_wl
    rw [if_pos q.1, if_pos q.1, hl t q.2]
  · have hk : k < (gi T 192 27).toNat := hk
    have b := mx_204 hM k
    unfold m_wl
    rw [if_neg (by omega), if_neg (by omega), show t - 60 = k by omega, hm 204 k (by omega) (by omega)]
    exact w_from_cg _ 0 (fun j _ hj => hw k (by omega) j (by omega))
/-- the reference's make lays it -/
theorem mk_text {T : SS} (hM : MX 0 T) (hN : NX T) (w : Int) : pc (f_M_make T w) (fun T1 => HL (gl T1 195) (gi T1 192 5) (tx T w) ∧ (∀ r k, r ≠ 212 → r ≠ 213 → r ≠ 214 → ¬ (r = 192 ∧ k = 5) → gi T1 r k = gi T r k) ∧ ∀ r k, r ≠ 195 → gl T1 r k = gl T r k) := by
  refine pc_mono (ok_true (ok_make T w hM hN)) (fun T1 h => ?_)
  obtain ⟨_, Su, ⟨b1, b2, b3, b4, b5, b6⟩, fp, e⟩ := h
  have al : q_al (q_md Su) (q_mu T w) (q_n T) := al_mu (fun r k a => b4 r k (by omega) (by omega) (by omega) (by omega)) (fun j hj => (b5 j hj).2)
  refine ⟨?_, fun r k a c d f => (fp.1 r k f).trans (b4 r k a c d f), fun r k a => (fp.2.1 r k a).trans (gl_2 b3 r k)⟩
  have X := m_toks_HL (q_all (q_md Su) (q_n T) (gi T 192 3)) Su [] (by rw [b2]; exact HL_nil _)
  rw [← e, List.nil_append, q_all_al al] at X
  have ew : w_toks (m_wl Su) (q_all (q_mu T w) (q_n T) (gi T 192 3)) = tx T w := by
    unfold tx
    refine w_toks_cg _ (fun t _ => ?_)
    unfold m_wl
    by_cases c : t < 60
    · rw [if_pos c, if_pos c, gl_2 b3]
    · rw [if_neg c, if_neg c, b4 204 _ (by omega) (by omega) (by omega) (by omega)]
      exact w_from_cg _ 0 (fun j _ _ => gl_2 b3 _ _)
  rw [ew] at X
  exact X
theorem w_toks_len {W : Nat → List Int64} {V : Nat → Nat} : ∀ L : List Nat, (∀ t, t ∈ L → V t = (W t).length) → q_wt V L = (w_toks W L).length := by
  intro L
  induction L with
  | nil => intro _; rfl
  | cons t L ih => intro h; rw [q_wt, w_toks, List.length_append, h t List.mem_cons_self, ih (fun x hx => h x (List.mem_cons_of_mem _ hx))]
theorem tx_len {T : SS} (hM : MX 0 T) (hN : NX T) (w : Int) : (tx T w).length ≤ 300 := by
  have b27 := mx_192_27 hM
  have b3 := mx_192_3 hM
  have G := q_mu_good b27.1 hN w
  have W := q_all_wt G b3.2 b3.1 (show (gi T 192 27).toNat ≤ 40 by omega) (fun t => (m_wl T t).length) (fun t ht => by unfold m_wl; rw [if_pos ht]; exact Nat.le_refl _) (fun t => by
    have := mx_204 hM (t - 60)
    unfold m_wl
    by_cases c : t < 60
    · rw [if_pos c]; show 1 ≤ 6; omega
    · rw [if_neg c, w_from_len]; omega)
  rw [w_toks_len (W := m_wl T) _ (fun t _ => rfl)] at W
  exact W
/-- words alike -/
def WF (S T : SS) : Prop := ∀ i : Nat, (i : Int) < gi T 192 3 → gl S 5 i = gl T 193 i
def WS (S T : SS) : Prop := ∀ i : Nat, (i : Int) < gi T 192 4 → gl S 7 i = gl T 194 i
def WM (S T : SS) : Prop := ∀ k : Nat, (k : Int) < gi T 192 27 → ∀ j : Nat, (j : Int) < gi T 204 k → gl S (14 + 4 * k + 3) j = gl T 206 (6 * k + j)
/-- the class's make lays the same text -/
theorem tx_make {q : Nat} (hq : qok q) {S T : SS} {u : Nat → Int} {w : Int} (hC : ∀ k, k < 40 → 0 ≤ gi S (14 + 4 * k + 2) 1 ∧ gi S (14 + 4 * k + 2) 1 ≤ 6) (hM : MX 0 T) (hN : NX T) (hK : ∀ k : Nat, (k : Int) < gi T 192 27 → MN S T k) (h4 : gi S 4 1 = gi T 192 3) (hu : ∀ k : Nat, (k : Int) < gi T 192 27 → (u k = 1 ↔ m_us w (m_st T) k = 1)) (hT : TKN S u (q_n T)) (hf : WF S T) (hm : WM S T) (hc : ((tx T w).length : Int) ≤ cap q) : pc (f_Setter_make S 4 q) (fun S1 => HL (gl S1 (q + 1)) (gi S1 q 1) (tx T w) ∧ (∀ r k, r ≠ q + 1 → gl S1 r k = gl S r k) ∧ (∀ r k, r ≠ 178 → gq S1 r k = gq S r k) ∧ ∀ r k, ¬ (r = q ∧ k = 1) → gi S1 r k = gi S r k) := by
  have b27 := mx_192_27 hM
  have b3 := mx_192_3 hM
  have G := q_mu_good b27.1 hN w
  have al : q_al (q_mu T w) (cu S u) (q_n T) := by
    intro k hk
    have hk : k < (gi T 192 27).toNat := hk
    refine ⟨(hu k (by omega)).symm, fun us => ?_⟩
    have us : m_us w (m_st T) k = 1 := us
    have s0 : m_st T k = 0 := by
      unfold m_us at us
      by_cases e : m_st T k = 0
      · exact e
      · rw [if_neg (fun z => e z.1)] at us; exact absurd us (by decide)
    have k5 := (m_st_ok T k hk (.inl s0)).1
    obtain ⟨e1, e2, e3, e4, e5⟩ := md_eq (hK k (by omega)) k5
    exact ⟨e1.symm, e2.symm, e3.symm, e4.symm, e5.symm⟩
  have G' := q_good_al al G
  have hn : q_n T ≤ 40 := by show (gi T 192 27).toNat ≤ 40; omega
  have eA := q_all_al al (gi T 192 3)
  have M := fun t ht => q_all_mem (t := t) G b3.2 b3.1 ht
  have eW : ∀ S', (∀ r k, ¬ (r = q ∧ k = 1) → gi S' r k = gi S r k) → (∀ r k, gl S' r k = gl S r k) → ∀ t, t ∈ q_all (q_mu T w) (q_n T) (gi T 192 3) → c_wl S' t = m_wl T t := by
    intro S' g1 g2 t ht
    rcases M t ht with z | ⟨k, e, hk, _⟩
    · unfold c_wl m_wl
      rw [if_pos z.1, if_pos z.1, g2, hf t z.2]
    · have hk : k < (gi T 192 27).toNat := hk
      have a6 := (hK k (by omega)).2.2.2.2.2.1
      unfold c_wl m_wl
      rw [if_neg (by omega), if_neg (by omega), show t - 60 = k by omega, g1 (14 + 4 * k + 2) 1 (by omega), a6]
      exact w_from_cg _ 0 (fun j _ hj => by rw [g2]; exact hm k (by omega) j (by omega))
  have wt : q_wt (c_W S) (q_all (cu S u) (q_n T) (gi T 192 3)) = (tx T w).length := by
    rw [← eA]
    unfold tx
    rw [← w_toks_cg (W := c_wl S) _ (eW S (fun _ _ _ => rfl) (fun _ _ => rfl))]
    refine w_toks_len _ (fun t _ => ?_)
    unfold c_W c_wl
    by_cases c : t < 60
    · rw [if_pos c, if_pos c]; rfl
    · rw [if_neg c, if_neg c, w_from_len]
  refine pc_mono (cset_make hq G' hn b3.1 b3.2 h4 hT hC (by rw [wt]; exact hc)) (fun S1 e => ?_)
  have gS : ∀ r k, ¬ (r = q ∧ k = 1) → gi (c_s4 S q) r k = gi S r k := fun r k a => by unfold c_s4; rw [gi_off a]; rfl
  have z0 : gi (c_s4 S q) q 1 = 0 := by unfold c_s4; exact gi_at _ _ _ _
  rw [← eA] at e
  have lt : ∀ t, t ∈ q_all (q_mu T w) (q_n T) (gi T 192 3) → t < 100 := (q_all_ok G b3.2 b3.1 hn).2
  have fp := (c_toks_fp hq (q_all (q_mu T w) (q_n T) (gi T 192 3)) (c_s4 S q) (fun t ht => by have := lt t ht; omega)).1
  have X := c_toks_HL hq (q_all (q_mu T w) (q_n T) (gi T 192 3)) (c_s4 S q) [] lt (by rw [z0]; exact HL_nil _)
  rw [List.nil_append, w_toks_cg _ (eW (c_s4 S q) gS (fun _ _ => rfl)), ← e] at X
  rw [← e] at fp
  refine ⟨X, fun r k a => fp.2.1 r k a, fun r k a => ?_, fun r k a => (fp.1 r k a).trans (gS r k a)⟩
  have : gq S1 r k = gq (c_s4 S q) r k := by unfold gq; rw [fp.2.2]
  rw [this]
  unfold c_s4
  show gq (sq (sq S 178 3 (some 4)) 178 4 (some q)) r k = _
  rw [gq_off (by omega), gq_off (by omega)]
/-- all longs stay but of the rows X; the sheet that the setter sets into stays -/
def LX (X : Nat → Prop) (S0 S : SS) : Prop := (∀ r k, ¬ X r → gl S r k = gl S0 r k) ∧ gq S 178 4 = gq S0 178 4
theorem LX_refl (X : Nat → Prop) (S : SS) : LX X S S := ⟨fun _ _ _ => rfl, rfl⟩
theorem LX_si {X : Nat → Prop} {S0 S : SS} {r k : Nat} {v : Int} (h : LX X S0 S) : LX X S0 (si S r k v) := h
theorem LX_sl {X : Nat → Prop} {S0 S : SS} {r k : Nat} {v : Int64} (h : LX X S0 S) (hx : X r) : LX X S0 (sl S r k v) := ⟨fun r' k' a => by rw [gl_slN, if_neg (fun q => a (by rw [q.1]; exact hx))]; exact h.1 r' k' a, h.2⟩
theorem LX_sq {X : Nat → Prop} {S0 S : SS} {r k : Nat} {v : Option Nat} (h : LX X S0 S) (hx : ¬ (178 = r ∧ 4 = k)) : LX X S0 (sq S r k v) := ⟨h.1, by rw [gq_off hx]; exact h.2⟩
theorem xl_lt {β : Type} {X : Nat → Prop} {S0 S : SS} {r k : Nat} {v : Int} {g : SS → Option β} {P : β → Prop} (h : LX X S0 S) (hk : ∀ y, LX X S0 y → pc (g y) P) : pc (w_lt (si S r k v) g) P := hk _ (LX_si h)
theorem xl_lts {β : Type} {X : Nat → Prop} {S0 S : SS} {r k : Nat} {v : Int64} {g : SS → Option β} {P : β → Prop} (h : LX X S0 S) (hx : X r) (hk : ∀ y, LX X S0 y → pc (g y) P) : pc (w_lt (sl S r k v) g) P := hk _ (LX_sl h hx)
theorem xl_ltq {β : Type} {X : Nat → Prop} {S0 S : SS} {r k : Nat} {v : Option Nat} {g : SS → Option β} {P : β → Prop} (h : LX X S0 S) (hx : ¬ (178 = r ∧ 4 = k)) (hk : ∀ y, LX X S0 y → pc (g y) P) : pc (w_lt (sq S r k v) g) P := hk _ (LX_sq h hx)
theorem xl_let {β : Type} {X : Nat → Prop} {S0 x : SS} {g : SS → Option β} {P : β → Prop} (h : LX X S0 x) (hk : ∀ y, LX X S0 y → pc (g y) P) : pc (w_lt x g) P := hk _ h
theorem lx_Fault_clear {X : Nat → Prop} {S0 : SS} : ∀ S, LX X S0 S → LX X S0 (f_Fault_clear S) := fun S h => h
theorem lx_Sheet_clear {X : Nat → Prop} {S0 : SS} : ∀ S q0, LX X S0 S → LX X S0 (f_Sheet_clear S q0) := fun S q0 h => h
theorem lx_Pile_clear {X : Nat → Prop} {S0 : SS} : ∀ S, LX X S0 S → LX X S0 (f_Pile_clear S) := fun S h => h
theorem lx_Mark_voidByStet {X : Nat → Prop} {S0 : SS} : ∀ S j v, j < 40 → LX X S0 S → LX X S0 (f_Mark_voidByStet S j v) := by
  intro S j v hj h
  unfold f_Mark_voidByStet
  by_cases c : gi S (14 + 4 * j) 8 = 0
  · rw [if_pos c]; exact h
  · rw [if_neg c]; exact h
set_option maxHeartbeats 4000000 in
theorem lx_Fault_tellOf {X : Nat → Prop} {S0 : SS}  : ∀ (S : SS) (v1 : Int) (v2 : Int), LX X S0 S → pc (f_Fault_tellOf S v1 v2) (fun u => LX X S0 u.2) := by
  intro S v1 v2 h
  unfold f_Fault_tellOf
  repeat' first | with_reducible exact pc_some (by assumption) | with_reducible exact pc_none | with_reducible refine pc_chk (fun _ => ?_) | with_reducible refine pc_if (fun _ => ?_) (fun _ => ?_) | with_reducible refine pc_on ?_ (fun _ _ => ?_) | with_reducible refine xl_lt (by assumption) (fun _ _ => ?_) | with_reducible refine xl_ltq (by assumption) (by omega) (fun _ _ => ?_) | with_reducible refine pf_b1 (fun _ => ?_) | with_reducible refine xf_ltv (fun _ => ?_)
set_option maxHeartbeats 4000000 in
theorem lxl_Tape_addFour_3 {X : Nat → Prop} {S0 : SS}  (v1 : Int)  : ∀ (n : Nat) (S : SS) (v2_ : Int), LX X S0 S → pc (f_Tape_addFour_3 v1 n S v2_) (LX X S0) := by
  intro n
  induction n with
  | zero => intro S v2_ h r e; exact absurd e (by simp [f_Tape_addFour_3])
  | succ n ih =>
    intro S v2_ h
    show pc (f_Tape_addFour_3_b v1 (f_Tape_addFour_3 v1 n) S v2_) _
    unfold f_Tape_addFour_3_b
    repeat' first | with_reducible exact ih _ _ (by assumption) | with_reducible unfold f_Tape_addFour_49 | with_reducible exact pc_some (by assumption) | with_reducible exact pc_none | with_reducible refine pc_chk (fun _ => ?_) | with_reducible refine pc_if (fun _ => ?_) (fun _ => ?_) | with_reducible refine pc_on ?_ (fun _ _ => ?_) | with_reducible refine xl_lt (by assumption) (fun _ _ => ?_) | with_reducible refine xl_ltq (by assumption) (by omega) (fun _ _ => ?_) | with_reducible refine pf_b1 (fun _ => ?_) | with_reducible refine xf_ltv (fun _ => ?_)
set_option maxHeartbeats 4000000 in
theorem lx_Tape_addFour {X : Nat → Prop} {S0 : SS}  : ∀ (S : SS) (v1 : Int), LX X S0 S → pc (f_Tape_addFour S v1) (LX X S0) := by
  intro S v1 h
  unfold f_Tape_addFour
  repeat' first | with_reducible exact lxl_Tape_addFour_3  _ FU _ _ (by assumption) | with_reducible unfold f_Tape_addFour_49 | with_reducible exact pc_some (by assumption) | with_reducible exact pc_none | with_reducible refine pc_chk (fun _ => ?_) | with_reducible refine pc_if (fun _ => ?_) (fun _ => ?_) | with_reducible refine pc_on ?_ (fun _ _ => ?_) | with_reducible refine xl_lt (by assumption) (fun _ _ => ?_) | with_reducible refine xl_ltq (by assumption) (by omega) (fun _ _ => ?_) | with_reducible refine pf_b1 (fun _ => ?_) | with_reducible refine xf_ltv (fun _ => ?_)
set_option maxHeartbeats 4000000 in
theorem lx_Sheet_add {X : Nat → Prop} {S0 : SS}  {q0 : Nat} (x_q0 : X (q0 + 1)) : ∀ (S : SS) (w1 : Int64), LX X S0 S → pc (f_Sheet_add S q0 w1) (LX X S0) := by
  intro S w1 h
  unfold f_Sheet_add
  repeat' first | with_reducible exact pc_some (by assumption) | with_reducible exact pc_none | with_reducible refine pc_chk (fun _ => ?_) | with_reducible refine pc_if (fun _ => ?_) (fun _ => ?_) | with_reducible refine pc_on ?_ (fun _ _ => ?_) | with_reducible refine xl_lt (by assumption) (fun _ _ => ?_) | with_reducible refine xl_lts (by assumption) (by first | exact x_q0) (fun _ _ => ?_) | with_reducible refine xl_ltq (by assumption) (by omega) (fun _ _ => ?_) | with_reducible refine pf_b1 (fun _ => ?_) | with_reducible refine xf_ltv (fun _ => ?_)
set_option maxHeartbeats 4000000 in
theorem lxl_Sheet_addAll_2 {X : Nat → Prop} {S0 : SS}  {q0 : Nat} (x_q0 : X (q0 + 1)) (q1 : Nat)  : ∀ (n : Nat) (S : SS) (v2_ : Int), LX X S0 S → pc (f_Sheet_addAll_2 q0 q1 n S v2_) (LX X S0) := by
  intro n
  induction n with
  | zero => intro S v2_ h r e; exact absurd e (by simp [f_Sheet_addAll_2])
  | succ n ih =>
    intro S v2_ h
    show pc (f_Sheet_addAll_2_b q0 q1 (f_Sheet_addAll_2 q0 q1 n) S v2_) _
    unfold f_Sheet_addAll_2_b
    repeat' first | with_reducible exact ih _ _ (by assumption) | with_reducible exact pc_some (by assumption) | with_reducible exact pc_none | with_reducible refine pc_chk (fun _ => ?_) | with_reducible refine pc_if (fun _ => ?_) (fun _ => ?_) | with_reducible refine pc_on ?_ (fun _ _ => ?_) | with_reducible refine pc_b1 (lx_Sheet_add (x_q0 := (by first | exact x_q0)) _ _ (by assumption)) (fun _ _ => ?_) | with_reducible refine xl_lt (by assumption) (fun _ _ => ?_) | with_reducible refine xl_lts (by assumption) (by first | exact x_q0) (fun _ _ => ?_) | with_reducible refine xl_ltq (by assumption) (by omega) (fun _ _ => ?_) | with_reducible refine pf_b1 (fun _ => ?_) | with_reducible refine xf_ltv (fun _ => ?_)
set_option maxHeartbeats 4000000 in
theorem lx_Sheet_addAll {X : Nat → Prop} {S0 : SS}  {q0 : Nat} (x_q0 : X (q0 + 1)) : ∀ (S : SS) (q1 : Nat), LX X S0 S → pc (f_Sheet_addAll S q0 q1) (LX X S0) := by
  intro S q1 h
  unfold f_Sheet_addAll
  repeat' first | with_reducible exact lxl_Sheet_addAll_2 (x_q0 := x_q0) _ FU _ _ (by assumption) | with_reducible exact pc_some (by assumption) | with_reducible exact pc_none | with_reducible refine pc_chk (fun _ => ?_) | with_reducible refine pc_if (fun _ => ?_) (fun _ => ?_) | with_reducible refine pc_on ?_ (fun _ _ => ?_) | with_reducible refine pc_b1 (lx_Sheet_add (x_q0 := (by first | exact x_q0)) _ _ (by assumption)) (fun _ _ => ?_) | with_reducible refine xl_lt (by assumption) (fun _ _ => ?_) | with_reducible refine xl_lts (by assumption) (by first | exact x_q0) (fun _ _ => ?_) | with_reducible refine xl_ltq (by assumption) (by omega) (fun _ _ => ?_) | with_reducible refine pf_b1 (fun _ => ?_) | with_reducible refine xf_ltv (fun _ => ?_)
set_option maxHeartbeats 4000000 in
theorem lx_Sheet_copyFrom {X : Nat → Prop} {S0 : SS}  {q0 : Nat} (x_q0 : X (q0 + 1)) : ∀ (S : SS) (q1 : Nat), LX X S0 S → pc (f_Sheet_copyFrom S q0 q1) (LX X S0) := by
  intro S q1 h
  unfold f_Sheet_copyFrom
  repeat' first | with_reducible exact pc_some (by assumption) | with_reducible exact pc_none | with_reducible refine pc_chk (fun _ => ?_) | with_reducible refine pc_if (fun _ => ?_) (fun _ => ?_) | with_reducible refine pc_on ?_ (fun _ _ => ?_) | with_reducible refine xl_let (lx_Sheet_clear  _ _ (by assumption)) (fun _ _ => ?_) | with_reducible refine pc_b1 (lx_Sheet_addAll (x_q0 := (by first | exact x_q0)) _ _ (by assumption)) (fun _ _ => ?_) | with_reducible refine xl_lt (by assumption) (fun _ _ => ?_) | with_reducible refine xl_lts (by assumption) (by first | exact x_q0) (fun _ _ => ?_) | with_reducible refine xl_ltq (by assumption) (by omega) (fun _ _ => ?_) | with_reducible refine pf_b1 (fun _ => ?_) | with_reducible refine xf_ltv (fun _ => ?_)
set_option maxHeartbeats 4000000 in
theorem lx_Bill_setPrice {X : Nat → Prop} {S0 : SS}  : ∀ (S : SS) (v1 : Int) (v2 : Int), LX X S0 S → pc (f_Bill_setPrice S v1 v2) (fun u => LX X S0 u.2) := by
  intro S v1 v2 h
  unfold f_Bill_setPrice
  repeat' first | with_reducible exact pc_some (by assumption) | with_reducible exact pc_none | with_reducible refine pc_chk (fun _ => ?_) | with_reducible refine pc_if (fun _ => ?_) (fun _ => ?_) | with_reducible refine pc_on ?_ (fun _ _ => ?_) | with_reducible refine xl_lt (by assumption) (fun _ _ => ?_) | with_reducible refine xl_ltq (by assumption) (by omega) (fun _ _ => ?_) | with_reducible refine pf_b1 (fun _ => ?_) | with_reducible refine xf_ltv (fun _ => ?_)
set_option maxHeartbeats 4000000 in
theorem lxl_Pile_accept_30 {X : Nat → Prop} {S0 : SS}    : ∀ (n : Nat) (S : SS) (v1_ : Int) (v2_ : Int), LX X S0 S → pc (f_Pile_accept_30  n S v1_ v2_) (fun u => LX X S0 u.2) := by
  intro n
  induction n with
  | zero => intro S v1_ v2_ h r e; exact absurd e (by simp [f_Pile_accept_30])
  | succ n ih =>
    intro S v1_ v2_ h
    show pc (f_Pile_accept_30_b (f_Pile_accept_30 n) S v1_ v2_) _
    unfold f_Pile_accept_30_b
    repeat' first | with_reducible exact ih _ _ _ (by assumption) | with_reducible unfold f_Pile_accept_81 | with_reducible exact pc_some (by assumption) | with_reducible exact pc_none | with_reducible refine pc_chk (fun _ => ?_) | with_reducible refine pc_if (fun _ => ?_) (fun _ => ?_) | with_reducible refine pc_on ?_ (fun _ _ => ?_) | with_reducible refine xl_let (lx_Mark_voidByStet  _ _ _ (by omega) (by assumption)) (fun _ _ => ?_) | with_reducible refine xl_lt (by assumption) (fun _ _ => ?_) | with_reducible refine xl_ltq (by assumption) (by omega) (fun _ _ => ?_) | with_reducible refine pf_b1 (fun _ => ?_) | with_reducible refine xf_ltv (fun _ => ?_)
set_option maxHeartbeats 4000000 in
theorem lx_Pile_accept {X : Nat → Prop} {S0 : SS}  : ∀ (S : SS) , LX X S0 S → pc (f_Pile_accept S ) (fun u => LX X S0 u.2) := by
  intro S h
  unfold f_Pile_accept
  repeat' first | with_reducible exact lxl_Pile_accept_30  FU _ _ _ (by assumption) | with_reducible unfold f_Pile_accept_81 | with_reducible exact pc_some (by assumption) | with_reducible exact pc_none | with_reducible refine pc_chk (fun _ => ?_) | with_reducible refine pc_if (fun _ => ?_) (fun _ => ?_) | with_reducible refine pc_on ?_ (fun _ _ => ?_) | with_reducible refine xl_let (lx_Mark_voidByStet  _ _ _ (by omega) (by assumption)) (fun _ _ => ?_) | with_reducible refine xl_lt (by assumption) (fun _ _ => ?_) | with_reducible refine xl_ltq (by assumption) (by omega) (fun _ _ => ?_) | with_reducible refine pf_b1 (fun _ => ?_) | with_reducible refine xf_ltv (fun _ => ?_)
set_option maxHeartbeats 4000000 in
theorem lx_Setter_mind {X : Nat → Prop} {S0 : SS}  : ∀ (S : SS) (v1 : Int) (v2 : Int), LX X S0 S → pc (f_Setter_mind S v1 v2) (LX X S0) := by
  intro S v1 v2 h
  unfold f_Setter_mind
  repeat' first | with_reducible exact pc_some (by assumption) | with_reducible exact pc_none | with_reducible refine pc_chk (fun _ => ?_) | with_reducible refine pc_if (fun _ => ?_) (fun _ => ?_) | with_reducible refine pc_on ?_ (fun _ _ => ?_) | with_reducible refine xl_lt (by assumption) (fun _ _ => ?_) | with_reducible refine xl_ltq (by assumption) (by omega) (fun _ _ => ?_) | with_reducible refine pf_b1 (fun _ => ?_) | with_reducible refine xf_ltv (fun _ => ?_)
set_option maxHeartbeats 4000000 in
theorem lxl_Setter_takeDone_7 {X : Nat → Prop} {S0 : SS}  (v2 : Int)  : ∀ (n : Nat) (S : SS) (v3_ : Int), LX X S0 S → pc (f_Setter_takeDone_7 v2 n S v3_) (LX X S0) := by
  intro n
  induction n with
  | zero => intro S v3_ h r e; exact absurd e (by simp [f_Setter_takeDone_7])
  | succ n ih =>
    intro S v3_ h
    show pc (f_Setter_takeDone_7_b v2 (f_Setter_takeDone_7 v2 n) S v3_) _
    unfold f_Setter_takeDone_7_b
    repeat' first | with_reducible exact ih _ _ (by assumption) | with_reducible unfold f_Setter_takeDone_101 | with_reducible unfold f_Setter_takeDone_35 | with_reducible unfold f_Setter_takeDone_34 | with_reducible exact pc_some (by assumption) | with_reducible exact pc_none | with_reducible refine pc_chk (fun _ => ?_) | with_reducible refine pc_if (fun _ => ?_) (fun _ => ?_) | with_reducible refine pc_on ?_ (fun _ _ => ?_) | with_reducible refine xl_lt (by assumption) (fun _ _ => ?_) | with_reducible refine xl_ltq (by assumption) (by omega) (fun _ _ => ?_) | with_reducible refine pf_b1 (fun _ => ?_) | with_reducible refine xf_ltv (fun _ => ?_)
set_option maxHeartbeats 4000000 in
theorem lx_Setter_takeDone {X : Nat → Prop} {S0 : SS}  : ∀ (S : SS) (v2 : Int), LX X S0 S → pc (f_Setter_takeDone S v2) (LX X S0) := by
  intro S v2 h
  unfold f_Setter_takeDone
  repeat' first | with_reducible exact lxl_Setter_takeDone_7  _ FU _ _ (by assumption) | with_reducible unfold f_Setter_takeDone_101 | with_reducible unfold f_Setter_takeDone_35 | with_reducible unfold f_Setter_takeDone_34 | with_reducible exact pc_some (by assumption) | with_reducible exact pc_none | with_reducible refine pc_chk (fun _ => ?_) | with_reducible refine pc_if (fun _ => ?_) (fun _ => ?_) | with_reducible refine pc_on ?_ (fun _ _ => ?_) | with_reducible refine xl_lt (by assumption) (fun _ _ => ?_) | with_reducible refine xl_ltq (by assumption) (by omega) (fun _ _ => ?_) | with_reducible refine pf_b1 (fun _ => ?_) | with_reducible refine xf_ltv (fun _ => ?_)
set_option maxHeartbeats 4000000 in
theorem lxl_Ruler_fillRow_101 {X : Nat → Prop} {S0 : SS}  (v1 : Int) (w2 : Int64) (q3 : Nat) (v4 : Int) (v5 : Int)  : ∀ (n : Nat) (S : SS) (v8_ : Int) (v9_ : Int) (v10_ : Int) (v11_ : Int), LX X S0 S → pc (f_Ruler_fillRow_101 v1 w2 q3 v4 v5 n S v8_ v9_ v10_ v11_) (fun u => LX X S0 u.2) := by
  intro n
  induction n with
  | zero => intro S v8_ v9_ v10_ v11_ h r e; exact absurd e (by simp [f_Ruler_fillRow_101])
  | succ n ih =>
    intro S v8_ v9_ v10_ v11_ h
    show pc (f_Ruler_fillRow_101_b v1 w2 q3 v4 v5 (f_Ruler_fillRow_101 v1 w2 q3 v4 v5 n) S v8_ v9_ v10_ v11_) _
    unfold f_Ruler_fillRow_101_b
    repeat' first | with_reducible exact ih _ _ _ _ _ (by assumption) | with_reducible unfold f_Ruler_fillRow_174 | with_reducible unfold f_Ruler_fillRow_85 | with_reducible exact pc_some (by assumption) | with_reducible exact pc_none | with_reducible refine pc_chk (fun _ => ?_) | with_reducible refine pc_if (fun _ => ?_) (fun _ => ?_) | with_reducible refine pc_on ?_ (fun _ _ => ?_) | with_reducible refine xl_lt (by assumption) (fun _ _ => ?_) | with_reducible refine xl_ltq (by assumption) (by omega) (fun _ _ => ?_) | with_reducible refine pf_b1 (fun _ => ?_) | with_reducible refine xf_ltv (fun _ => ?_)
set_option maxHeartbeats 4000000 in
theorem lx_Ruler_fillRow {X : Nat → Prop} {S0 : SS}  : ∀ (S : SS) (v1 : Int) (w2 : Int64) (q3 : Nat) (v4 : Int) (v5 : Int), LX X S0 S → pc (f_Ruler_fillRow S v1 w2 q3 v4 v5) (fun u => LX X S0 u.2) := by
  intro S v1 w2 q3 v4 v5 h
  unfold f_Ruler_fillRow
  repeat' first | with_reducible exact lxl_Ruler_fillRow_101  _ _ _ _ _ FU _ _ _ _ _ (by assumption) | with_reducible unfold f_Ruler_fillRow_174 | with_reducible unfold f_Ruler_fillRow_85 | with_reducible exact pc_some (by assumption) | with_reducible exact pc_none | with_reducible refine pc_chk (fun _ => ?_) | with_reducible refine pc_if (fun _ => ?_) (fun _ => ?_) | with_reducible refine pc_on ?_ (fun _ _ => ?_) | with_reducible refine xl_lt (by assumption) (fun _ _ => ?_) | with_reducible refine xl_ltq (by assumption) (by omega) (fun _ _ => ?_) | with_reducible refine pf_b1 (fun _ => ?_) | with_reducible refine xf_ltv (fun _ => ?_)
set_option maxHeartbeats 4000000 in
theorem lxl_Ruler_measure_85 {X : Nat → Prop} {S0 : SS}  (q1 : Nat) (v2 : Int) (q3 : Nat) (v4 : Int) (v5 : Int)  : ∀ (n : Nat) (S : SS) (v6_ : Int) (v7_ : Int) (v8_ : Int) (v9_ : Int), LX X S0 S → pc (f_Ruler_measure_85 q1 v2 q3 v4 v5 n S v6_ v7_ v8_ v9_) (fun u => LX X S0 u.2) := by
  intro n
  induction n with
  | zero => intro S v6_ v7_ v8_ v9_ h r e; exact absurd e (by simp [f_Ruler_measure_85])
  | succ n ih =>
    intro S v6_ v7_ v8_ v9_ h
    show pc (f_Ruler_measure_85_b q1 v2 q3 v4 v5 (f_Ruler_measure_85 q1 v2 q3 v4 v5 n) S v6_ v7_ v8_ v9_) _
    unfold f_Ruler_measure_85_b
    repeat' first | with_reducible exact ih _ _ _ _ _ (by assumption) | with_reducible exact pc_some (by assumption) | with_reducible exact pc_none | with_reducible refine pc_chk (fun _ => ?_) | with_reducible refine pc_if (fun _ => ?_) (fun _ => ?_) | with_reducible refine pc_on ?_ (fun _ _ => ?_) | with_reducible refine pc_b2 (lx_Ruler_fillRow  _ _ _ _ _ _ (by assumption)) (fun _ _ _ => ?_) | with_reducible refine xl_lt (by assumption) (fun _ _ => ?_) | with_reducible refine xl_ltq (by assumption) (by omega) (fun _ _ => ?_) | with_reducible refine pf_b1 (fun _ => ?_) | with_reducible refine xf_ltv (fun _ => ?_)
set_option maxHeartbeats 4000000 in
theorem lxl_Ruler_measure_60 {X : Nat → Prop} {S0 : SS}  (q1 : Nat) (v2 : Int) (q3 : Nat) (v4 : Int) (v5 : Int)  : ∀ (n : Nat) (S : SS) (v6_ : Int) (v7_ : Int) (v8_ : Int) (v9_ : Int), LX X S0 S → pc (f_Ruler_measure_60 q1 v2 q3 v4 v5 n S v6_ v7_ v8_ v9_) (fun u => LX X S0 u.2) := by
  intro n
  induction n with
  | zero => intro S v6_ v7_ v8_ v9_ h r e; exact absurd e (by simp [f_Ruler_measure_60])
  | succ n ih =>
    intro S v6_ v7_ v8_ v9_ h
    show pc (f_Ruler_measure_60_b q1 v2 q3 v4 v5 (f_Ruler_measure_60 q1 v2 q3 v4 v5 n) S v6_ v7_ v8_ v9_) _
    unfold f_Ruler_measure_60_b
    repeat' first | with_reducible exact ih _ _ _ _ _ (by assumption) | with_reducible exact lxl_Ruler_measure_85  _ _ _ _ _ FU _ _ _ _ _ (by assumption) | with_reducible exact pc_some (by assumption) | with_reducible exact pc_none | with_reducible refine pc_chk (fun _ => ?_) | with_reducible refine pc_if (fun _ => ?_) (fun _ => ?_) | with_reducible refine pc_on ?_ (fun _ _ => ?_) | with_reducible refine pc_b2 (lx_Ruler_fillRow  _ _ _ _ _ _ (by assumption)) (fun _ _ _ => ?_) | with_reducible refine xl_lt (by assumption) (fun _ _ => ?_) | with_reducible refine xl_ltq (by assumption) (by omega) (fun _ _ => ?_) | with_reducible refine pf_b1 (fun _ => ?_) | with_reducible refine xf_ltv (fun _ => ?_)
set_option maxHeartbeats 4000000 in
theorem lx_Ruler_measure {X : Nat → Prop} {S0 : SS}  : ∀ (S : SS) (q1 : Nat) (v2 : Int) (q3 : Nat) (v4 : Int) (v5 : Int), LX X S0 S → pc (f_Ruler_measure S q1 v2 q3 v4 v5) (fun u => LX X S0 u.2) := by
  intro S q1 v2 q3 v4 v5 h
  unfold f_Ruler_measure
  repeat' first | with_reducible exact lxl_Ruler_measure_85  _ _ _ _ _ FU _ _ _ _ _ (by assumption) | with_reducible exact lxl_Ruler_measure_60  _ _ _ _ _ FU _ _ _ _ _ (by assumption) | with_reducible exact pc_some (by assumption) | with_reducible exact pc_none | with_reducible refine pc_chk (fun _ => ?_) | with_reducible refine pc_if (fun _ => ?_) (fun _ => ?_) | with_reducible refine pc_on ?_ (fun _ _ => ?_) | with_reducible refine pc_b2 (lx_Ruler_fillRow  _ _ _ _ _ _ (by assumption)) (fun _ _ _ => ?_) | with_reducible refine xl_lt (by assumption) (fun _ _ => ?_) | with_reducible refine xl_ltq (by assumption) (by omega) (fun _ _ => ?_) | with_reducible refine pf_b1 (fun _ => ?_) | with_reducible refine xf_ltv (fun _ => ?_)
set_option maxHeartbeats 4000000 in
theorem lxl_Holding_listMissed_7 {X : Nat → Prop} {S0 : SS}    : ∀ (n : Nat) (S : SS) (v2_ : Int), LX X S0 S → pc (f_Holding_listMissed_7  n S v2_) (LX X S0) := by
  intro n
  induction n with
  | zero => intro S v2_ h r e; exact absurd e (by simp [f_Holding_listMissed_7])
  | succ n ih =>
    intro S v2_ h
    show pc (f_Holding_listMissed_7_b (f_Holding_listMissed_7 n) S v2_) _
    unfold f_Holding_listMissed_7_b
    repeat' first | with_reducible exact ih _ _ (by assumption) | with_reducible unfold f_Holding_listMissed_61 | with_reducible exact pc_some (by assumption) | with_reducible exact pc_none | with_reducible refine pc_chk (fun _ => ?_) | with_reducible refine pc_if (fun _ => ?_) (fun _ => ?_) | with_reducible refine pc_on ?_ (fun _ _ => ?_) | with_reducible refine xl_lt (by assumption) (fun _ _ => ?_) | with_reducible refine xl_ltq (by assumption) (by omega) (fun _ _ => ?_) | with_reducible refine pf_b1 (fun _ => ?_) | with_reducible refine xf_ltv (fun _ => ?_)
set_option maxHeartbeats 4000000 in
theorem lx_Holding_listMissed {X : Nat → Prop} {S0 : SS}  : ∀ (S : SS) , LX X S0 S → pc (f_Holding_listMissed S ) (LX X S0) := by
  intro S h
  unfold f_Holding_listMissed
  repeat' first | with_reducible exact lxl_Holding_listMissed_7  FU _ _ (by assumption) | with_reducible unfold f_Holding_listMissed_61 | with_reducible exact pc_some (by assumption) | with_reducible exact pc_none | with_reducible refine pc_chk (fun _ => ?_) | with_reducible refine pc_if (fun _ => ?_) (fun _ => ?_) | with_reducible refine pc_on ?_ (fun _ _ => ?_) | with_reducible refine xl_lt (by assumption) (fun _ _ => ?_) | with_reducible refine xl_ltq (by assumption) (by omega) (fun _ _ => ?_) | with_reducible refine pf_b1 (fun _ => ?_) | with_reducible refine xf_ltv (fun _ => ?_)
set_option maxHeartbeats 4000000 in
theorem lx_Holding_note {X : Nat → Prop} {S0 : SS}  : ∀ (S : SS) (v1 : Int) (v2 : Int) (v3 : Int), LX X S0 S → pc (f_Holding_note S v1 v2 v3) (LX X S0) := by
  intro S v1 v2 v3 h
  unfold f_Holding_note
  repeat' first | with_reducible exact pc_some (by assumption) | with_reducible exact pc_none | with_reducible refine pc_chk (fun _ => ?_) | with_reducible refine pc_if (fun _ => ?_) (fun _ => ?_) | with_reducible refine pc_on ?_ (fun _ _ => ?_) | with_reducible refine xl_lt (by assumption) (fun _ _ => ?_) | with_reducible refine xl_ltq (by assumption) (by omega) (fun _ _ => ?_) | with_reducible refine pf_b1 (fun _ => ?_) | with_reducible refine xf_ltv (fun _ => ?_)
set_option maxHeartbeats 4000000 in
theorem lxl_Holding_listChanges_33 {X : Nat → Prop} {S0 : SS}  (q1 : Nat)  : ∀ (n : Nat) (S : SS) (v3_ : Int) (v4_ : Int) (v5_ : Int) (v6_ : Int) (v7_ : Int), LX X S0 S → pc (f_Holding_listChanges_33 q1 n S v3_ v4_ v5_ v6_ v7_) (LX X S0) := by
  intro n
  induction n with
  | zero => intro S v3_ v4_ v5_ v6_ v7_ h r e; exact absurd e (by simp [f_Holding_listChanges_33])
  | succ n ih =>
    intro S v3_ v4_ v5_ v6_ v7_ h
    show pc (f_Holding_listChanges_33_b q1 (f_Holding_listChanges_33 q1 n) S v3_ v4_ v5_ v6_ v7_) _
    unfold f_Holding_listChanges_33_b
    repeat' first | with_reducible exact ih _ _ _ _ _ _ (by assumption) | with_reducible unfold f_Holding_listChanges_224 | with_reducible unfold f_Holding_listChanges_213 | with_reducible unfold f_Holding_listChanges_167 | with_reducible unfold f_Holding_listChanges_119 | with_reducible unfold f_Holding_listChanges_85 | with_reducible unfold f_Holding_listChanges_84 | with_reducible unfold f_Holding_listChanges_60 | with_reducible exact pc_some (by assumption) | with_reducible exact pc_none | with_reducible refine pc_chk (fun _ => ?_) | with_reducible refine pc_if (fun _ => ?_) (fun _ => ?_) | with_reducible refine pc_on ?_ (fun _ _ => ?_) | with_reducible refine pc_b1 (lx_Holding_note  _ _ _ _ (by assumption)) (fun _ _ => ?_) | with_reducible refine pc_b2 (lx_Ruler_measure  _ _ _ _ _ _ (by assumption)) (fun _ _ _ => ?_) | with_reducible refine xl_lt (by assumption) (fun _ _ => ?_) | with_reducible refine xl_ltq (by assumption) (by omega) (fun _ _ => ?_) | with_reducible refine pf_b1 (fun _ => ?_) | with_reducible refine xf_ltv (fun _ => ?_)
set_option maxHeartbeats 4000000 in
theorem lx_Holding_listChanges {X : Nat → Prop} {S0 : SS}  : ∀ (S : SS) (q1 : Nat), LX X S0 S → pc (f_Holding_listChanges S q1) (LX X S0) := by
  intro S q1 h
  unfold f_Holding_listChanges
  repeat' first | with_reducible exact lxl_Holding_listChanges_33  _ FU _ _ _ _ _ _ (by assumption) | with_reducible unfold f_Holding_listChanges_224 | with_reducible unfold f_Holding_listChanges_213 | with_reducible unfold f_Holding_listChanges_167 | with_reducible unfold f_Holding_listChanges_119 | with_reducible unfold f_Holding_listChanges_85 | with_reducible unfold f_Holding_listChanges_84 | with_reducible unfold f_Holding_listChanges_60 | with_reducible exact pc_some (by assumption) | with_reducible exact pc_none | with_reducible refine pc_chk (fun _ => ?_) | with_reducible refine pc_if (fun _ => ?_) (fun _ => ?_) | with_reducible refine pc_on ?_ (fun _ _ => ?_) | with_reducible refine pc_b1 (lx_Holding_note  _ _ _ _ (by assumption)) (fun _ _ => ?_) | with_reducible refine pc_b2 (lx_Ruler_measure  _ _ _ _ _ _ (by assumption)) (fun _ _ _ => ?_) | with_reducible refine xl_lt (by assumption) (fun _ _ => ?_) | with_reducible refine xl_ltq (by assumption) (by omega) (fun _ _ => ?_) | with_reducible refine pf_b1 (fun _ => ?_) | with_reducible refine xf_ltv (fun _ => ?_)
set_option maxHeartbeats 4000000 in
theorem lx_SheetReader_addWord {X : Nat → Prop} {S0 : SS} (x_176 : X 176) : ∀ (S : SS) (w1 : Int64) (v2 : Int), LX X S0 S → pc (f_SheetReader_addWord S w1 v2) (LX X S0) := by
  intro S w1 v2 h
  unfold f_SheetReader_addWord
  repeat' first | with_reducible exact pc_some (by assumption) | with_reducible exact pc_none | with_reducible refine pc_chk (fun _ => ?_) | with_reducible refine pc_if (fun _ => ?_) (fun _ => ?_) | with_reducible refine pc_on ?_ (fun _ _ => ?_) | with_reducible refine pc_b1 (lx_Sheet_add (x_q0 := (by first | exact x_176)) _ _ (by assumption)) (fun _ _ => ?_) | with_reducible refine xl_lt (by assumption) (fun _ _ => ?_) | with_reducible refine xl_lts (by assumption) (by first | exact x_176) (fun _ _ => ?_) | with_reducible refine xl_ltq (by assumption) (by omega) (fun _ _ => ?_) | with_reducible refine pf_b1 (fun _ => ?_) | with_reducible refine xf_ltv (fun _ => ?_)
set_option maxHeartbeats 4000000 in
theorem lx_MP_feed {X : Nat → Prop} {S0 : SS}  : ∀ (S : SS) (v1 : Int) (v2 : Int) (v3 : Int) (v4 : Int) (v5 : Int), LX X S0 S → pc (f_MP_feed S v1 v2 v3 v4 v5) (fun u => LX X S0 u.2) := by
  intro S v1 v2 v3 v4 v5 h
  unfold f_MP_feed
  repeat' first | with_reducible exact pc_some (by assumption) | with_reducible exact pc_none | with_reducible refine pc_chk (fun _ => ?_) | with_reducible refine pc_if (fun _ => ?_) (fun _ => ?_) | with_reducible refine pc_on ?_ (fun _ _ => ?_) | with_reducible refine pc_b1 (lx_Tape_addFour  _ _ (by assumption)) (fun _ _ => ?_) | with_reducible refine xl_lt (by assumption) (fun _ _ => ?_) | with_reducible refine xl_ltq (by assumption) (by omega) (fun _ _ => ?_) | with_reducible refine pf_b1 (fun _ => ?_) | with_reducible refine xf_ltv (fun _ => ?_)
set_option maxHeartbeats 4000000 in
theorem lx_MP_end {X : Nat → Prop} {S0 : SS}  : ∀ (S : SS) (v1 : Int), LX X S0 S → pc (f_MP_end S v1) (fun u => LX X S0 u.2) := by
  intro S v1 h
  unfold f_MP_end
  repeat' first | with_reducible exact pc_some (by assumption) | with_reducible exact pc_none | with_reducible refine pc_chk (fun _ => ?_) | with_reducible refine pc_if (fun _ => ?_) (fun _ => ?_) | with_reducible refine pc_on ?_ (fun _ _ => ?_) | with_reducible refine xl_lt (by assumption) (fun _ _ => ?_) | with_reducible refine xl_ltq (by assumption) (by omega) (fun _ _ => ?_) | with_reducible refine pf_b1 (fun _ => ?_) | with_reducible refine xf_ltv (fun _ => ?_)
set_option maxHeartbeats 4000000 in
theorem lx_MP_costs {X : Nat → Prop} {S0 : SS}  : ∀ (S : SS) (v1 : Int) (v2 : Int), LX X S0 S → pc (f_MP_costs S v1 v2) (fun u => LX X S0 u.2) := by
  intro S v1 v2 h
  unfold f_MP_costs
  repeat' first | with_reducible exact pc_some (by assumption) | with_reducible exact pc_none | with_reducible refine pc_chk (fun _ => ?_) | with_reducible refine pc_if (fun _ => ?_) (fun _ => ?_) | with_reducible refine pc_on ?_ (fun _ _ => ?_) | with_reducible refine xl_lt (by assumption) (fun _ _ => ?_) | with_reducible refine xl_ltq (by assumption) (by omega) (fun _ _ => ?_) | with_reducible refine pf_b1 (fun _ => ?_) | with_reducible refine xf_ltv (fun _ => ?_)
set_option maxHeartbeats 4000000 in
theorem lx_MP_distance {X : Nat → Prop} {S0 : SS}  : ∀ (S : SS) (v1 : Int) (v2 : Int), LX X S0 S → pc (f_MP_distance S v1 v2) (fun u => LX X S0 u.2) := by
  intro S v1 v2 h
  unfold f_MP_distance
  repeat' first | with_reducible exact pc_some (by assumption) | with_reducible exact pc_none | with_reducible refine pc_chk (fun _ => ?_) | with_reducible refine pc_if (fun _ => ?_) (fun _ => ?_) | with_reducible refine pc_on ?_ (fun _ _ => ?_) | with_reducible refine pc_b2 (lx_Ruler_measure  _ _ _ _ _ _ (by assumption)) (fun _ _ _ => ?_) | with_reducible refine xl_lt (by assumption) (fun _ _ => ?_) | with_reducible refine xl_ltq (by assumption) (by omega) (fun _ _ => ?_) | with_reducible refine pf_b1 (fun _ => ?_) | with_reducible refine xf_ltv (fun _ => ?_)
set_option maxHeartbeats 4000000 in
theorem lx_MP_error {X : Nat → Prop} {S0 : SS}  : ∀ (S : SS) (v1 : Int) (v2 : Int), LX X S0 S → pc (f_MP_error S v1 v2) (fun u => LX X S0 u.2) := by
  intro S v1 v2 h
  unfold f_MP_error
  repeat' first | with_reducible exact pc_some (by assumption) | with_reducible exact pc_none | with_reducible refine pc_chk (fun _ => ?_) | with_reducible refine pc_if (fun _ => ?_) (fun _ => ?_) | with_reducible refine pc_on ?_ (fun _ _ => ?_) | with_reducible refine xl_lt (by assumption) (fun _ _ => ?_) | with_reducible refine xl_ltq (by assumption) (by omega) (fun _ _ => ?_) | with_reducible refine pf_b1 (fun _ => ?_) | with_reducible refine xf_ltv (fun _ => ?_)
set_option maxHeartbeats 4000000 in
theorem lx_MP_price {X : Nat → Prop} {S0 : SS}  : ∀ (S : SS) (v1 : Int) (v2 : Int), LX X S0 S → pc (f_MP_price S v1 v2) (fun u => LX X S0 u.2) := by
  intro S v1 v2 h
  unfold f_MP_price
  repeat' first | with_reducible exact pc_some (by assumption) | with_reducible exact pc_none | with_reducible refine pc_chk (fun _ => ?_) | with_reducible refine pc_if (fun _ => ?_) (fun _ => ?_) | with_reducible refine pc_on ?_ (fun _ _ => ?_) | with_reducible refine pc_b2 (lx_Bill_setPrice  _ _ _ (by assumption)) (fun _ _ _ => ?_) | with_reducible refine xl_lt (by assumption) (fun _ _ => ?_) | with_reducible refine xl_ltq (by assumption) (by omega) (fun _ _ => ?_) | with_reducible refine pf_b1 (fun _ => ?_) | with_reducible refine xf_ltv (fun _ => ?_)
set_option maxHeartbeats 4000000 in
theorem lxl_SheetReader_readProof_20 {X : Nat → Prop} {S0 : SS} (x_176 : X 176) (v2 : Int)  : ∀ (n : Nat) (S : SS) (w4_ : Int64) (v6_ : Int) (v7_ : Int), LX X S0 S → pc (f_SheetReader_readProof_20 v2 n S w4_ v6_ v7_) (fun u => LX X S0 u.2) := by
  intro n
  induction n with
  | zero => intro S w4_ v6_ v7_ h r e; exact absurd e (by simp [f_SheetReader_readProof_20])
  | succ n ih =>
    intro S w4_ v6_ v7_ h
    show pc (f_SheetReader_readProof_20_b v2 (f_SheetReader_readProof_20 v2 n) S w4_ v6_ v7_) _
    unfold f_SheetReader_readProof_20_b
    repeat' first | with_reducible exact ih _ _ _ _ (by assumption) | with_reducible unfold f_SheetReader_readProof_77 | with_reducible unfold f_SheetReader_readProof_123 | with_reducible unfold f_SheetReader_readProof_109 | with_reducible exact pc_some (by assumption) | with_reducible exact pc_none | with_reducible refine pc_chk (fun _ => ?_) | with_reducible refine pc_if (fun _ => ?_) (fun _ => ?_) | with_reducible refine pc_on ?_ (fun _ _ => ?_) | with_reducible refine pc_b2 (lx_Fault_tellOf  _ _ _ (by assumption)) (fun _ _ _ => ?_) | with_reducible refine pc_b1 (lx_SheetReader_addWord (x_176 := x_176) _ _ _ (by assumption)) (fun _ _ => ?_) | with_reducible refine xl_let (lx_Sheet_clear  _ _ (by assumption)) (fun _ _ => ?_) | with_reducible refine xl_let (lx_Fault_clear  _ (by assumption)) (fun _ _ => ?_) | with_reducible refine xl_lt (by assumption) (fun _ _ => ?_) | with_reducible refine xl_lts (by assumption) (by first | exact x_176) (fun _ _ => ?_) | with_reducible refine xl_ltq (by assumption) (by omega) (fun _ _ => ?_) | with_reducible refine pf_b1 (fun _ => ?_) | with_reducible refine xf_ltv (fun _ => ?_)
set_option maxHeartbeats 4000000 in
theorem lx_SheetReader_readProof {X : Nat → Prop} {S0 : SS} (x_176 : X 176) : ∀ (S : SS) (v2 : Int), LX X S0 S → pc (f_SheetReader_readProof S v2) (fun u => LX X S0 u.2) := by
  intro S v2 h
  unfold f_SheetReader_readProof
  repeat' first | with_reducible exact lxl_SheetReader_readProof_20 (x_176 := x_176) _ FU _ _ _ _ (by assumption) | with_reducible unfold f_SheetReader_readProof_77 | with_reducible unfold f_SheetReader_readProof_123 | with_reducible unfold f_SheetReader_readProof_109 | with_reducible exact pc_some (by assumption) | with_reducible exact pc_none | with_reducible refine pc_chk (fun _ => ?_) | with_reducible refine pc_if (fun _ => ?_) (fun _ => ?_) | with_reducible refine pc_on ?_ (fun _ _ => ?_) | with_reducible refine pc_b2 (lx_Fault_tellOf  _ _ _ (by assumption)) (fun _ _ _ => ?_) | with_reducible refine pc_b1 (lx_SheetReader_addWord (x_176 := x_176) _ _ _ (by assumption)) (fun _ _ => ?_) | with_reducible refine xl_let (lx_Sheet_clear  _ _ (by assumption)) (fun _ _ => ?_) | with_reducible refine xl_let (lx_Fault_clear  _ (by assumption)) (fun _ _ => ?_) | with_reducible refine xl_lt (by assumption) (fun _ _ => ?_) | with_reducible refine xl_lts (by assumption) (by first | exact x_176) (fun _ _ => ?_) | with_reducible refine xl_ltq (by assumption) (by omega) (fun _ _ => ?_) | with_reducible refine pf_b1 (fun _ => ?_) | with_reducible refine xf_ltv (fun _ => ?_)
theorem LX_in {X : Nat → Prop} {S0 S : SS} (h : LX X S0 S) : gq S0 178 4 = gq S 178 4 := h.2.symm
theorem lxl_setGap {X : Nat → Prop} {S0 : SS} (x_into : ∀ q, gq S0 178 4 = some q → X (q + 1)) (rk : SS → Int → Int → Int → Option SS) (hrk : ∀ S a b c, LX X S0 S → pc (rk S a b c) (LX X S0)) (v1 v2 : Int) : ∀ (n : Nat) (S : SS) (v3_ : Int), LX X S0 S → pc (f_Setter_setGap_2 rk v1 v2 n S v3_) (LX X S0) := by
  intro n
  induction n with
  | zero => intro S v3_ h r e; exact absurd e (by simp [f_Setter_setGap_2])
  | succ n ih =>
    intro S v3_ h
    show pc (f_Setter_setGap_2_b rk v1 v2 (f_Setter_setGap_2 rk v1 v2 n) S v3_) _
    unfold f_Setter_setGap_2_b
    repeat' first | with_reducible exact ih _ _ (by assumption) | unfold f_Setter_setGap_95 | with_reducible exact pc_some (by assumption) | with_reducible exact pc_none | with_reducible refine pc_chk (fun _ => ?_) | with_reducible refine pc_if (fun _ => ?_) (fun _ => ?_) | with_reducible refine pc_on ?_ (fun _ _ => ?_) | with_reducible refine pc_b1 (lx_Setter_mind _ _ _ (by assumption)) (fun _ _ => ?_) | with_reducible refine pc_b1 (hrk _ _ _ _ (by assumption)) (fun _ _ => ?_) | with_reducible refine pc_b1 (lx_Sheet_addAll (x_q0 := x_into _ ((LX_in (by assumption)).trans (by assumption))) _ _ (by assumption)) (fun _ _ => ?_) | with_reducible refine pf_b1 (fun _ => ?_)
theorem lx_setPiece {X : Nat → Prop} {S0 : SS} (x_into : ∀ q, gq S0 178 4 = some q → X (q + 1)) (rk : SS → Int → Int → Int → Option SS) (hrk : ∀ S a b c, LX X S0 S → pc (rk S a b c) (LX X S0)) (v1 v2 : Int) (S : SS) (h : LX X S0 S) : pc (f_Setter_setPiece rk S v1 v2) (fun u => LX X S0 u.2) := by
  unfold f_Setter_setPiece
  repeat' first | unfold f_Setter_setPiece_58 | with_reducible exact pc_some (by assumption) | with_reducible exact pc_none | with_reducible refine pc_chk (fun _ => ?_) | with_reducible refine pc_if (fun _ => ?_) (fun _ => ?_) | with_reducible refine pc_on ?_ (fun _ _ => ?_) | with_reducible refine pc_b1 (lx_Setter_mind _ _ _ (by assumption)) (fun _ _ => ?_) | with_reducible refine pc_b1 (hrk _ _ _ _ (by assumption)) (fun _ _ => ?_) | with_reducible refine pc_b1 (lx_Sheet_addAll (x_q0 := x_into _ ((LX_in (by assumption)).trans (by assumption))) _ _ (by assumption)) (fun _ _ => ?_) | with_reducible refine pc_b1 (lx_Sheet_add (x_q0 := x_into _ ((LX_in (by assumption)).trans (by assumption))) _ _ (by assumption)) (fun _ _ => ?_) | with_reducible refine pf_b1 (fun _ => ?_)
theorem lxl_setRowB {X : Nat → Prop} {S0 : SS} (x_into : ∀ q, gq S0 178 4 = some q → X (q + 1)) (rk : SS → Int → Int → Int → Option SS) (hrk : ∀ S a b c, LX X S0 S → pc (rk S a b c) (LX X S0)) (v1 v2 v3 : Int) : ∀ (n : Nat) (S : SS) (v4_ v5_ : Int), LX X S0 S → pc (f_Setter_setRowB_13 rk v1 v2 v3 n S v4_ v5_) (LX X S0) := by
  intro n
  induction n with
  | zero => intro S v4_ v5_ h r e; exact absurd e (by simp [f_Setter_setRowB_13])
  | succ n ih =>
    intro S v4_ v5_ h
    show pc (f_Setter_setRowB_13_b rk v1 v2 v3 (f_Setter_setRowB_13 rk v1 v2 v3 n) S v4_ v5_) _
    unfold f_Setter_setRowB_13_b f_Setter_setGap
    repeat' first | with_reducible exact ih _ _ _ (by assumption) | unfold f_Setter_setRowB_42 | unfold f_Setter_setRowB_51 | with_reducible exact pc_some (by assumption) | with_reducible refine pc_chk (fun _ => ?_) | with_reducible refine pc_if (fun _ => ?_) (fun _ => ?_) | with_reducible refine pc_b1 (lxl_setGap x_into rk hrk _ _ FU _ _ (by assumption)) (fun _ _ => ?_) | with_reducible refine pc_b2 (lx_setPiece x_into rk hrk _ _ _ (by assumption)) (fun _ _ _ => ?_)
theorem lxl_setRow {X : Nat → Prop} {S0 : SS} (x_into : ∀ q, gq S0 178 4 = some q → X (q + 1)) : ∀ (n : Nat) (S : SS) (a b c : Int), LX X S0 S → pc (f_Setter_setRow n S a b c) (LX X S0) := by
  intro n
  induction n with
  | zero => intro S a b c h r e; exact absurd e (by simp [f_Setter_setRow])
  | succ n ih =>
    intro S a b c h
    show pc (f_Setter_setRowB (f_Setter_setRow n) S a b c) _
    unfold f_Setter_setRowB
    exact pc_if (fun _ => lxl_setRowB x_into _ ih _ _ _ FU S _ _ h) (fun _ => pc_some h)
/-- longs alone, for what changes the setter's sheets -/
def LY (X : Nat → Prop) (S0 S : SS) : Prop := ∀ r k, ¬ X r → gl S r k = gl S0 r k
theorem LY_refl (X : Nat → Prop) (S : SS) : LY X S S := fun _ _ _ => rfl
theorem LY_LX {X : Nat → Prop} {S0 S S1 : SS} (h : LY X S0 S) (h1 : LX X S S1) : LY X S0 S1 := fun r k a => (h1.1 r k a).trans (h r k a)
theorem ly_make {X : Nat → Prop} {S0 : SS} {q2 : Nat} (x_q2 : X (q2 + 1)) (S : SS) (q1 : Nat) (h : LY X S0 S) : pc (f_Setter_make S q1 q2) (LY X S0) := by
  unfold f_Setter_make f_Setter_make_44 f_Setter_setGap
  refine pc_lt (fun S1 e1 => pc_lt (fun S2 e2 => ?_))
  have g2 : gq S2 178 4 = some q2 := by rw [e2, gq_at]
  have f2 : LY X S0 S2 := by rw [e2, e1]; exact h
  rw [g2]
  have into : ∀ q, gq S2 178 4 = some q → X (q + 1) := by
    intro q e; rw [g2] at e; cases e; exact x_q2
  show pc (w_chk (shOk q2) _) _
  refine pc_chk (fun _ => xl_let (S0 := S2) (X := X) (lx_Sheet_clear S2 q2 (LX_refl X S2)) (fun S4 h4 => pc_on pc_none (fun q6 _ => pc_chk (fun _ => ?_))))
  have hr := lxl_setRow (S0 := S2) into 43
  have hg := fun v1 v2 => lxl_setGap (S0 := S2) into (f_Setter_setRow 43) hr v1 v2 FU
  refine pc_if (fun _ => pc_b1 (hg _ _ _ _ h4) (fun S5 h5 => pc_some (LY_LX f2 h5))) (fun _ => pc_b1 (hg _ _ _ _ h4) (fun S8 h8 => pc_chk (fun _ => pc_b1 (hr _ _ _ _ h8) (fun S11 h11 => pc_b1 (hg _ _ _ _ h11) (fun S12 h12 => pc_some (LY_LX f2 h12))))))
theorem ly_lt {β : Type} {X : Nat → Prop} {S0 S : SS} {r k : Nat} {v : Int} {g : SS → Option β} {P : β → Prop} (h : LY X S0 S) (hk : ∀ y, LY X S0 y → pc (g y) P) : pc (w_lt (si S r k v) g) P := hk _ h
abbrev X185 (r : Nat) : Prop := r = 185
theorem ly_weigh (S0 : SS) : ∀ (n : Nat) (S : SS) (v6 v7 v8 v9 : Int), LY X185 S0 S → pc (f_Holding_weigh_23 4 6 n S v6 v7 v8 v9) (fun u => LY X185 S0 u.2) := by
  intro n
  induction n with
  | zero => intro S v6 v7 v8 v9 h r e; exact absurd e (by simp [f_Holding_weigh_23])
  | succ n ih =>
    intro S v6 v7 v8 v9 h
    have td : ∀ S' v, LY X185 S0 S' → pc (f_Setter_takeDone S' v) (LY X185 S0) := fun S' v h' => pc_mono (lx_Setter_takeDone (X := X185) (S0 := S') S' v (LX_refl X185 S')) (fun _ h1 => LY_LX h' h1)
    have mk : ∀ S', LY X185 S0 S' → pc (f_Setter_make S' 4 184) (LY X185 S0) := fun S' h' => ly_make (X := X185) (q2 := 184) (show (184 : Nat) + 1 = 185 from rfl) S' 4 h'
    have ms : ∀ S' a c d e f, LY X185 S0 S' → pc (f_Ruler_measure S' a c d e f) (fun u => LY X185 S0 u.2) := fun S' a c d e f h' => pc_mono (lx_Ruler_measure (X := X185) (S0 := S') S' a c d e f (LX_refl X185 S')) (fun _ h1 => LY_LX h' h1)
    have lm : ∀ S', LY X185 S0 S' → pc (f_Holding_listMissed S') (LY X185 S0) := fun S' h' => pc_mono (lx_Holding_listMissed (X := X185) (S0 := S') S' (LX_refl X185 S')) (fun _ h1 => LY_LX h' h1)
    have lc : ∀ S' q, LY X185 S0 S' → pc (f_Holding_listChanges S' q) (LY X185 S0) := fun S' q h' => pc_mono (lx_Holding_listChanges (X := X185) (S0 := S') S' q (LX_refl X185 S')) (fun _ h1 => LY_LX h' h1)
    show pc (f_Holding_weigh_23_b 4 6 (f_Holding_weigh_23 4 6 n) S v6 v7 v8 v9) _
    unfold f_Holding_weigh_23_b
    repeat' first | with_reducible exact ih _ _ _ _ _ (by assumption) | unfold f_Holding_weigh_160 | unfold f_Holding_weigh_140 | with_reducible exact pc_some (by assumption) | with_reducible refine pc_chk (fun _ => ?_) | with_reducible refine pc_if (fun _ => ?_) (fun _ => ?_) | with_reducible refine pc_b1 (td _ _ (by assumption)) (fun _ _ => ?_) | with_reducible refine pc_b1 (mk _ (by assumption)) (fun _ _ => ?_) | with_reducible refine pc_b2 (ms _ _ _ _ _ _ (by assumption)) (fun _ _ _ => ?_) | with_reducible refine pc_b1 (lm _ (by assumption)) (fun _ _ => ?_) | with_reducible refine pc_b1 (lc _ _ (by assumption)) (fun _ _ => ?_) | with_reducible refine ly_lt (by assumption) (fun _ _ => ?_) | with_reducible refine pf_b1 (fun _ => ?_)
theorem ly_hold (S : SS) : pc (f_MP_hold S) (fun u => LY X185 S u.2) := by
  unfold f_MP_hold f_Holding_weigh
  exact pc_if (fun _ => pc_b2 (ly_weigh S FU S _ _ _ _ (LY_refl _ S)) (fun _ _ h => pc_some h)) (fun _ => pc_some (LY_refl _ S))
set_option maxHeartbeats 4000000 in
theorem lxl_M_lay_3 {X : Nat → Prop} {S0 : SS}  (v1 : Int)  : ∀ (n : Nat) (S : SS) (v2_ : Int), LX X S0 S → pc (f_M_lay_3 v1 n S v2_) (LX X S0) := by
  intro n
  induction n with
  | zero => intro S v2_ h r e; exact absurd e (by simp [f_M_lay_3])
  | succ n ih =>
    intro S v2_ h
    show pc (f_M_lay_3_b v1 (f_M_lay_3 v1 n) S v2_) _
    unfold f_M_lay_3_b
    repeat' first | with_reducible exact ih _ _ (by assumption) | with_reducible exact pc_some (by assumption) | with_reducible exact pc_none | with_reducible refine pc_chk (fun _ => ?_) | with_reducible refine pc_if (fun _ => ?_) (fun _ => ?_) | with_reducible refine pc_on ?_ (fun _ _ => ?_) | with_reducible refine xl_lt (by assumption) (fun _ _ => ?_) | with_reducible refine xl_ltq (by assumption) (by omega) (fun _ _ => ?_) | with_reducible refine pf_b1 (fun _ => ?_) | with_reducible refine xf_ltv (fun _ => ?_)
set_option maxHeartbeats 4000000 in
theorem lx_M_lay {X : Nat → Prop} {S0 : SS}  : ∀ (S : SS) (v1 : Int), LX X S0 S → pc (f_M_lay S v1) (LX X S0) := by
  intro S v1 h
  unfold f_M_lay
  repeat' first | with_reducible exact lxl_M_lay_3  _ FU _ _ (by assumption) | with_reducible exact pc_some (by assumption) | with_reducible exact pc_none | with_reducible refine pc_chk (fun _ => ?_) | with_reducible refine pc_if (fun _ => ?_) (fun _ => ?_) | with_reducible refine pc_on ?_ (fun _ _ => ?_) | with_reducible refine xl_lt (by assumption) (fun _ _ => ?_) | with_reducible refine xl_ltq (by assumption) (by omega) (fun _ _ => ?_) | with_reducible refine pf_b1 (fun _ => ?_) | with_reducible refine xf_ltv (fun _ => ?_)
set_option maxHeartbeats 4000000 in
theorem lx_M_feed {X : Nat → Prop} {S0 : SS}  : ∀ (S : SS) (v1 : Int) (v2 : Int) (v3 : Int) (v4 : Int) (v5 : Int), LX X S0 S → pc (f_M_feed S v1 v2 v3 v4 v5) (fun u => LX X S0 u.2) := by
  intro S v1 v2 v3 v4 v5 h
  unfold f_M_feed
  repeat' first | with_reducible exact pc_some (by assumption) | with_reducible exact pc_none | with_reducible refine pc_chk (fun _ => ?_) | with_reducible refine pc_if (fun _ => ?_) (fun _ => ?_) | with_reducible refine pc_on ?_ (fun _ _ => ?_) | with_reducible refine pc_b1 (lx_M_lay  _ _ (by assumption)) (fun _ _ => ?_) | with_reducible refine xl_lt (by assumption) (fun _ _ => ?_) | with_reducible refine xl_ltq (by assumption) (by omega) (fun _ _ => ?_) | with_reducible refine pf_b1 (fun _ => ?_) | with_reducible refine xf_ltv (fun _ => ?_)
set_option maxHeartbeats 4000000 in
theorem lx_M_end {X : Nat → Prop} {S0 : SS}  : ∀ (S : SS) (v1 : Int), LX X S0 S → pc (f_M_end S v1) (fun u => LX X S0 u.2) := by
  intro S v1 h
  unfold f_M_end
  repeat' first | with_reducible exact pc_some (by assumption) | with_reducible exact pc_none | with_reducible refine pc_chk (fun _ => ?_) | with_reducible refine pc_if (fun _ => ?_) (fun _ => ?_) | with_reducible refine pc_on ?_ (fun _ _ => ?_) | with_reducible refine xl_lt (by assumption) (fun _ _ => ?_) | with_reducible refine xl_ltq (by assumption) (by omega) (fun _ _ => ?_) | with_reducible refine pf_b1 (fun _ => ?_) | with_reducible refine xf_ltv (fun _ => ?_)
set_option maxHeartbeats 4000000 in
theorem lxl_M_judgeOne_2 {X : Nat → Prop} {S0 : SS}  (v1 : Int)  : ∀ (n : Nat) (S : SS) (v2_ : Int), LX X S0 S → pc (f_M_judgeOne_2 v1 n S v2_) (LX X S0) := by
  intro n
  induction n with
  | zero => intro S v2_ h r e; exact absurd e (by simp [f_M_judgeOne_2])
  | succ n ih =>
    intro S v2_ h
    show pc (f_M_judgeOne_2_b v1 (f_M_judgeOne_2 v1 n) S v2_) _
    unfold f_M_judgeOne_2_b
    repeat' first | with_reducible exact ih _ _ (by assumption) | with_reducible unfold f_M_judgeOne_45 | with_reducible unfold f_M_judgeOne_51 | with_reducible exact pc_some (by assumption) | with_reducible exact pc_none | with_reducible refine pc_chk (fun _ => ?_) | with_reducible refine pc_if (fun _ => ?_) (fun _ => ?_) | with_reducible refine pc_on ?_ (fun _ _ => ?_) | with_reducible refine xl_lt (by assumption) (fun _ _ => ?_) | with_reducible refine xl_ltq (by assumption) (by omega) (fun _ _ => ?_) | with_reducible refine pf_b1 (fun _ => ?_) | with_reducible refine xf_ltv (fun _ => ?_)
set_option maxHeartbeats 4000000 in
theorem lx_M_judgeOne {X : Nat → Prop} {S0 : SS}  : ∀ (S : SS) (v1 : Int), LX X S0 S → pc (f_M_judgeOne S v1) (LX X S0) := by
  intro S v1 h
  unfold f_M_judgeOne
  repeat' first | with_reducible exact lxl_M_judgeOne_2  _ FU _ _ (by assumption) | with_reducible unfold f_M_judgeOne_45 | with_reducible unfold f_M_judgeOne_51 | with_reducible exact pc_some (by assumption) | with_reducible exact pc_none | with_reducible refine pc_chk (fun _ => ?_) | with_reducible refine pc_if (fun _ => ?_) (fun _ => ?_) | with_reducible refine pc_on ?_ (fun _ _ => ?_) | with_reducible refine xl_lt (by assumption) (fun _ _ => ?_) | with_reducible refine xl_ltq (by assumption) (by omega) (fun _ _ => ?_) | with_reducible refine pf_b1 (fun _ => ?_) | with_reducible refine xf_ltv (fun _ => ?_)
set_option maxHeartbeats 4000000 in
theorem lxl_M_judge_24 {X : Nat → Prop} {S0 : SS}    (kf2_ : SS → Int → Option SS) (hkf2_ : ∀ S a0, LX X S0 S → pc (kf2_ S a0) (LX X S0)): ∀ (n : Nat) (S : SS) (v1_ : Int) (v2_ : Int), LX X S0 S → pc (f_M_judge_24 kf2_ n S v1_ v2_) (LX X S0) := by
  intro n
  induction n with
  | zero => intro S v1_ v2_ h r e; exact absurd e (by simp [f_M_judge_24])
  | succ n ih =>
    intro S v1_ v2_ h
    show pc (f_M_judge_24_b kf2_ (f_M_judge_24 kf2_ n) S v1_ v2_) _
    unfold f_M_judge_24_b
    repeat' first | with_reducible exact ih _ _ _ (by assumption) | with_reducible exact hkf2_ _ _ (by assumption) | with_reducible unfold f_M_judge_56 | with_reducible unfold f_M_judge_137 | with_reducible unfold f_M_judge_110 | with_reducible unfold f_M_judge_136 | with_reducible unfold f_M_judge_114 | with_reducible unfold f_M_judge_192 | with_reducible exact pc_some (by assumption) | with_reducible exact pc_none | with_reducible refine pc_chk (fun _ => ?_) | with_reducible refine pc_if (fun _ => ?_) (fun _ => ?_) | with_reducible refine pc_on ?_ (fun _ _ => ?_) | with_reducible refine pc_b1 (lx_M_judgeOne  _ _ (by assumption)) (fun _ _ => ?_) | with_reducible refine xl_lt (by assumption) (fun _ _ => ?_) | with_reducible refine xl_ltq (by assumption) (by omega) (fun _ _ => ?_) | with_reducible refine pf_b1 (fun _ => ?_) | with_reducible refine xf_ltv (fun _ => ?_)
set_option maxHeartbeats 4000000 in
theorem lxl_M_judge_154 {X : Nat → Prop} {S0 : SS}    (kf146_ : SS → Int → Option SS) (hkf146_ : ∀ S a0, LX X S0 S → pc (kf146_ S a0) (LX X S0)): ∀ (n : Nat) (S : SS) (v1_ : Int) (v2_ : Int), LX X S0 S → pc (f_M_judge_154 kf146_ n S v1_ v2_) (LX X S0) := by
  intro n
  induction n with
  | zero => intro S v1_ v2_ h r e; exact absurd e (by simp [f_M_judge_154])
  | succ n ih =>
    intro S v1_ v2_ h
    show pc (f_M_judge_154_b kf146_ (f_M_judge_154 kf146_ n) S v1_ v2_) _
    unfold f_M_judge_154_b
    repeat' first | with_reducible exact ih _ _ _ (by assumption) | with_reducible exact hkf146_ _ _ (by assumption) | with_reducible exact lxl_M_judge_24  _ (fun _ _  h => ih _ _ h) FU _ _ _ (by assumption) | with_reducible unfold f_M_judge_56 | with_reducible unfold f_M_judge_137 | with_reducible unfold f_M_judge_110 | with_reducible unfold f_M_judge_136 | with_reducible unfold f_M_judge_114 | with_reducible unfold f_M_judge_192 | with_reducible exact pc_some (by assumption) | with_reducible exact pc_none | with_reducible refine pc_chk (fun _ => ?_) | with_reducible refine pc_if (fun _ => ?_) (fun _ => ?_) | with_reducible refine pc_on ?_ (fun _ _ => ?_) | with_reducible refine pc_b1 (lx_M_judgeOne  _ _ (by assumption)) (fun _ _ => ?_) | with_reducible refine xl_lt (by assumption) (fun _ _ => ?_) | with_reducible refine xl_ltq (by assumption) (by omega) (fun _ _ => ?_) | with_reducible refine pf_b1 (fun _ => ?_) | with_reducible refine xf_ltv (fun _ => ?_)
set_option maxHeartbeats 4000000 in
theorem lxl_M_judge_146 {X : Nat → Prop} {S0 : SS}    : ∀ (n : Nat) (S : SS) (v1_ : Int), LX X S0 S → pc (f_M_judge_146  n S v1_) (LX X S0) := by
  intro n
  induction n with
  | zero => intro S v1_ h r e; exact absurd e (by simp [f_M_judge_146])
  | succ n ih =>
    intro S v1_ h
    show pc (f_M_judge_146_b (f_M_judge_146 n) S v1_) _
    unfold f_M_judge_146_b
    repeat' first | with_reducible exact ih _ _ (by assumption) | with_reducible exact lxl_M_judge_24  _ (fun _ _  h => ih _ _ h) FU _ _ _ (by assumption) | with_reducible exact lxl_M_judge_154  _ (fun _ _  h => ih _ _ h) FU _ _ _ (by assumption) | with_reducible unfold f_M_judge_56 | with_reducible unfold f_M_judge_137 | with_reducible unfold f_M_judge_110 | with_reducible unfold f_M_judge_136 | with_reducible unfold f_M_judge_114 | with_reducible unfold f_M_judge_192 | with_reducible exact pc_some (by assumption) | with_reducible exact pc_none | with_reducible refine pc_chk (fun _ => ?_) | with_reducible refine pc_if (fun _ => ?_) (fun _ => ?_) | with_reducible refine pc_on ?_ (fun _ _ => ?_) | with_reducible refine pc_b1 (lx_M_judgeOne  _ _ (by assumption)) (fun _ _ => ?_) | with_reducible refine xl_lt (by assumption) (fun _ _ => ?_) | with_reducible refine xl_ltq (by assumption) (by omega) (fun _ _ => ?_) | with_reducible refine pf_b1 (fun _ => ?_) | with_reducible refine xf_ltv (fun _ => ?_)
set_option maxHeartbeats 4000000 in
theorem lxl_M_judge_2 {X : Nat → Prop} {S0 : SS}    : ∀ (n : Nat) (S : SS) (v1_ : Int), LX X S0 S → pc (f_M_judge_2  n S v1_) (LX X S0) := by
  intro n
  induction n with
  | zero => intro S v1_ h r e; exact absurd e (by simp [f_M_judge_2])
  | succ n ih =>
    intro S v1_ h
    show pc (f_M_judge_2_b (f_M_judge_2 n) S v1_) _
    unfold f_M_judge_2_b
    repeat' first | with_reducible exact ih _ _ (by assumption) | with_reducible exact lxl_M_judge_24  _ (fun _ _  h => ih _ _ h) FU _ _ _ (by assumption) | with_reducible exact lxl_M_judge_154  _ (fun _ _  h => ih _ _ h) FU _ _ _ (by assumption) | with_reducible exact lxl_M_judge_146  FU _ _ (by assumption) | with_reducible unfold f_M_judge_56 | with_reducible unfold f_M_judge_137 | with_reducible unfold f_M_judge_110 | with_reducible unfold f_M_judge_136 | with_reducible unfold f_M_judge_114 | with_reducible unfold f_M_judge_192 | with_reducible exact pc_some (by assumption) | with_reducible exact pc_none | with_reducible refine pc_chk (fun _ => ?_) | with_reducible refine pc_if (fun _ => ?_) (fun _ => ?_) | with_reducible refine pc_on ?_ (fun _ _ => ?_) | with_reducible refine pc_b1 (lx_M_judgeOne  _ _ (by assumption)) (fun _ _ => ?_) | with_reducible refine xl_lt (by assumption) (fun _ _ => ?_) | with_reducible refine xl_ltq (by assumption) (by omega) (fun _ _ => ?_) | with_reducible refine pf_b1 (fun _ => ?_) | with_reducible refine xf_ltv (fun _ => ?_)
set_option maxHeartbeats 4000000 in
theorem lx_M_judge {X : Nat → Prop} {S0 : SS}  : ∀ (S : SS) , LX X S0 S → pc (f_M_judge S ) (LX X S0) := by
  intro S h
  unfold f_M_judge
  repeat' first | with_reducible exact lxl_M_judge_146  FU _ _ (by assumption) | with_reducible exact lxl_M_judge_2  FU _ _ (by assumption) | with_reducible unfold f_M_judge_56 | with_reducible unfold f_M_judge_137 | with_reducible unfold f_M_judge_110 | with_reducible unfold f_M_judge_136 | with_reducible unfold f_M_judge_114 | with_reducible unfold f_M_judge_192 | with_reducible exact pc_some (by assumption) | with_reducible exact pc_none | with_reducible refine pc_chk (fun _ => ?_) | with_reducible refine pc_if (fun _ => ?_) (fun _ => ?_) | with_reducible refine pc_on ?_ (fun _ _ => ?_) | with_reducible refine pc_b1 (lx_M_judgeOne  _ _ (by assumption)) (fun _ _ => ?_) | with_reducible refine xl_lt (by assumption) (fun _ _ => ?_) | with_reducible refine xl_ltq (by assumption) (by omega) (fun _ _ => ?_) | with_reducible refine pf_b1 (fun _ => ?_) | with_reducible refine xf_ltv (fun _ => ?_)
set_option maxHeartbeats 4000000 in
theorem lx_M_mark {X : Nat → Prop} {S0 : SS}  : ∀ (S : SS) (v1 : Int) (v2 : Int), LX X S0 S → pc (f_M_mark S v1 v2) (fun u => LX X S0 u.2) := by
  intro S v1 v2 h
  unfold f_M_mark
  repeat' first | with_reducible exact pc_some (by assumption) | with_reducible exact pc_none | with_reducible refine pc_chk (fun _ => ?_) | with_reducible refine pc_if (fun _ => ?_) (fun _ => ?_) | with_reducible refine pc_on ?_ (fun _ _ => ?_) | with_reducible refine pc_b1 (lx_M_judge  _ (by assumption)) (fun _ _ => ?_) | with_reducible refine xl_lt (by assumption) (fun _ _ => ?_) | with_reducible refine xl_ltq (by assumption) (by omega) (fun _ _ => ?_) | with_reducible refine pf_b1 (fun _ => ?_) | with_reducible refine xf_ltv (fun _ => ?_)
set_option maxHeartbeats 4000000 in
theorem lx_M_answer {X : Nat → Prop} {S0 : SS}  : ∀ (S : SS) (v1 : Int) (v2 : Int), LX X S0 S → pc (f_M_answer S v1 v2) (fun u => LX X S0 u.2) := by
  intro S v1 v2 h
  unfold f_M_answer
  repeat' first | with_reducible unfold f_M_answer_42 | with_reducible exact pc_some (by assumption) | with_reducible exact pc_none | with_reducible refine pc_chk (fun _ => ?_) | with_reducible refine pc_if (fun _ => ?_) (fun _ => ?_) | with_reducible refine pc_on ?_ (fun _ _ => ?_) | with_reducible refine pc_b1 (lx_M_judge  _ (by assumption)) (fun _ _ => ?_) | with_reducible refine xl_lt (by assumption) (fun _ _ => ?_) | with_reducible refine xl_ltq (by assumption) (by omega) (fun _ _ => ?_) | with_reducible refine pf_b1 (fun _ => ?_) | with_reducible refine xf_ltv (fun _ => ?_)
set_option maxHeartbeats 4000000 in
theorem lx_M_rank {X : Nat → Prop} {S0 : SS}  : ∀ (S : SS) (v1 : Int) (v2 : Int), LX X S0 S → pc (f_M_rank S v1 v2) (fun u => LX X S0 u.2) := by
  intro S v1 v2 h
  unfold f_M_rank
  repeat' first | with_reducible exact pc_some (by assumption) | with_reducible exact pc_none | with_reducible refine pc_chk (fun _ => ?_) | with_reducible refine pc_if (fun _ => ?_) (fun _ => ?_) | with_reducible refine pc_on ?_ (fun _ _ => ?_) | with_reducible refine xl_lt (by assumption) (fun _ _ => ?_) | with_reducible refine xl_ltq (by assumption) (by omega) (fun _ _ => ?_) | with_reducible refine pf_b1 (fun _ => ?_) | with_reducible refine xf_ltv (fun _ => ?_)
set_option maxHeartbeats 4000000 in
theorem lxl_M_use_8 {X : Nat → Prop} {S0 : SS}  (v1 : Int)  : ∀ (n : Nat) (S : SS) (v2_ : Int) (v3_ : Int), LX X S0 S → pc (f_M_use_8 v1 n S v2_ v3_) (LX X S0) := by
  intro n
  induction n with
  | zero => intro S v2_ v3_ h r e; exact absurd e (by simp [f_M_use_8])
  | succ n ih =>
    intro S v2_ v3_ h
    show pc (f_M_use_8_b v1 (f_M_use_8 v1 n) S v2_ v3_) _
    unfold f_M_use_8_b
    repeat' first | with_reducible exact ih _ _ _ (by assumption) | with_reducible unfold f_M_use_73 | with_reducible unfold f_M_use_70 | with_reducible unfold f_M_use_35 | with_reducible exact pc_some (by assumption) | with_reducible exact pc_none | with_reducible refine pc_chk (fun _ => ?_) | with_reducible refine pc_if (fun _ => ?_) (fun _ => ?_) | with_reducible refine pc_on ?_ (fun _ _ => ?_) | with_reducible refine pc_b1 (lx_M_judge  _ (by assumption)) (fun _ _ => ?_) | with_reducible refine xl_lt (by assumption) (fun _ _ => ?_) | with_reducible refine xl_ltq (by assumption) (by omega) (fun _ _ => ?_) | with_reducible refine pf_b1 (fun _ => ?_) | with_reducible refine xf_ltv (fun _ => ?_)
set_option maxHeartbeats 4000000 in
theorem lx_M_use {X : Nat → Prop} {S0 : SS}  : ∀ (S : SS) (v1 : Int), LX X S0 S → pc (f_M_use S v1) (LX X S0) := by
  intro S v1 h
  unfold f_M_use
  repeat' first | with_reducible exact lxl_M_use_8  _ FU _ _ _ (by assumption) | with_reducible unfold f_M_use_73 | with_reducible unfold f_M_use_70 | with_reducible unfold f_M_use_35 | with_reducible exact pc_some (by assumption) | with_reducible exact pc_none | with_reducible refine pc_chk (fun _ => ?_) | with_reducible refine pc_if (fun _ => ?_) (fun _ => ?_) | with_reducible refine pc_on ?_ (fun _ _ => ?_) | with_reducible refine pc_b1 (lx_M_judge  _ (by assumption)) (fun _ _ => ?_) | with_reducible refine xl_lt (by assumption) (fun _ _ => ?_) | with_reducible refine xl_ltq (by assumption) (by omega) (fun _ _ => ?_) | with_reducible refine pf_b1 (fun _ => ?_) | with_reducible refine xf_ltv (fun _ => ?_)
set_option maxHeartbeats 4000000 in
theorem lx_M_put {X : Nat → Prop} {S0 : SS} (x_195 : X 195) : ∀ (S : SS) (w1 : Int64), LX X S0 S → pc (f_M_put S w1) (LX X S0) := by
  intro S w1 h
  unfold f_M_put
  repeat' first | with_reducible exact pc_some (by assumption) | with_reducible exact pc_none | with_reducible refine pc_chk (fun _ => ?_) | with_reducible refine pc_if (fun _ => ?_) (fun _ => ?_) | with_reducible refine pc_on ?_ (fun _ _ => ?_) | with_reducible refine xl_lt (by assumption) (fun _ _ => ?_) | with_reducible refine xl_lts (by assumption) (by first | exact x_195) (fun _ _ => ?_) | with_reducible refine xl_ltq (by assumption) (by omega) (fun _ _ => ?_) | with_reducible refine pf_b1 (fun _ => ?_) | with_reducible refine xf_ltv (fun _ => ?_)
set_option maxHeartbeats 4000000 in
theorem lxl_M_putWords_2 {X : Nat → Prop} {S0 : SS} (x_195 : X 195) (v1 : Int)  : ∀ (n : Nat) (S : SS) (v2_ : Int), LX X S0 S → pc (f_M_putWords_2 v1 n S v2_) (LX X S0) := by
  intro n
  induction n with
  | zero => intro S v2_ h r e; exact absurd e (by simp [f_M_putWords_2])
  | succ n ih =>
    intro S v2_ h
    show pc (f_M_putWords_2_b v1 (f_M_putWords_2 v1 n) S v2_) _
    unfold f_M_putWords_2_b
    repeat' first | with_reducible exact ih _ _ (by assumption) | with_reducible exact pc_some (by assumption) | with_reducible exact pc_none | with_reducible refine pc_chk (fun _ => ?_) | with_reducible refine pc_if (fun _ => ?_) (fun _ => ?_) | with_reducible refine pc_on ?_ (fun _ _ => ?_) | with_reducible refine pc_b1 (lx_M_put (x_195 := x_195) _ _ (by assumption)) (fun _ _ => ?_) | with_reducible refine xl_lt (by assumption) (fun _ _ => ?_) | with_reducible refine xl_lts (by assumption) (by first | exact x_195) (fun _ _ => ?_) | with_reducible refine xl_ltq (by assumption) (by omega) (fun _ _ => ?_) | with_reducible refine pf_b1 (fun _ => ?_) | with_reducible refine xf_ltv (fun _ => ?_)
set_option maxHeartbeats 4000000 in
theorem lx_M_putWords {X : Nat → Prop} {S0 : SS} (x_195 : X 195) : ∀ (S : SS) (v1 : Int), LX X S0 S → pc (f_M_putWords S v1) (LX X S0) := by
  intro S v1 h
  unfold f_M_putWords
  repeat' first | with_reducible exact lxl_M_putWords_2 (x_195 := x_195) _ FU _ _ (by assumption) | with_reducible exact pc_some (by assumption) | with_reducible exact pc_none | with_reducible refine pc_chk (fun _ => ?_) | with_reducible refine pc_if (fun _ => ?_) (fun _ => ?_) | with_reducible refine pc_on ?_ (fun _ _ => ?_) | with_reducible refine pc_b1 (lx_M_put (x_195 := x_195) _ _ (by assumption)) (fun _ _ => ?_) | with_reducible refine xl_lt (by assumption) (fun _ _ => ?_) | with_reducible refine xl_lts (by assumption) (by first | exact x_195) (fun _ _ => ?_) | with_reducible refine xl_ltq (by assumption) (by omega) (fun _ _ => ?_) | with_reducible refine pf_b1 (fun _ => ?_) | with_reducible refine xf_ltv (fun _ => ?_)
set_option maxHeartbeats 4000000 in
theorem lxl_M_layWord_13 {X : Nat → Prop} {S0 : SS} (x_195 : X 195) (v1 : Int) (v2 : Int)  : ∀ (n : Nat) (S : SS) (v3_ : Int), LX X S0 S → pc (f_M_layWord_13 v1 v2 n S v3_) (LX X S0) := by
  intro n
  induction n with
  | zero => intro S v3_ h r e; exact absurd e (by simp [f_M_layWord_13])
  | succ n ih =>
    intro S v3_ h
    show pc (f_M_layWord_13_b v1 v2 (f_M_layWord_13 v1 v2 n) S v3_) _
    unfold f_M_layWord_13_b
    repeat' first | with_reducible exact ih _ _ (by assumption) | with_reducible unfold f_M_layWord_100 | with_reducible unfold f_M_layWord_49 | with_reducible exact pc_some (by assumption) | with_reducible exact pc_none | with_reducible refine pc_chk (fun _ => ?_) | with_reducible refine pc_if (fun _ => ?_) (fun _ => ?_) | with_reducible refine pc_on ?_ (fun _ _ => ?_) | with_reducible refine pc_b1 (lx_M_putWords (x_195 := x_195) _ _ (by assumption)) (fun _ _ => ?_) | with_reducible refine pc_b1 (lx_M_put (x_195 := x_195) _ _ (by assumption)) (fun _ _ => ?_) | with_reducible refine xl_lt (by assumption) (fun _ _ => ?_) | with_reducible refine xl_lts (by assumption) (by first | exact x_195) (fun _ _ => ?_) | with_reducible refine xl_ltq (by assumption) (by omega) (fun _ _ => ?_) | with_reducible refine pf_b1 (fun _ => ?_) | with_reducible refine xf_ltv (fun _ => ?_)
set_option maxHeartbeats 4000000 in
theorem lx_M_layWord {X : Nat → Prop} {S0 : SS} (x_195 : X 195) : ∀ (S : SS) (v1 : Int) (v2 : Int), LX X S0 S → pc (f_M_layWord S v1 v2) (LX X S0) := by
  intro S v1 v2 h
  unfold f_M_layWord
  repeat' first | with_reducible exact lxl_M_layWord_13 (x_195 := x_195) _ _ FU _ _ (by assumption) | with_reducible unfold f_M_layWord_100 | with_reducible unfold f_M_layWord_49 | with_reducible exact pc_some (by assumption) | with_reducible exact pc_none | with_reducible refine pc_chk (fun _ => ?_) | with_reducible refine pc_if (fun _ => ?_) (fun _ => ?_) | with_reducible refine pc_on ?_ (fun _ _ => ?_) | with_reducible refine pc_b1 (lx_M_putWords (x_195 := x_195) _ _ (by assumption)) (fun _ _ => ?_) | with_reducible refine pc_b1 (lx_M_put (x_195 := x_195) _ _ (by assumption)) (fun _ _ => ?_) | with_reducible refine xl_lt (by assumption) (fun _ _ => ?_) | with_reducible refine xl_lts (by assumption) (by first | exact x_195) (fun _ _ => ?_) | with_reducible refine xl_ltq (by assumption) (by omega) (fun _ _ => ?_) | with_reducible refine pf_b1 (fun _ => ?_) | with_reducible refine xf_ltv (fun _ => ?_)
theorem lxl_M_layGap {X : Nat → Prop} {S0 : SS} (x_195 : X 195) (rk : SS → Int → Int → Int → Option SS) (hrk : ∀ S a b c, LX X S0 S → pc (rk S a b c) (LX X S0)) (v1 : Int) : ∀ (n : Nat) (S : SS) (v2_ : Int), LX X S0 S → pc (f_M_layGap_2 rk v1 n S v2_) (LX X S0) := by
  intro n
  induction n with
  | zero => intro S v2_ h r e; exact absurd e (by simp [f_M_layGap_2])
  | succ n ih =>
    intro S v2_ h
    show pc (f_M_layGap_2_b rk v1 (f_M_layGap_2 rk v1 n) S v2_) _
    unfold f_M_layGap_2_b
    repeat' first | with_reducible exact ih _ _ (by assumption) | unfold f_M_layGap_66 | with_reducible exact pc_some (by assumption) | with_reducible refine pc_chk (fun _ => ?_) | with_reducible refine pc_if (fun _ => ?_) (fun _ => ?_) | with_reducible refine pc_b1 (hrk _ _ _ _ (by assumption)) (fun _ _ => ?_) | with_reducible refine pc_b1 (lx_M_putWords x_195 _ _ (by assumption)) (fun _ _ => ?_) | with_reducible refine pf_b1 (fun _ => ?_)
theorem lxl_M_layRowB {X : Nat → Prop} {S0 : SS} (x_195 : X 195) (rk : SS → Int → Int → Int → Option SS) (hrk : ∀ S a b c, LX X S0 S → pc (rk S a b c) (LX X S0)) (v1 v2 v3 : Int) : ∀ (n : Nat) (S : SS) (v4_ : Int), LX X S0 S → pc (f_M_layRowB_3 rk v1 v2 v3 n S v4_) (LX X S0) := by
  intro n
  induction n with
  | zero => intro S v4_ h r e; exact absurd e (by simp [f_M_layRowB_3])
  | succ n ih =>
    intro S v4_ h
    show pc (f_M_layRowB_3_b rk v1 v2 v3 (f_M_layRowB_3 rk v1 v2 v3 n) S v4_) _
    unfold f_M_layRowB_3_b f_M_layGap
    repeat' first | with_reducible exact ih _ _ (by assumption) | unfold f_M_layRowB_32 | with_reducible exact pc_some (by assumption) | with_reducible refine pc_chk (fun _ => ?_) | with_reducible refine pc_if (fun _ => ?_) (fun _ => ?_) | with_reducible refine pc_b1 (hrk _ _ _ _ (by assumption)) (fun _ _ => ?_) | with_reducible refine pc_b1 (lxl_M_layGap x_195 rk hrk _ FU _ _ (by assumption)) (fun _ _ => ?_) | with_reducible refine pc_b1 (lx_M_layWord x_195 _ _ _ (by assumption)) (fun _ _ => ?_) | with_reducible refine pf_b1 (fun _ => ?_)
theorem lxl_M_layRow {X : Nat → Prop} {S0 : SS} (x_195 : X 195) : ∀ (n : Nat) (S : SS) (a b c : Int), LX X S0 S → pc (f_M_layRow n S a b c) (LX X S0) := by
  intro n
  induction n with
  | zero => intro S a b c h r e; exact absurd e (by simp [f_M_layRow])
  | succ n ih =>
    intro S a b c h
    show pc (f_M_layRowB (f_M_layRow n) S a b c) _
    unfold f_M_layRowB
    exact lxl_M_layRowB x_195 _ ih _ _ _ FU S _ h
theorem lx_M_make {X : Nat → Prop} {S0 : SS} (x_195 : X 195) : ∀ (S : SS) (v1 : Int), LX X S0 S → pc (f_M_make S v1) (LX X S0) := by
  intro S v1 h
  unfold f_M_make f_M_layGap
  have hr := lxl_M_layRow (S0 := S0) x_195 43
  have hg := fun v => lxl_M_layGap (S0 := S0) x_195 (f_M_layRow 43) hr v FU
  exact pc_b1 (lx_M_use S v1 h) (fun S1 h1 => xl_lt h1 (fun S3 h3 => pc_if (fun _ => pc_b1 (hg _ _ _ h3) (fun S14 h14 => pc_some h14)) (fun _ => pc_b1 (hg _ _ _ h3) (fun S5 h5 => pc_chk (fun _ => pc_b1 (hr _ _ _ _ h5) (fun S9 h9 => pc_b1 (hg _ _ _ h9) (fun S12 h12 => pc_some h12)))))))
set_option maxHeartbeats 4000000 in
theorem lx_M_wordsOf {X : Nat → Prop} {S0 : SS} (x_195 : X 195) : ∀ (S : SS) (v1 : Int), LX X S0 S → pc (f_M_wordsOf S v1) (fun u => LX X S0 u.2) := by
  intro S v1 h
  unfold f_M_wordsOf
  repeat' first | with_reducible unfold f_M_wordsOf_10 | with_reducible exact pc_some (by assumption) | with_reducible exact pc_none | with_reducible refine pc_chk (fun _ => ?_) | with_reducible refine pc_if (fun _ => ?_) (fun _ => ?_) | with_reducible refine pc_on ?_ (fun _ _ => ?_) | with_reducible refine pc_b1 (lx_M_make (x_195 := x_195) _ _ (by assumption)) (fun _ _ => ?_) | with_reducible refine xl_lt (by assumption) (fun _ _ => ?_) | with_reducible refine xl_lts (by assumption) (by first | exact x_195) (fun _ _ => ?_) | with_reducible refine xl_ltq (by assumption) (by omega) (fun _ _ => ?_) | with_reducible refine pf_b1 (fun _ => ?_) | with_reducible refine xf_ltv (fun _ => ?_)
set_option maxHeartbeats 4000000 in
theorem lx_M_word {X : Nat → Prop} {S0 : SS} (x_195 : X 195) : ∀ (S : SS) (v1 : Int) (v2 : Int), LX X S0 S → pc (f_M_word S v1 v2) (fun u => LX X S0 u.2) := by
  intro S v1 v2 h
  unfold f_M_word
  repeat' first | with_reducible exact pc_some (by assumption) | with_reducible exact pc_none | with_reducible refine pc_chk (fun _ => ?_) | with_reducible refine pc_if (fun _ => ?_) (fun _ => ?_) | with_reducible refine pc_on ?_ (fun _ _ => ?_) | with_reducible refine pc_b2 (lx_M_wordsOf (x_195 := x_195) _ _ (by assumption)) (fun _ _ _ => ?_) | with_reducible refine xl_lt (by assumption) (fun _ _ => ?_) | with_reducible refine xl_lts (by assumption) (by first | exact x_195) (fun _ _ => ?_) | with_reducible refine xl_ltq (by assumption) (by omega) (fun _ _ => ?_) | with_reducible refine pf_b1 (fun _ => ?_) | with_reducible refine xf_ltv (fun _ => ?_)
set_option maxHeartbeats 4000000 in
theorem lxl_M_apart_12 {X : Nat → Prop} {S0 : SS}  (v1 : Int) (v2 : Int) (v3 : Int) (v4 : Int)  (kf3_ : SS → Int → Option (Int × SS)) (hkf3_ : ∀ S a0, LX X S0 S → pc (kf3_ S a0) (fun u => LX X S0 u.2)): ∀ (n : Nat) (S : SS) (v5_ : Int) (v6_ : Int), LX X S0 S → pc (f_M_apart_12 v1 v2 v3 v4 kf3_ n S v5_ v6_) (fun u => LX X S0 u.2) := by
  intro n
  induction n with
  | zero => intro S v5_ v6_ h r e; exact absurd e (by simp [f_M_apart_12])
  | succ n ih =>
    intro S v5_ v6_ h
    show pc (f_M_apart_12_b v1 v2 v3 v4 kf3_ (f_M_apart_12 v1 v2 v3 v4 kf3_ n) S v5_ v6_) _
    unfold f_M_apart_12_b
    repeat' first | with_reducible exact ih _ _ _ (by assumption) | with_reducible exact hkf3_ _ _ (by assumption) | with_reducible unfold f_M_apart_140 | with_reducible unfold f_M_apart_85 | with_reducible unfold f_M_apart_84 | with_reducible exact pc_some (by assumption) | with_reducible exact pc_none | with_reducible refine pc_chk (fun _ => ?_) | with_reducible refine pc_if (fun _ => ?_) (fun _ => ?_) | with_reducible refine pc_on ?_ (fun _ _ => ?_) | with_reducible refine xl_lt (by assumption) (fun _ _ => ?_) | with_reducible refine xl_ltq (by assumption) (by omega) (fun _ _ => ?_) | with_reducible refine pf_b1 (fun _ => ?_) | with_reducible refine xf_ltv (fun _ => ?_)
set_option maxHeartbeats 4000000 in
theorem lxl_M_apart_3 {X : Nat → Prop} {S0 : SS}  (v1 : Int) (v2 : Int) (v3 : Int) (v4 : Int)  : ∀ (n : Nat) (S : SS) (v5_ : Int), LX X S0 S → pc (f_M_apart_3 v1 v2 v3 v4 n S v5_) (fun u => LX X S0 u.2) := by
  intro n
  induction n with
  | zero => intro S v5_ h r e; exact absurd e (by simp [f_M_apart_3])
  | succ n ih =>
    intro S v5_ h
    show pc (f_M_apart_3_b v1 v2 v3 v4 (f_M_apart_3 v1 v2 v3 v4 n) S v5_) _
    unfold f_M_apart_3_b
    repeat' first | with_reducible exact ih _ _ (by assumption) | with_reducible exact lxl_M_apart_12  _ _ _ _ _ (fun _ _  h => ih _ _ h) FU _ _ _ (by assumption) | with_reducible unfold f_M_apart_140 | with_reducible unfold f_M_apart_85 | with_reducible unfold f_M_apart_84 | with_reducible exact pc_some (by assumption) | with_reducible exact pc_none | with_reducible refine pc_chk (fun _ => ?_) | with_reducible refine pc_if (fun _ => ?_) (fun _ => ?_) | with_reducible refine pc_on ?_ (fun _ _ => ?_) | with_reducible refine xl_lt (by assumption) (fun _ _ => ?_) | with_reducible refine xl_ltq (by assumption) (by omega) (fun _ _ => ?_) | with_reducible refine pf_b1 (fun _ => ?_) | with_reducible refine xf_ltv (fun _ => ?_)
set_option maxHeartbeats 4000000 in
theorem lx_M_apart {X : Nat → Prop} {S0 : SS}  : ∀ (S : SS) (v1 : Int) (v2 : Int) (v3 : Int) (v4 : Int), LX X S0 S → pc (f_M_apart S v1 v2 v3 v4) (fun u => LX X S0 u.2) := by
  intro S v1 v2 v3 v4 h
  unfold f_M_apart
  repeat' first | with_reducible exact lxl_M_apart_3  _ _ _ _ FU _ _ (by assumption) | with_reducible unfold f_M_apart_140 | with_reducible unfold f_M_apart_85 | with_reducible unfold f_M_apart_84 | with_reducible exact pc_some (by assumption) | with_reducible exact pc_none | with_reducible refine pc_chk (fun _ => ?_) | with_reducible refine pc_if (fun _ => ?_) (fun _ => ?_) | with_reducible refine pc_on ?_ (fun _ _ => ?_) | with_reducible refine xl_lt (by assumption) (fun _ _ => ?_) | with_reducible refine xl_ltq (by assumption) (by omega) (fun _ _ => ?_) | with_reducible refine pf_b1 (fun _ => ?_) | with_reducible refine xf_ltv (fun _ => ?_)
set_option maxHeartbeats 4000000 in
theorem lx_M_distance {X : Nat → Prop} {S0 : SS} (x_195 : X 195) : ∀ (S : SS) (v1 : Int) (v2 : Int), LX X S0 S → pc (f_M_distance S v1 v2) (fun u => LX X S0 u.2) := by
  intro S v1 v2 h
  unfold f_M_distance
  repeat' first | with_reducible exact pc_some (by assumption) | with_reducible exact pc_none | with_reducible refine pc_chk (fun _ => ?_) | with_reducible refine pc_if (fun _ => ?_) (fun _ => ?_) | with_reducible refine pc_on ?_ (fun _ _ => ?_) | with_reducible refine pc_b2 (lx_M_wordsOf (x_195 := x_195) _ _ (by assumption)) (fun _ _ _ => ?_) | with_reducible refine pc_b2 (lx_M_apart  _ _ _ _ _ (by assumption)) (fun _ _ _ => ?_) | with_reducible refine xl_lt (by assumption) (fun _ _ => ?_) | with_reducible refine xl_lts (by assumption) (by first | exact x_195) (fun _ _ => ?_) | with_reducible refine xl_ltq (by assumption) (by omega) (fun _ _ => ?_) | with_reducible refine pf_b1 (fun _ => ?_) | with_reducible refine xf_ltv (fun _ => ?_)
set_option maxHeartbeats 4000000 in
theorem lx_M_costs {X : Nat → Prop} {S0 : SS}  : ∀ (S : SS) (v1 : Int) (v2 : Int), LX X S0 S → pc (f_M_costs S v1 v2) (fun u => LX X S0 u.2) := by
  intro S v1 v2 h
  unfold f_M_costs
  repeat' first | with_reducible exact pc_some (by assumption) | with_reducible exact pc_none | with_reducible refine pc_chk (fun _ => ?_) | with_reducible refine pc_if (fun _ => ?_) (fun _ => ?_) | with_reducible refine pc_on ?_ (fun _ _ => ?_) | with_reducible refine xl_lt (by assumption) (fun _ _ => ?_) | with_reducible refine xl_ltq (by assumption) (by omega) (fun _ _ => ?_) | with_reducible refine pf_b1 (fun _ => ?_) | with_reducible refine xf_ltv (fun _ => ?_)
set_option maxHeartbeats 4000000 in
theorem lxl_M_trace_24 {X : Nat → Prop} {S0 : SS}    : ∀ (n : Nat) (S : SS) (v1_ : Int) (v2_ : Int) (v3_ : Int), LX X S0 S → pc (f_M_trace_24  n S v1_ v2_ v3_) (LX X S0) := by
  intro n
  induction n with
  | zero => intro S v1_ v2_ v3_ h r e; exact absurd e (by simp [f_M_trace_24])
  | succ n ih =>
    intro S v1_ v2_ v3_ h
    show pc (f_M_trace_24_b (f_M_trace_24 n) S v1_ v2_ v3_) _
    unfold f_M_trace_24_b
    repeat' first | with_reducible exact ih _ _ _ _ (by assumption) | with_reducible unfold f_M_trace_258 | with_reducible unfold f_M_trace_245 | with_reducible unfold f_M_trace_240 | with_reducible unfold f_M_trace_195 | with_reducible unfold f_M_trace_166 | with_reducible unfold f_M_trace_165 | with_reducible unfold f_M_trace_128 | with_reducible unfold f_M_trace_127 | with_reducible unfold f_M_trace_87 | with_reducible exact pc_some (by assumption) | with_reducible exact pc_none | with_reducible refine pc_chk (fun _ => ?_) | with_reducible refine pc_if (fun _ => ?_) (fun _ => ?_) | with_reducible refine pc_on ?_ (fun _ _ => ?_) | with_reducible refine pc_b2 (lx_M_apart  _ _ _ _ _ (by assumption)) (fun _ _ _ => ?_) | with_reducible refine xl_lt (by assumption) (fun _ _ => ?_) | with_reducible refine xl_ltq (by assumption) (by omega) (fun _ _ => ?_) | with_reducible refine pf_b1 (fun _ => ?_) | with_reducible refine xf_ltv (fun _ => ?_)
set_option maxHeartbeats 4000000 in
theorem lx_M_trace {X : Nat → Prop} {S0 : SS}  : ∀ (S : SS) , LX X S0 S → pc (f_M_trace S ) (LX X S0) := by
  intro S h
  unfold f_M_trace
  repeat' first | with_reducible exact lxl_M_trace_24  FU _ _ _ _ (by assumption) | with_reducible unfold f_M_trace_258 | with_reducible unfold f_M_trace_245 | with_reducible unfold f_M_trace_240 | with_reducible unfold f_M_trace_195 | with_reducible unfold f_M_trace_166 | with_reducible unfold f_M_trace_165 | with_reducible unfold f_M_trace_128 | with_reducible unfold f_M_trace_127 | with_reducible unfold f_M_trace_87 | with_reducible exact pc_some (by assumption) | with_reducible exact pc_none | with_reducible refine pc_chk (fun _ => ?_) | with_reducible refine pc_if (fun _ => ?_) (fun _ => ?_) | with_reducible refine pc_on ?_ (fun _ _ => ?_) | with_reducible refine pc_b2 (lx_M_apart  _ _ _ _ _ (by assumption)) (fun _ _ _ => ?_) | with_reducible refine xl_lt (by assumption) (fun _ _ => ?_) | with_reducible refine xl_ltq (by assumption) (by omega) (fun _ _ => ?_) | with_reducible refine pf_b1 (fun _ => ?_) | with_reducible refine xf_ltv (fun _ => ?_)
set_option maxHeartbeats 4000000 in
theorem lxl_M_hold_182 {X : Nat → Prop} {S0 : SS} (x_195 : X 195)   : ∀ (n : Nat) (S : SS) (v2_ : Int) (v3_ : Int) (v4_ : Int) (v5_ : Int), LX X S0 S → pc (f_M_hold_182  n S v2_ v3_ v4_ v5_) (fun u => LX X S0 u.2) := by
  intro n
  induction n with
  | zero => intro S v2_ v3_ v4_ v5_ h r e; exact absurd e (by simp [f_M_hold_182])
  | succ n ih =>
    intro S v2_ v3_ v4_ v5_ h
    show pc (f_M_hold_182_b (f_M_hold_182 n) S v2_ v3_ v4_ v5_) _
    unfold f_M_hold_182_b
    repeat' first | with_reducible exact ih _ _ _ _ _ (by assumption) | with_reducible unfold f_M_hold_31 | with_reducible unfold f_M_hold_155 | with_reducible unfold f_M_hold_139 | with_reducible unfold f_M_hold_134 | with_reducible unfold f_M_hold_138 | with_reducible unfold f_M_hold_238 | with_reducible unfold f_M_hold_235 | with_reducible exact pc_some (by assumption) | with_reducible exact pc_none | with_reducible refine pc_chk (fun _ => ?_) | with_reducible refine pc_if (fun _ => ?_) (fun _ => ?_) | with_reducible refine pc_on ?_ (fun _ _ => ?_) | with_reducible refine pc_b1 (lx_M_make (x_195 := x_195) _ _ (by assumption)) (fun _ _ => ?_) | with_reducible refine pc_b1 (lx_M_trace  _ (by assumption)) (fun _ _ => ?_) | with_reducible refine pc_b2 (lx_M_apart  _ _ _ _ _ (by assumption)) (fun _ _ _ => ?_) | with_reducible refine pc_b1 (lx_M_judge  _ (by assumption)) (fun _ _ => ?_) | with_reducible refine xl_lt (by assumption) (fun _ _ => ?_) | with_reducible refine xl_lts (by assumption) (by first | exact x_195) (fun _ _ => ?_) | with_reducible refine xl_ltq (by assumption) (by omega) (fun _ _ => ?_) | with_reducible refine pf_b1 (fun _ => ?_) | with_reducible refine xf_ltv (fun _ => ?_)
set_option maxHeartbeats 4000000 in
theorem lxl_M_hold_55 {X : Nat → Prop} {S0 : SS} (x_195 : X 195)   : ∀ (n : Nat) (S : SS) (v1_ : Int) (v2_ : Int) (v3_ : Int) (v4_ : Int), LX X S0 S → pc (f_M_hold_55  n S v1_ v2_ v3_ v4_) (fun u => LX X S0 u.2) := by
  intro n
  induction n with
  | zero => intro S v1_ v2_ v3_ v4_ h r e; exact absurd e (by simp [f_M_hold_55])
  | succ n ih =>
    intro S v1_ v2_ v3_ v4_ h
    show pc (f_M_hold_55_b (f_M_hold_55 n) S v1_ v2_ v3_ v4_) _
    unfold f_M_hold_55_b
    repeat' first | with_reducible exact ih _ _ _ _ _ (by assumption) | with_reducible exact lxl_M_hold_182 (x_195 := x_195) FU _ _ _ _ _ (by assumption) | with_reducible unfold f_M_hold_31 | with_reducible unfold f_M_hold_155 | with_reducible unfold f_M_hold_139 | with_reducible unfold f_M_hold_134 | with_reducible unfold f_M_hold_138 | with_reducible unfold f_M_hold_238 | with_reducible unfold f_M_hold_235 | with_reducible exact pc_some (by assumption) | with_reducible exact pc_none | with_reducible refine pc_chk (fun _ => ?_) | with_reducible refine pc_if (fun _ => ?_) (fun _ => ?_) | with_reducible refine pc_on ?_ (fun _ _ => ?_) | with_reducible refine pc_b1 (lx_M_make (x_195 := x_195) _ _ (by assumption)) (fun _ _ => ?_) | with_reducible refine pc_b1 (lx_M_trace  _ (by assumption)) (fun _ _ => ?_) | with_reducible refine pc_b2 (lx_M_apart  _ _ _ _ _ (by assumption)) (fun _ _ _ => ?_) | with_reducible refine pc_b1 (lx_M_judge  _ (by assumption)) (fun _ _ => ?_) | with_reducible refine xl_lt (by assumption) (fun _ _ => ?_) | with_reducible refine xl_lts (by assumption) (by first | exact x_195) (fun _ _ => ?_) | with_reducible refine xl_ltq (by assumption) (by omega) (fun _ _ => ?_) | with_reducible refine pf_b1 (fun _ => ?_) | with_reducible refine xf_ltv (fun _ => ?_)
set_option maxHeartbeats 4000000 in
theorem lxl_M_hold_8 {X : Nat → Prop} {S0 : SS} (x_195 : X 195)   : ∀ (n : Nat) (S : SS) (v1_ : Int) (v2_ : Int), LX X S0 S → pc (f_M_hold_8  n S v1_ v2_) (fun u => LX X S0 u.2) := by
  intro n
  induction n with
  | zero => intro S v1_ v2_ h r e; exact absurd e (by simp [f_M_hold_8])
  | succ n ih =>
    intro S v1_ v2_ h
    show pc (f_M_hold_8_b (f_M_hold_8 n) S v1_ v2_) _
    unfold f_M_hold_8_b
    repeat' first | with_reducible exact ih _ _ _ (by assumption) | with_reducible exact lxl_M_hold_182 (x_195 := x_195) FU _ _ _ _ _ (by assumption) | with_reducible exact lxl_M_hold_55 (x_195 := x_195) FU _ _ _ _ _ (by assumption) | with_reducible unfold f_M_hold_31 | with_reducible unfold f_M_hold_155 | with_reducible unfold f_M_hold_139 | with_reducible unfold f_M_hold_134 | with_reducible unfold f_M_hold_138 | with_reducible unfold f_M_hold_238 | with_reducible unfold f_M_hold_235 | with_reducible exact pc_some (by assumption) | with_reducible exact pc_none | with_reducible refine pc_chk (fun _ => ?_) | with_reducible refine pc_if (fun _ => ?_) (fun _ => ?_) | with_reducible refine pc_on ?_ (fun _ _ => ?_) | with_reducible refine pc_b1 (lx_M_make (x_195 := x_195) _ _ (by assumption)) (fun _ _ => ?_) | with_reducible refine pc_b1 (lx_M_trace  _ (by assumption)) (fun _ _ => ?_) | with_reducible refine pc_b2 (lx_M_apart  _ _ _ _ _ (by assumption)) (fun _ _ _ => ?_) | with_reducible refine pc_b1 (lx_M_judge  _ (by assumption)) (fun _ _ => ?_) | with_reducible refine xl_lt (by assumption) (fun _ _ => ?_) | with_reducible refine xl_lts (by assumption) (by first | exact x_195) (fun _ _ => ?_) | with_reducible refine xl_ltq (by assumption) (by omega) (fun _ _ => ?_) | with_reducible refine pf_b1 (fun _ => ?_) | with_reducible refine xf_ltv (fun _ => ?_)
set_option maxHeartbeats 4000000 in
theorem lx_M_hold {X : Nat → Prop} {S0 : SS} (x_195 : X 195) : ∀ (S : SS) , LX X S0 S → pc (f_M_hold S ) (fun u => LX X S0 u.2) := by
  intro S h
  unfold f_M_hold
  repeat' first | with_reducible exact lxl_M_hold_182 (x_195 := x_195) FU _ _ _ _ _ (by assumption) | with_reducible exact lxl_M_hold_55 (x_195 := x_195) FU _ _ _ _ _ (by assumption) | with_reducible exact lxl_M_hold_8 (x_195 := x_195) FU _ _ _ (by assumption) | with_reducible unfold f_M_hold_31 | with_reducible unfold f_M_hold_155 | with_reducible unfold f_M_hold_139 | with_reducible unfold f_M_hold_134 | with_reducible unfold f_M_hold_138 | with_reducible unfold f_M_hold_238 | with_reducible unfold f_M_hold_235 | with_reducible exact pc_some (by assumption) | with_reducible exact pc_none | with_reducible refine pc_chk (fun _ => ?_) | with_reducible refine pc_if (fun _ => ?_) (fun _ => ?_) | with_reducible refine pc_on ?_ (fun _ _ => ?_) | with_reducible refine pc_b1 (lx_M_make (x_195 := x_195) _ _ (by assumption)) (fun _ _ => ?_) | with_reducible refine pc_b1 (lx_M_trace  _ (by assumption)) (fun _ _ => ?_) | with_reducible refine pc_b2 (lx_M_apart  _ _ _ _ _ (by assumption)) (fun _ _ _ => ?_) | with_reducible refine pc_b1 (lx_M_judge  _ (by assumption)) (fun _ _ => ?_) | with_reducible refine xl_lt (by assumption) (fun _ _ => ?_) | with_reducible refine xl_lts (by assumption) (by first | exact x_195) (fun _ _ => ?_) | with_reducible refine xl_ltq (by assumption) (by omega) (fun _ _ => ?_) | with_reducible refine pf_b1 (fun _ => ?_) | with_reducible refine xf_ltv (fun _ => ?_)
set_option maxHeartbeats 4000000 in
theorem lx_M_error {X : Nat → Prop} {S0 : SS}  : ∀ (S : SS) (v1 : Int) (v2 : Int), LX X S0 S → pc (f_M_error S v1 v2) (fun u => LX X S0 u.2) := by
  intro S v1 v2 h
  unfold f_M_error
  repeat' first | with_reducible exact pc_some (by assumption) | with_reducible exact pc_none | with_reducible refine pc_chk (fun _ => ?_) | with_reducible refine pc_if (fun _ => ?_) (fun _ => ?_) | with_reducible refine pc_on ?_ (fun _ _ => ?_) | with_reducible refine xl_lt (by assumption) (fun _ _ => ?_) | with_reducible refine xl_ltq (by assumption) (by omega) (fun _ _ => ?_) | with_reducible refine pf_b1 (fun _ => ?_) | with_reducible refine xf_ltv (fun _ => ?_)
set_option maxHeartbeats 4000000 in
theorem lx_M_price {X : Nat → Prop} {S0 : SS}  : ∀ (S : SS) (v1 : Int) (v2 : Int), LX X S0 S → pc (f_M_price S v1 v2) (fun u => LX X S0 u.2) := by
  intro S v1 v2 h
  unfold f_M_price
  repeat' first | with_reducible exact pc_some (by assumption) | with_reducible exact pc_none | with_reducible refine pc_chk (fun _ => ?_) | with_reducible refine pc_if (fun _ => ?_) (fun _ => ?_) | with_reducible refine pc_on ?_ (fun _ _ => ?_) | with_reducible refine xl_lt (by assumption) (fun _ _ => ?_) | with_reducible refine xl_ltq (by assumption) (by omega) (fun _ _ => ?_) | with_reducible refine pf_b1 (fun _ => ?_) | with_reducible refine xf_ltv (fun _ => ?_)
set_option maxHeartbeats 4000000 in
theorem lxl_M_pays_21 {X : Nat → Prop} {S0 : SS}  (v1 : Int)  : ∀ (n : Nat) (S : SS) (v2_ : Int) (v3_ : Int), LX X S0 S → pc (f_M_pays_21 v1 n S v2_ v3_) (fun u => LX X S0 u.2) := by
  intro n
  induction n with
  | zero => intro S v2_ v3_ h r e; exact absurd e (by simp [f_M_pays_21])
  | succ n ih =>
    intro S v2_ v3_ h
    show pc (f_M_pays_21_b v1 (f_M_pays_21 v1 n) S v2_ v3_) _
    unfold f_M_pays_21_b
    repeat' first | with_reducible exact ih _ _ _ (by assumption) | with_reducible unfold f_M_pays_91 | with_reducible unfold f_M_pays_90 | with_reducible unfold f_M_pays_73 | with_reducible unfold f_M_pays_63 | with_reducible unfold f_M_pays_58 | with_reducible exact pc_some (by assumption) | with_reducible exact pc_none | with_reducible refine pc_chk (fun _ => ?_) | with_reducible refine pc_if (fun _ => ?_) (fun _ => ?_) | with_reducible refine pc_on ?_ (fun _ _ => ?_) | with_reducible refine pc_b1 (lx_M_judge  _ (by assumption)) (fun _ _ => ?_) | with_reducible refine xl_lt (by assumption) (fun _ _ => ?_) | with_reducible refine xl_ltq (by assumption) (by omega) (fun _ _ => ?_) | with_reducible refine pf_b1 (fun _ => ?_) | with_reducible refine xf_ltv (fun _ => ?_)
set_option maxHeartbeats 4000000 in
theorem lx_M_pays {X : Nat → Prop} {S0 : SS}  : ∀ (S : SS) (v1 : Int), LX X S0 S → pc (f_M_pays S v1) (fun u => LX X S0 u.2) := by
  intro S v1 h
  unfold f_M_pays
  repeat' first | with_reducible exact lxl_M_pays_21  _ FU _ _ _ (by assumption) | with_reducible unfold f_M_pays_91 | with_reducible unfold f_M_pays_90 | with_reducible unfold f_M_pays_73 | with_reducible unfold f_M_pays_63 | with_reducible unfold f_M_pays_58 | with_reducible exact pc_some (by assumption) | with_reducible exact pc_none | with_reducible refine pc_chk (fun _ => ?_) | with_reducible refine pc_if (fun _ => ?_) (fun _ => ?_) | with_reducible refine pc_on ?_ (fun _ _ => ?_) | with_reducible refine pc_b1 (lx_M_judge  _ (by assumption)) (fun _ _ => ?_) | with_reducible refine xl_lt (by assumption) (fun _ _ => ?_) | with_reducible refine xl_ltq (by assumption) (by omega) (fun _ _ => ?_) | with_reducible refine pf_b1 (fun _ => ?_) | with_reducible refine xf_ltv (fun _ => ?_)
set_option maxHeartbeats 4000000 in
theorem lxl_M_count_87 {X : Nat → Prop} {S0 : SS} (x_195 : X 195) (v1 : Int)  : ∀ (n : Nat) (S : SS) (v2_ : Int) (v3_ : Int), LX X S0 S → pc (f_M_count_87 v1 n S v2_ v3_) (fun u => LX X S0 u.2) := by
  intro n
  induction n with
  | zero => intro S v2_ v3_ h r e; exact absurd e (by simp [f_M_count_87])
  | succ n ih =>
    intro S v2_ v3_ h
    show pc (f_M_count_87_b v1 (f_M_count_87 v1 n) S v2_ v3_) _
    unfold f_M_count_87_b
    repeat' first | with_reducible exact ih _ _ _ (by assumption) | with_reducible unfold f_M_count_136 | with_reducible exact pc_some (by assumption) | with_reducible exact pc_none | with_reducible refine pc_chk (fun _ => ?_) | with_reducible refine pc_if (fun _ => ?_) (fun _ => ?_) | with_reducible refine pc_on ?_ (fun _ _ => ?_) | with_reducible refine pc_b1 (lx_M_judge  _ (by assumption)) (fun _ _ => ?_) | with_reducible refine pc_b2 (lx_M_wordsOf (x_195 := x_195) _ _ (by assumption)) (fun _ _ _ => ?_) | with_reducible refine xl_lt (by assumption) (fun _ _ => ?_) | with_reducible refine xl_lts (by assumption) (by first | exact x_195) (fun _ _ => ?_) | with_reducible refine xl_ltq (by assumption) (by omega) (fun _ _ => ?_) | with_reducible refine pf_b1 (fun _ => ?_) | with_reducible refine xf_ltv (fun _ => ?_)
set_option maxHeartbeats 4000000 in
theorem lx_M_count {X : Nat → Prop} {S0 : SS} (x_195 : X 195) : ∀ (S : SS) (v1 : Int), LX X S0 S → pc (f_M_count S v1) (fun u => LX X S0 u.2) := by
  intro S v1 h
  unfold f_M_count
  repeat' first | with_reducible exact lxl_M_count_87 (x_195 := x_195) _ FU _ _ _ (by assumption) | with_reducible unfold f_M_count_136 | with_reducible exact pc_some (by assumption) | with_reducible exact pc_none | with_reducible refine pc_chk (fun _ => ?_) | with_reducible refine pc_if (fun _ => ?_) (fun _ => ?_) | with_reducible refine pc_on ?_ (fun _ _ => ?_) | with_reducible refine pc_b1 (lx_M_judge  _ (by assumption)) (fun _ _ => ?_) | with_reducible refine pc_b2 (lx_M_wordsOf (x_195 := x_195) _ _ (by assumption)) (fun _ _ _ => ?_) | with_reducible refine xl_lt (by assumption) (fun _ _ => ?_) | with_reducible refine xl_lts (by assumption) (by first | exact x_195) (fun _ _ => ?_) | with_reducible refine xl_ltq (by assumption) (by omega) (fun _ _ => ?_) | with_reducible refine pf_b1 (fun _ => ?_) | with_reducible refine xf_ltv (fun _ => ?_)
theorem lq_listDone (S0 : SS) : ∀ (n : Nat) (S : SS) (v : Int), S.2 = S0.2 → pc (f_Pile_listDone_7 n S v) (fun S1 => S1.2 = S0.2) := by
  intro n
  induction n with
  | zero => intro S v _ r e; exact absurd e (by simp [f_Pile_listDone_7])
  | succ n ih =>
    intro S v h
    show pc (f_Pile_listDone_7_b (f_Pile_listDone_7 n) S v) _
    unfold f_Pile_listDone_7_b
    repeat' first | with_reducible exact ih _ _ (by assumption) | with_reducible exact pc_some (by assumption) | unfold f_Pile_listDone_64 | with_reducible refine pc_chk (fun _ => ?_) | with_reducible refine pc_if (fun _ => ?_) (fun _ => ?_) | with_reducible refine pc_on ?_ (fun _ _ => ?_) | with_reducible refine lq_lt (by assumption) (fun _ _ => ?_) | with_reducible refine pf_b1 (fun _ => ?_)
theorem lq_d49 (S0 : SS) (kf : SS → Int → Option SS) (hk : ∀ S v, S.2 = S0.2 → pc (kf S v) (fun S1 => S1.2 = S0.2)) : ∀ (n : Nat) (S : SS) (a b : Int), S.2 = S0.2 → pc (f_Pile_decide_49 kf n S a b) (fun S1 => S1.2 = S0.2) := by
  intro n
  induction n with
  | zero => intro S a b _ r e; exact absurd e (by simp [f_Pile_decide_49])
  | succ n ih =>
    intro S a b h
    show pc (f_Pile_decide_49_b kf (f_Pile_decide_49 kf n) S a b) _
    unfold f_Pile_decide_49_b
    repeat' first | with_reducible exact ih _ _ _ (by assumption) | with_reducible exact hk _ _ (by assumption) | unfold f_Pile_decide_109 | unfold f_Pile_decide_112 | with_reducible refine pc_chk (fun _ => ?_) | with_reducible refine pc_if (fun _ => ?_) (fun _ => ?_) | with_reducible refine pc_on ?_ (fun _ _ => ?_) | with_reducible refine lq_lt (by assumption) (fun _ _ => ?_) | with_reducible refine pf_b1 (fun _ => ?_)
theorem lq_d41 (S0 : SS) : ∀ (n : Nat) (S : SS) (a : Int), S.2 = S0.2 → pc (f_Pile_decide_41 n S a) (fun S1 => S1.2 = S0.2) := by
  intro n
  induction n with
  | zero => intro S a _ r e; exact absurd e (by simp [f_Pile_decide_41])
  | succ n ih =>
    intro S a h
    show pc (f_Pile_decide_41_b (f_Pile_decide_41 n) S a) _
    unfold f_Pile_decide_41_b f_Pile_listDone
    exact pc_if (fun _ => pc_b1 (lq_lt h (fun S1 h1 => lq_listDone S0 FU S1 0 h1)) (fun S1 h1 => pc_some h1)) (fun _ => lq_d49 S0 _ ih FU S a 0 h)
theorem lq_d2 (S0 : SS) : ∀ (n : Nat) (S : SS) (a : Int), S.2 = S0.2 → pc (f_Pile_decide_2 n S a) (fun S1 => S1.2 = S0.2) := by
  intro n
  induction n with
  | zero => intro S a _ r e; exact absurd e (by simp [f_Pile_decide_2])
  | succ n ih =>
    intro S a h
    show pc (f_Pile_decide_2_b (f_Pile_decide_2 n) S a) _
    unfold f_Pile_decide_2_b
    repeat' first | with_reducible exact ih _ _ (by assumption) | with_reducible exact lq_d41 S0 FU _ _ (by assumption) | unfold f_Pile_decide_33 | with_reducible refine pc_chk (fun _ => ?_) | with_reducible refine pc_if (fun _ => ?_) (fun _ => ?_) | with_reducible refine pc_on ?_ (fun _ _ => ?_) | with_reducible refine lq_lt (by assumption) (fun _ _ => ?_) | with_reducible refine pf_b1 (fun _ => ?_)
theorem lq_decide (S : SS) : pc (f_Pile_decide S) (fun S1 => S1.2 = S.2) := lq_d2 S FU S 0 rfl
theorem bit_hi : ∀ w : Fin 256, ∀ i : Fin 31, 8 ≤ i.val → ¬ andi (shri (w.val : Int) (i.val : Int)) 1 = 1 := by decide +kernel
/-- the class's left out and the reference's are the same -/
theorem us_eq {w : Int} (h0 : 0 ≤ w) (h1 : w < 256) {st st' : Nat → Int} {n : Nat} (hs : ∀ k, k < n → st k = st' k) {k : Nat} (hk : k < n) : c_us w st k = 1 ↔ m_us w st' k = 1 := by
  have dn : m_dn st k = m_dn st' k := m_dn_cg k (fun j hj => hs j (by omega))
  unfold c_us m_us
  rw [hs k hk, dn]
  have e : (st' k = 0 ∧ ¬ (m_dn st' k < 8 ∧ andi (shri w (m_dn st' k : Int)) 1 = 1)) ↔ (st' k = 0 ∧ ¬ (m_dn st' k < 31 ∧ andi (shri w (m_dn st' k : Int)) 1 = 1)) := by
    constructor
    · rintro ⟨a, b⟩
      refine ⟨a, fun z => b ⟨?_, z.2⟩⟩
      by_cases c : m_dn st' k < 8
      · exact c
      · have := bit_hi ⟨w.toNat, by omega⟩ ⟨m_dn st' k, z.1⟩ (by show 8 ≤ m_dn st' k; omega)
        rw [show (((⟨w.toNat, by omega⟩ : Fin 256).val : Nat) : Int) = w by show ((w.toNat : Nat) : Int) = w; omega] at this
        exact absurd z.2 this
    · rintro ⟨a, b⟩
      exact ⟨a, fun z => b ⟨by omega, z.2⟩⟩
  by_cases c : st' k = 0 ∧ ¬ (m_dn st' k < 8 ∧ andi (shri w (m_dn st' k : Int)) 1 = 1)
  · rw [if_pos c, if_pos (e.1 c)]
  · rw [if_neg c, if_neg (fun z => c (e.2 z))]
/-- taking and making: from what is decided to the text of the set w -/
theorem tx_tm {q : Nat} (hq : qok q) {S T : SS} {w : Int} (h0 : 0 ≤ w) (h1 : w < 256) (hg : ∀ k, k < 40 → gq S 11 k = some k) (hW : ∀ k, k < 40 → 0 ≤ gi S (14 + 4 * k + 2) 1 ∧ gi S (14 + 4 * k + 2) 1 ≤ 6) (hM : MX 0 T) (hN : NX T) (h3 : gi S 10 3 = gi T 192 27) (hK : ∀ k : Nat, (k : Int) < gi T 192 27 → MN S T k) (hD : CD S T) (h4 : gi S 4 1 = gi T 192 3) (hf : WF S T) (hm : WM S T) (hc : ((tx T w).length : Int) ≤ cap q) : pc (f_Setter_takeDone S w) (fun S3 => TKF S S3 ∧ pc (f_Setter_make S3 4 q) (fun S1 => HL (gl S1 (q + 1)) (gi S1 q 1) (tx T w) ∧ (∀ r k, r ≠ q + 1 → gl S1 r k = gl S r k) ∧ (∀ r k, r ≠ 178 → r ≠ 179 → gq S1 r k = gq S r k) ∧ ∀ r k, r ≠ 180 → ¬ (r = 178 ∧ k = 2) → ¬ (r = q ∧ k = 1) → gi S1 r k = gi S r k)) := by
  have b27 := mx_192_27 hM
  have tk := pc_take S w (m_st T) (q_n T) (by show (gi T 192 27).toNat ≤ 40; omega) hg (by rw [h3]; show gi T 192 27 = (((gi T 192 27).toNat : Nat) : Int); omega) hD.2.1 (fun j hj s => hD.2.2 j (by have hj : j < (gi T 192 27).toNat := hj; omega) s)
  refine pc_mono tk (fun S3 h => ⟨h.1, ?_⟩)
  obtain ⟨F, K⟩ := h
  have gl3 : ∀ r k, gl S3 r k = gl S r k := fun r k => by unfold gl; rw [F.2.1]
  have mk := tx_make hq (S := S3) (T := T) (u := c_us w (m_st T)) (w := w) (fun k hk => by rw [F.1 (14 + 4 * k + 2) 1 (by omega) (by omega)]; exact hW k hk) hM hN (fun k hk => MN_keep (hK k hk) (fun r j a => F.1 r j (by omega) (by omega)) (fun _ _ => rfl)) (by rw [F.1 4 1 (by omega) (by omega)]; exact h4) (fun k hk => us_eq h0 h1 (n := k + 1) (fun _ _ => rfl) (by omega)) K (fun i hi => by rw [gl3]; exact hf i hi) (fun k hk j hj => by rw [gl3]; exact hm k hk j hj) hc
  refine pc_mono mk (fun S1 h => ⟨h.1, fun r k a => by rw [h.2.1 r k a]; exact gl3 r k, fun r k a c => by rw [h.2.2.1 r k a]; exact F.2.2 r k c, fun r k a c d => by rw [h.2.2.2 r k d]; exact F.1 r k a c⟩)
/-- settling: the text is made anew -/
theorem tx_settle {S S1 T : SS} (hC : CX 0 S) (hM : MX 0 T) (hN : NX T) (h : RM S1 T) (e : f_MP_settle S = some S1) (hf : WF S T) (hm : WM S T) : (∀ r k, r ≠ 9 → gl S1 r k = gl S r k) ∧ HL (gl S1 9) (gi S1 8 1) (tx T 0) := by
  unfold f_MP_settle at e
  obtain ⟨S2, e2, e⟩ := w_b1E e
  obtain ⟨S3, e3, e⟩ := w_b1E e
  obtain ⟨S5, e5, e⟩ := w_b1E e
  cases e
  have l2 := lq_decide S S2 e2
  have f3 := fx_Setter_takeDone (X := fun r k => r = 180 ∨ (r = 178 ∧ k = 2)) (S0 := S2) (x_180 := fun k => .inl rfl) (x_178_2 := .inr ⟨rfl, rfl⟩) S2 _ (FX_refl _ S2) _ e3
  have f5 := fs_make (X := fun r k => r = 180 ∨ (r = 178 ∧ k = 2) ∨ (r = 8 ∧ k = 1)) (S0 := S2) (fun k => .inl rfl) (.inr (.inr ⟨rfl, rfl⟩)) S3 4 (fun r k a => f3.1 r k (by omega)) _ e5
  have f2 := fx_Pile_decide (X := XT) (S0 := S) (x_m_11 := fun j hj => by omega) (x_m_12 := fun j hj => by omega) (x_13 := fun k => by omega) (x_10_5 := by omega) S (FX_refl XT S) _ e2
  obtain ⟨hR, hy, hfe, hK, hD⟩ := h
  have en : gi S2 10 3 = gi T 192 27 := by rw [← hK.1]; exact (f5 10 3 (by omega)).symm
  have cd : CD S2 T := CD_cg hD rfl (fun _ _ => rfl) (fun j hj => (f5 _ 11 (by omega)).symm) (f5 10 5 (by omega)).symm (fun k => (f5 13 k (by omega)).symm)
  have b27 := mx_192_27 hM
  have L := tx_len hM hN 0
  have c8 : cap 8 = 300 := by decide
  have X := tx_tm (q := 8) (.inl rfl) (S := S2) (T := T) (w := 0) (by decide) (by decide) (fun k hk => by unfold gq; rw [l2]; exact hC.2.1 k hk) (fun k hk => by
    rw [f2.1 (14 + 4 * k + 2) 1 (by omega)]
    have := cx_sh hC (q := 14 + 4 * k + 2) (by omega)
    have cp : cap (14 + 4 * k + 2) = 6 := by
      unfold cap
      rw [if_neg (by omega), if_neg (by omega), if_neg (by omega), if_neg (by omega), if_neg (by omega)]
    omega) hM hN en (fun k hk => MN_keep (hK.2 k hk).1 (fun r j a => (f5 r j (by omega)).symm) (fun _ _ => rfl)) cd (by rw [← hR.2.1]; exact (f5 4 1 (by omega)).symm) (fun i hi => by rw [gl_2 l2]; exact hf i hi) (fun k hk j hj => by rw [gl_2 l2]; exact hm k hk j hj) (by omega) S3 e3
  have Y := X.2 S1 e5
  exact ⟨fun r k a => by rw [Y.2.1 r k a, gl_2 l2], Y.1⟩
theorem xl_wr {β : Type} {X : Nat → Prop} {S0 S : SS} {a c : Int} {g : SS → Option β} {P : β → Prop} (h : LX X S0 S) (hk : ∀ y, LX X S0 y → pc (g y) P) : pc (w_lt (f_M_wrong S a c) g) P := hk _ h
theorem lxl_M_readProof {X : Nat → Prop} {S0 : SS} (x_198 : X 198) (v1 : Int) : ∀ (n : Nat) (S : SS) (v2 v3 v4 : Int), LX X S0 S → pc (f_M_readProof_7 v1 n S v2 v3 v4) (fun u => LX X S0 u.2) := by
  intro n
  induction n with
  | zero => intro S v2 v3 v4 h r e; exact absurd e (by simp [f_M_readProof_7])
  | succ n ih =>
    intro S v2 v3 v4 h
    show pc (f_M_readProof_7_b v1 (f_M_readProof_7 v1 n) S v2 v3 v4) _
    unfold f_M_readProof_7_b f_M_readProof_86 f_M_readProof_112 f_M_readProof_51
    repeat' first | with_reducible exact ih _ _ _ _ (by assumption) | with_reducible exact pc_some (by assumption) | with_reducible refine pc_chk (fun _ => ?_) | with_reducible refine pc_if (fun _ => ?_) (fun _ => ?_) | with_reducible refine xl_wr (by assumption) (fun _ _ => ?_) | with_reducible refine xl_lts (by assumption) x_198 (fun _ _ => ?_) | with_reducible refine pf_b1 (fun _ => ?_)
abbrev X198 (r : Nat) : Prop := r = 198
theorem lx_rp {T T1 : SS} {most : Int} {o : Option Int} (h : f_M_readProof (f_M_begin T) most = some (o, T1)) : LX X198 T T1 := lxl_M_readProof (X := X198) (S0 := T) rfl most FU (f_M_begin T) 0 0 0 (LX_refl _ T) _ h
/-- THE RELATION of the texts: RM, all words, THE TEXT -/
def RT (S T : SS) : Prop := RM S T ∧ WF S T ∧ WS S T ∧ WM S T ∧ HL (gl S 9) (gi S 8 1) (tx T 0)
theorem RT_mk {S T S1 T1 : SS} (hM : MX 0 T) (hN : NX T) (h : RT S T) (hr : RM S1 T1) (cs : ∀ r k, r = 5 ∨ r = 7 ∨ r = 9 ∨ (14 ≤ r ∧ r < 174) → gl S1 r k = gl S r k) (c8 : gi S1 8 1 = gi S 8 1) (ts : ∀ r k, r = 193 ∨ r = 194 ∨ r = 206 → gl T1 r k = gl T r k) (ti : ∀ r k, (r = 192 ∧ (k = 3 ∨ k = 4 ∨ k = 27)) ∨ (199 ≤ r ∧ r ≤ 205) ∨ r = 207 ∨ r = 209 → gi T1 r k = gi T r k) : RT S1 T1 := by
  obtain ⟨_, h2, h3, h4, h5⟩ := h
  have b27 := mx_192_27 hM
  have en := ti 192 27 (by omega)
  refine ⟨hr, fun i hi => ?_, fun i hi => ?_, fun k hk j hj => ?_, ?_⟩
  · rw [ti 192 3 (by omega)] at hi
    rw [cs 5 i (by omega), ts 193 i (by omega)]; exact h2 i hi
  · rw [ti 192 4 (by omega)] at hi
    rw [cs 7 i (by omega), ts 194 i (by omega)]; exact h3 i hi
  · rw [en] at hk
    rw [ti 204 k (by omega)] at hj
    rw [cs (14 + 4 * k + 3) j (by omega), ts 206 _ (by omega)]; exact h4 k hk j hj
  · rw [tx_cg hM hN 0 en (ti 192 3 (by omega)) (mst_cg en (fun r k a => ti r k (by omega))) (fun r k a _ => ti r k (by omega)) (fun i _ => ts 193 i (by omega)) (fun k _ j _ => ts 206 _ (by omega))]
    exact HL_cg h5 c8 (fun i _ => cs 9 i (by omega))
theorem RT_set {S S1 T : SS} (hC : CX 0 S) (hM : MX 0 T) (hN : NX T) (hr : RM S1 T) (e : f_MP_settle S = some S1) (hf : WF S T) (hs : WS S T) (hm : WM S T) : RT S1 T := by
  have X := tx_settle hC hM hN hr e hf hm
  have b27 := mx_192_27 hM
  exact ⟨hr, fun i hi => (X.1 5 i (by decide)).trans (hf i hi), fun i hi => (X.1 7 i (by decide)).trans (hs i hi), fun k hk j hj => (X.1 (14 + 4 * k + 3) j (by omega)).trans (hm k hk j hj), X.2⟩
theorem RT_0 : RT SZ SZ := by
  refine ⟨RM_0, fun i hi => rfl, fun i hi => rfl, fun k hk => absurd hk ?_, ?_⟩
  · show ¬ (k : Int) < 0
    omega
  · have e : tx SZ 0 = [] := rfl
    rw [e]; exact HL_nil _
abbrev X195 (r : Nat) : Prop := r = 195
abbrev XNo (_ : Nat) : Prop := False
theorem RT_ref {S T T1 : SS} (hM : MX 0 T) (hN : NX T) (h : RT S T) (f2 : fr XH T T1) (l2 : LX X195 T T1) : RT S T1 := RT_mk hM hN h (RM_ref hM h.1 f2) (fun _ _ _ => rfl) rfl (fun r k a => l2.1 r k (by show ¬ r = 195; omega)) (fun r k p => f2 r k (by omega))
theorem RT_hold {S T S1 T1 : SS} {r t : Int} (hM : MX 0 T) (hN : NX T) (h : RT S T) (h1 : f_MP_hold S = some (r, S1)) (h2 : f_M_hold T = some (t, T1)) : RT S1 T1 := by
  have f1 := fs_hold S _ h1
  have f2 := fh_hold hM hN _ h2
  have l1 := ly_hold S _ h1
  have l2 := lx_M_hold (X := X195) (S0 := T) rfl T (LX_refl _ T) _ h2
  exact RT_mk hM hN h (RM_hold hM hN h.1 h1 h2) (fun r k a => l1 r k (by show ¬ r = 185; omega)) (f1 8 1 (by omega)) (fun r k a => l2.1 r k (by show ¬ r = 195; omega)) (fun r k p => f2 r k (by omega))
theorem RT_distance {S T S1 T1 : SS} {a1 a2 r t : Int} (hM : MX 0 T) (hN : NX T) (h : RT S T) (h1 : f_MP_distance S a1 a2 = some (r, S1)) (h2 : f_M_distance T a1 a2 = some (t, T1)) : RT S1 T1 := by
  have f1 := fx_MP_distance (X := fun r _ => r = 182) (S0 := S) (x_182 := fun k => rfl) S a1 a2 (FX_refl _ S) _ h1
  have f2 := fh_distance hM hN a1 a2 _ h2
  have l1 := lx_MP_distance (X := XNo) (S0 := S) S a1 a2 (LX_refl _ S) _ h1
  have l2 := lx_M_distance (X := X195) (S0 := T) rfl T a1 a2 (LX_refl _ T) _ h2
  exact RT_mk hM hN h (RM_distance hM hN h.1 h1 h2) (fun r k a => l1.1 r k (fun z => z)) (f1.1 8 1 (by omega)) (fun r k a => l2.1 r k (by show ¬ r = 195; omega)) (fun r k p => f2 r k (by omega))
theorem RT_feed {S T S1 T1 : SS} {a1 a2 a3 a4 a5 r t : Int} (hC : CX 0 S) (hM : MX 0 T) (hN : NX T) (h : RT S T) (h1 : f_MP_feed S a1 a2 a3 a4 a5 = some (r, S1)) (h2 : f_M_feed T a1 a2 a3 a4 a5 = some (t, T1)) : RT S1 T1 := by
  have f1 := fx_MP_feed (X := XCT) (S0 := S) (x_2 := fun k => .inl rfl) (x_1_1 := .inr ⟨rfl, rfl⟩) S a1 a2 a3 a4 a5 (FX_refl _ S) _ h1
  have f2 := fm_feed T a1 a2 a3 a4 a5 _ h2
  have l1 := lx_MP_feed (X := XNo) (S0 := S) S a1 a2 a3 a4 a5 (LX_refl _ S) _ h1
  have l2 := lx_M_feed (X := XNo) (S0 := T) T a1 a2 a3 a4 a5 (LX_refl _ T) _ h2
  exact RT_mk hM hN h (RM_feed hC hM h.1 h1 h2) (fun r k a => l1.1 r k (fun z => z)) (f1.1 8 1 (by omega)) (fun r k a => l2.1 r k (fun z => z)) (fun r k p => f2 r k (by omega))
theorem RT_end {S T S1 T1 : SS} {a1 r t : Int} (hM : MX 0 T) (hN : NX T) (h : RT S T) (h1 : f_MP_end S a1 = some (r, S1)) (h2 : f_M_end T a1 = some (t, T1)) : RT S1 T1 := by
  have f1 := fx_MP_end (X := XCT) (S0 := S) (x_1_1 := .inr ⟨rfl, rfl⟩) S a1 (FX_refl _ S) _ h1
  have f2 := fm_end T a1 _ h2
  have l1 := lx_MP_end (X := XNo) (S0 := S) S a1 (LX_refl _ S) _ h1
  have l2 := lx_M_end (X := XNo) (S0 := T) T a1 (LX_refl _ T) _ h2
  exact RT_mk hM hN h (RM_end hM h.1 h1 h2) (fun r k a => l1.1 r k (fun z => z)) (f1.1 8 1 (by omega)) (fun r k a => l2.1 r k (fun z => z)) (fun r k p => f2 r k (by omega))
theorem fm_price (T : SS) (a1 a2 : Int) : pc (f_M_price T a1 a2) (fun u => fr (fun r _ => r = 210) T u.2) := by
  unfold f_M_price
  exact pc_if (fun _ => pc_some (fr_refl _ T)) (fun _ => pc_if (fun _ => pc_some (fr_refl _ T)) (fun _ => pc_chk (fun _ => pc_chk (fun _ => pf_lt (fr_refl _ T) rfl (fun _ h => pc_some h)))))
theorem fm_costs (T : SS) (a1 a2 : Int) : pc (f_M_costs T a1 a2) (fun u => fr (fun r _ => r = 211) T u.2) := by
  unfold f_M_costs
  exact pc_if (fun _ => pc_some (fr_refl _ T)) (fun _ => pc_if (fun _ => pc_some (fr_refl _ T)) (fun _ => pc_chk (fun _ => pf_lt (fr_refl _ T) rfl (fun _ h => pc_chk (fun _ => pf_lt h rfl (fun _ h => pc_some h))))))
theorem fm_error8 (T : SS) (a1 a2 : Int) : pc (f_M_error T a1 a2) (fun u => fr (fun r _ => r = 208) T u.2) := by
  unfold f_M_error
  have h0 := fr_refl (fun r _ => r = 208) T
  exact pf_b1 (fun _ => pc_if (fun _ => pc_some h0) (fun _ => pc_chk (fun _ => pc_if (fun _ => pc_some h0) (fun _ => pc_chk (fun _ => pc_chk (fun _ => pc_chk (fun _ => pf_lt h0 rfl (fun _ h => pc_if (fun _ => pc_some h) (fun _ => pc_some h)))))))))
theorem RT_price {S T S1 T1 : SS} {a1 a2 r t : Int} (hM : MX 0 T) (hN : NX T) (h : RT S T) (h1 : f_MP_price S a1 a2 = some (r, S1)) (h2 : f_M_price T a1 a2 = some (t, T1)) : RT S1 T1 := by
  have f1 := fx_MP_price (X := fun r _ => r = 191) (S0 := S) (x_191 := fun k => rfl) S a1 a2 (FX_refl _ S) _ h1
  have f2 := fm_price T a1 a2 _ h2
  have l1 := lx_MP_price (X := XNo) (S0 := S) S a1 a2 (LX_refl _ S) _ h1
  have l2 := lx_M_price (X := XNo) (S0 := T) T a1 a2 (LX_refl _ T) _ h2
  exact RT_mk hM hN h (RM_price hM h.1 h1 h2) (fun r k a => l1.1 r k (fun z => z)) (f1.1 8 1 (by omega)) (fun r k a => l2.1 r k (fun z => z)) (fun r k p => f2 r k (by omega))
theorem RT_costs {S T S1 T1 : SS} {a1 a2 r t : Int} (hM : MX 0 T) (hN : NX T) (h : RT S T) (h1 : f_MP_costs S a1 a2 = some (r, S1)) (h2 : f_M_costs T a1 a2 = some (t, T1)) : RT S1 T1 := by
  have f1 := fx_MP_costs (X := fun r _ => r = 183) (S0 := S) (x_183_5 := rfl) (x_183_6 := rfl) S a1 a2 (FX_refl _ S) _ h1
  have f2 := fm_costs T a1 a2 _ h2
  have l1 := lx_MP_costs (X := XNo) (S0 := S) S a1 a2 (LX_refl _ S) _ h1
  have l2 := lx_M_costs (X := XNo) (S0 := T) T a1 a2 (LX_refl _ T) _ h2
  exact RT_mk hM hN h (RM_costs hM h.1 h1 h2) (fun r k a => l1.1 r k (fun z => z)) (f1.1 8 1 (by omega)) (fun r k a => l2.1 r k (fun z => z)) (fun r k p => f2 r k (by omega))
theorem RT_error {S T S1 T1 : SS} {a1 a2 r t : Int} (hC : CX 0 S) (hM : MX 0 T) (hN : NX T) (h : RT S T) (h1 : f_MP_error S a1 a2 = some (r, S1)) (h2 : f_M_error T a1 a2 = some (t, T1)) : RT S1 T1 := by
  have f1 := fx_MP_error (X := fun r k => 14 ≤ r ∧ r < 174 ∧ k = 9) (S0 := S) (x_m_9 := fun j hj => by omega) S a1 a2 (FX_refl _ S) _ h1
  have f2 := fm_error8 T a1 a2 _ h2
  have l1 := lx_MP_error (X := XNo) (S0 := S) S a1 a2 (LX_refl _ S) _ h1
  have l2 := lx_M_error (X := XNo) (S0 := T) T a1 a2 (LX_refl _ T) _ h2
  exact RT_mk hM hN h (RM_error hC hM h.1 h1 h2).1 (fun r k a => l1.1 r k (fun z => z)) (f1.1 8 1 (by omega)) (fun r k a => l2.1 r k (fun z => z)) (fun r k p => f2 r k (by omega))
theorem RT_rank {S T S1 T1 : SS} {a1 a2 r t : Int} (hC : CX 0 S) (hM : MX 0 T) (hN : NX T) (hM1 : MX 0 T1) (hN1 : NX T1) (h : RT S T) (h1 : f_MP_rank S a1 a2 = some (r, S1)) (h2 : f_M_rank T a1 a2 = some (t, T1)) : RT S1 T1 := by
  have hr := RM_rank hC hM hN h.1 h1 h2
  have i1 := in01 T a1 0 2
  have i2 := in01 T a2 0 9
  unfold f_MP_rank at h1
  unfold f_M_rank at h2
  by_cases c : 0 ≤ a1 ∧ a1 ≤ 2 ∧ 0 ≤ a2 ∧ a2 ≤ 9
  · rw [if_neg (by omega), if_neg (by omega), if_neg (by omega), if_pos (by omega)] at h1
    rw [if_neg (by omega), if_neg (by omega)] at h2
    obtain ⟨_, h2⟩ := w_chkE h2
    obtain ⟨_, h2⟩ := w_chkE h2
    have h2 := w_ltX h2
    cases h2
    obtain ⟨r1, er, h1⟩ := w_b1E h1
    obtain ⟨_, h1⟩ := w_chkE h1
    have h1 := w_ltX h1
    obtain ⟨S4, e4, h1⟩ := w_b1E h1
    cases h1
    have gT : ∀ r k, r ≠ 209 → gi (si T 209 a1.toNat a2) r k = gi T r k := fun r k a => gi_off (fun q => a q.1)
    refine RT_set (S := si S 12 a1.toNat a2) (cs_12 hC (by omega) (by omega)) hM1 hN1 hr e4 (fun i hi => ?_) (fun i hi => ?_) (fun k hk j hj => ?_)
    · rw [gT 192 3 (by omega)] at hi; exact h.2.1 i hi
    · rw [gT 192 4 (by omega)] at hi; exact h.2.2.1 i hi
    · rw [gT 192 27 (by omega)] at hk
      rw [gT 204 k (by omega)] at hj
      exact h.2.2.2.1 k hk j hj
  · have q2 : T1 = T := by
      by_cases d : 0 ≤ a1 ∧ a1 ≤ 2
      · rw [if_neg (by omega), if_pos (by omega)] at h2; cases h2; rfl
      · rw [if_pos (by omega)] at h2; cases h2; rfl
    have q1 : S1 = S := by
      by_cases d1 : a1 < 0
      · rw [if_pos d1] at h1; cases h1; rfl
      rw [if_neg d1] at h1
      by_cases d2 : 3 ≤ a1
      · rw [if_pos d2] at h1; cases h1; rfl
      rw [if_neg d2] at h1
      by_cases d3 : a2 < 0
      · rw [if_pos d3] at h1; cases h1; rfl
      rw [if_neg d3, if_neg (by omega)] at h1; cases h1; rfl
    rw [q1, q2]; exact h
theorem RT_answer {S T S1 T1 : SS} {a1 a2 r t : Int} (hC : CX 0 S) (hM : MX 0 T) (hN : NX T) (hM1 : MX 0 T1) (hN1 : NX T1) (h : RT S T) (h1 : f_MP_answer S a1 a2 = some (r, S1)) (h2 : f_M_answer T a1 a2 = some (t, T1)) : RT S1 T1 := by
  have hr := (RM_answer hC hM hN h.1 h1 h2).1
  have l2 := lx_M_answer (X := XNo) (S0 := T) T a1 a2 (LX_refl _ T) _ h2
  have m2 := fm_answer hM a1 a2 _ h2
  have b27 := mx_192_27 hM
  unfold f_MP_answer at h1
  unfold f_M_answer at h2
  obtain ⟨o, e1, h1⟩ := w_b1E h1
  obtain ⟨x, e2, h2⟩ := w_b1E h2
  have F := fd_is hC e1
  have I := im_is e2
  rw [h.1.2.2.2.1.1] at F
  rcases F with ⟨q, q2⟩ | ⟨q, q2, q3⟩
  · subst q
    have h1 := w_onN h1
    cases h1
    rw [if_pos (by omega)] at h2
    cases h2
    exact h
  · subst q
    have h1 := w_onS h1
    obtain ⟨_, h1⟩ := w_chkE h1
    rw [if_neg (by omega)] at h2
    obtain ⟨T3, e3, h2⟩ := w_b1E h2
    obtain ⟨j1, j2⟩ := pc_judge T hM T3 e3
    obtain ⟨_, h2⟩ := w_chkE h2
    have f3 : fr XH T T3 := fun r k a => j1.2 r k (by omega) (by omega)
    rw [j2 a1.toNat (by omega)] at h2
    rw [h.1.2.2.2.2.1 a1.toNat (by omega)] at h1
    by_cases c : m_st T a1.toNat = 3
    · rw [if_pos c] at h1 h2
      have h1 := w_ltX h1
      obtain ⟨bv, hv, h1⟩ : ∃ bv : Int, (bv = 1 ∨ bv = 0) ∧ f_MP_answer_42 a1 a2 (si S (14 + 4 * a1.toNat) 7 0) bv a1.toNat = some (r, S1) := by
        by_cases d : a2 = 0
        · rw [if_pos d] at h1; exact ⟨1, .inl rfl, h1⟩
        · rw [if_neg d] at h1; exact ⟨0, .inr rfl, h1⟩
      unfold f_MP_answer_42 at h1
      obtain ⟨_, h1⟩ := w_chkE h1
      have h1 := w_ltX h1
      obtain ⟨S3, e9, h1⟩ := w_b1E h1
      cases h1
      have C8 : CX 0 (si (si S (14 + 4 * a1.toNat) 7 0) (14 + 4 * a1.toNat) 8 bv) := cs_mk_8 (cs_mk_7 hC (by omega) (by decide) (by decide)) (by omega) (by omega) (by omega)
      refine RT_set C8 hM1 hN1 hr e9 (fun i hi => ?_) (fun i hi => ?_) (fun k hk j hj => ?_)
      · rw [m2 192 3 (by omega)] at hi
        rw [l2.1 193 i (fun z => z)]; exact h.2.1 i hi
      · rw [m2 192 4 (by omega)] at hi
        rw [l2.1 194 i (fun z => z)]; exact h.2.2.1 i hi
      · rw [m2 192 27 (by omega)] at hk
        rw [m2 204 k (by omega)] at hj
        rw [l2.1 206 _ (fun z => z)]; exact h.2.2.2.1 k hk j hj
    · rw [if_neg c] at h1 h2
      cases h1
      cases h2
      exact RT_ref hM hN h f3 ⟨fun r k _ => l2.1 r k (fun z => z), l2.2⟩
abbrev X176 (r : Nat) : Prop := r = 176
theorem RT_first {S T S1 T1 : SS} {r t : Int} (hC : CX 0 S) (hM : MX 0 T) (hN : NX T) (hM1 : MX 0 T1) (hN1 : NX T1) (h : RT S T) (h1 : f_MP_first S = some (r, S1)) (h2 : f_M_first T = some (t, T1)) : RT S1 T1 := by
  have hr := RM_first hC hM h.1 h1 h2
  unfold f_MP_first at h1
  unfold f_M_first at h2
  unfold w_lt at h1 h2
  obtain ⟨r2, S2, e2, h1⟩ := w_b2E h1
  have f2 := fx_SheetReader_readProof (X := XSR) (S0 := S) (x_3_0 := .inl rfl) (x_3_1 := .inl rfl) (x_175_1 := .inr rfl) S 60 (FX_refl _ S) _ e2
  have l2 := lx_SheetReader_readProof (X := X176) (S0 := S) (x_176 := rfl) S 60 (LX_refl _ S) _ e2
  have C2 : CX 0 S2 := (ok_true (ok_SheetReader_readProof S 60 hC (by decide)) _ e2).1
  have g11 : ∀ r k, ¬ (r = 1 ∧ k = 1) → gi (si S2 1 1 0) r k = gi S2 r k := fun r k a => gi_off a
  have C4 : CX 0 (si S2 1 1 0) := cs_1_1 C2 (by decide) (by decide)
  rcases w_b3E h2 with ⟨n, T2, e3, h2⟩ | ⟨T2, e3, h2⟩
  · have q := sim_readProof 60 (by decide) S T h.1.1.1 (cx_1_1 hC) r2 S2 (some n) T2 e2 e3
    have m2 := m_rp_is e3
    have lr := lx_rp e3
    rcases q.2 with ⟨qr, qo, q0, q1, qw⟩ | ⟨_, qo⟩
    · cases qo
      dsimp only at h1
      rw [if_neg (show ¬ r2 = 0 by omega)] at h1
      obtain ⟨S5, e5, h1⟩ := w_b1E h1
      obtain ⟨S9, e9, h1⟩ := w_b1E h1
      cases h1
      have k1 : gi (si S2 1 1 0) 175 1 = gi S2 175 1 := gi_off (by omega)
      have c4 : cap 4 = 60 := by decide
      have c175 : cap 175 = 150 := by decide
      have cp := sh_copy (by decide) (by decide) (by decide) e5 (by omega) (by omega) (by omega)
      have C5 : CX 0 S5 := (ok_true (ok_Sheet_copyFrom _ 4 175 C4 (by decide) (by decide)) _ e5).1
      have F := m_first_is FU T2 T1 (gi S2 175 1) 0 t h2 (Int.le_refl _)
      refine RT_set (S := f_Pile_clear S5) (cx_Pile_clear C5) hM1 hN1 hr e9 (fun i hi => ?_) (fun i hi => ?_) (fun k hk => ?_)
      · rw [F.2.1] at hi
        show gl S5 5 i = _
        rw [cp.2.2.2.2 i (by rw [k1]; exact hi), F.2.2.2.2.2.2 i (by omega) hi]
        exact qw i hi
      · rw [F.2.2.1 192 4 (by omega), m2.2 192 4 (by omega) (by omega)] at hi
        show gl S5 7 i = _
        rw [cp.2.2.1 7 i (by decide), F.2.2.2.2.1 194 i (by decide), lr.1 194 i (by decide)]
        exact (l2.1 7 i (by decide)).trans (h.2.2.1 i hi)
      · rw [F.2.2.2.1] at hk; omega
    · cases qo
  · have q := sim_readProof 60 (by decide) S T h.1.1.1 (cx_1_1 hC) r2 S2 none T2 e2 e3
    have m2 := m_rp_is e3
    have lr := lx_rp e3
    rcases q.2 with ⟨_, qo, _⟩ | ⟨qr, _⟩
    · cases qo
    · dsimp only at h1
      rw [if_pos qr] at h1
      cases h1
      cases h2
      exact RT_mk hM hN h hr (fun r k a => l2.1 r k (by show ¬ r = 176; omega)) (by rw [g11 8 1 (by omega)]; exact f2.1 8 1 (by omega)) (fun r k a => lr.1 r k (by show ¬ r = 198; omega)) (fun r k p => m2.2 r k (by omega) (by omega))
theorem RT_second {S T S1 T1 : SS} {r t : Int} (hC : CX 0 S) (hM : MX 0 T) (hN : NX T) (h : RT S T) (h1 : f_MP_second S = some (r, S1)) (h2 : f_M_second T = some (t, T1)) : RT S1 T1 := by
  have hr := RM_second hC hM h.1 h1 h2
  unfold f_MP_second at h1
  unfold f_M_second at h2
  unfold w_lt at h1 h2
  obtain ⟨r2, S2, e2, h1⟩ := w_b2E h1
  have f2 := fx_SheetReader_readProof (X := XSR) (S0 := S) (x_3_0 := .inl rfl) (x_3_1 := .inl rfl) (x_175_1 := .inr rfl) S 150 (FX_refl _ S) _ e2
  have l2 := lx_SheetReader_readProof (X := X176) (S0 := S) (x_176 := rfl) S 150 (LX_refl _ S) _ e2
  have g11 : ∀ r k, ¬ (r = 1 ∧ k = 1) → gi (si S2 1 1 0) r k = gi S2 r k := fun r k a => gi_off a
  rcases w_b3E h2 with ⟨n, T2, e3, h2⟩ | ⟨T2, e3, h2⟩
  · have q := sim_readProof 150 (by decide) S T h.1.1.1 (cx_1_1 hC) r2 S2 (some n) T2 e2 e3
    have m2 := m_rp_is e3
    have lr := lx_rp e3
    rcases q.2 with ⟨qr, qo, q0, q1, qw⟩ | ⟨_, qo⟩
    · cases qo
      dsimp only at h1
      rw [if_neg (show ¬ r2 = 0 by omega)] at h1
      obtain ⟨S5, e5, h1⟩ := w_b1E h1
      cases h1
      have k1 : gi (si S2 1 1 0) 175 1 = gi S2 175 1 := gi_off (by omega)
      have c6 : cap 6 = 150 := by decide
      have c175 : cap 175 = 150 := by decide
      have cp := sh_copy (by decide) (by decide) (by decide) e5 (by omega) (by omega) (by omega)
      have F := m_second_is FU T2 T1 (gi S2 175 1) 0 t h2 (Int.le_refl _)
      obtain ⟨_, h2', h3', h4', h5'⟩ := id h
      have ti : ∀ r k, ¬ (r = 192 ∧ (k = 4 ∨ k = 8 ∨ k = 9 ∨ k = 11 ∨ k = 14 ∨ k = 15)) → gi T1 r k = gi T r k := fun r k a => by rw [F.2.2.1 r k (by omega)]; exact m2.2 r k (by omega) (by omega)
      have tl : ∀ r k, r ≠ 194 → r ≠ 198 → gl T1 r k = gl T r k := fun r k a c => by rw [F.2.2.2.1 r k a]; exact lr.1 r k c
      have sl' : ∀ r k, r ≠ 7 → r ≠ 176 → gl S1 r k = gl S r k := fun r k a c => by rw [cp.2.2.1 r k a]; exact l2.1 r k c
      have en := ti 192 27 (by omega)
      have b27 := mx_192_27 hM
      refine ⟨hr, fun i hi => ?_, fun i hi => ?_, fun k hk j hj => ?_, ?_⟩
      · rw [ti 192 3 (by omega)] at hi
        rw [sl' 5 i (by omega) (by omega), tl 193 i (by omega) (by omega)]; exact h2' i hi
      · rw [F.2.1] at hi
        rw [cp.2.2.2.2 i (by rw [k1]; exact hi), F.2.2.2.2.2 i (by omega) hi]
        exact qw i hi
      · rw [en] at hk
        rw [ti 204 k (by omega)] at hj
        rw [sl' (14 + 4 * k + 3) j (by omega) (by omega), tl 206 _ (by omega) (by omega)]; exact h4' k hk j hj
      · rw [tx_cg hM hN 0 en (ti 192 3 (by omega)) (mst_cg en (fun r k a => ti r k (by omega))) (fun r k a _ => ti r k (by omega)) (fun i _ => tl 193 i (by omega) (by omega)) (fun k _ j _ => tl 206 _ (by omega) (by omega))]
        exact HL_cg h5' (by rw [cp.2.1 8 1 (by omega), g11 8 1 (by omega)]; exact f2.1 8 1 (by omega)) (fun i _ => sl' 9 i (by omega) (by omega))
    · cases qo
  · have q := sim_readProof 150 (by decide) S T h.1.1.1 (cx_1_1 hC) r2 S2 none T2 e2 e3
    have m2 := m_rp_is e3
    have lr := lx_rp e3
    rcases q.2 with ⟨_, qo, _⟩ | ⟨qr, _⟩
    · cases qo
    · dsimp only at h1
      rw [if_pos qr] at h1
      cases h1
      cases h2
      exact RT_mk hM hN h hr (fun r k a => l2.1 r k (by show ¬ r = 176; omega)) (by rw [g11 8 1 (by omega)]; exact f2.1 8 1 (by omega)) (fun r k a => lr.1 r k (by show ¬ r = 198; omega)) (fun r k p => m2.2 r k (by omega) (by omega))
theorem RT_next {S T S1 T1 : SS} {r t : Int} (hC : CX 0 S) (hM : MX 0 T) (hM1 : MX 0 T1) (hN1 : NX T1) (h : RT S T) (h1 : f_MP_next S = some (r, S1)) (h2 : f_M_next T = some (t, T1)) : RT S1 T1 := by
  have hr := RM_next hC hM h.1 h1 h2
  have e6 := h.1.1.2.2.1
  unfold f_MP_next at h1
  unfold f_M_next at h2
  have i1 := in01 T (gi T 192 4) 1 60
  have b6 := cx_sh hC (q := 6) (by decide)
  by_cases c : 1 ≤ gi T 192 4 ∧ gi T 192 4 ≤ 60
  · rw [if_neg (by omega), if_pos (by omega)] at h1
    rw [if_neg (by omega)] at h2
    obtain ⟨S3, e3, h1⟩ := w_b1E h1
    have h1 := w_ltX h1
    have h1 := w_ltX h1
    obtain ⟨S9, e9, h1⟩ := w_b1E h1
    cases h1
    have c4 : cap 4 = 60 := by decide
    have c6 : cap 6 = 150 := by decide
    have cp := sh_copy (by decide) (by decide) (by decide) e3 (by omega) (by omega) (by omega)
    have C3 : CX 0 S3 := (ok_true (ok_Sheet_copyFrom _ 4 6 hC (by decide) (by decide)) _ e3).1
    have C5 : CX 0 (f_Sheet_clear S3 6) := cs_sh C3 (by decide) (by decide) (by decide)
    have F := m_next_is FU T T1 0 t h2 (Int.le_refl _)
    refine RT_set (S := f_Pile_clear (f_Sheet_clear S3 6)) (cx_Pile_clear C5) hM1 hN1 hr e9 (fun i hi => ?_) (fun i hi => ?_) (fun k hk => ?_)
    · rw [F.2.1] at hi
      show gl S3 5 i = _
      rw [cp.2.2.2.2 i (by rw [e6]; exact hi), F.2.2.2.2.2.2.2 i (by omega) hi]
      exact h.2.2.1 i hi
    · rw [F.2.2.1] at hi; omega
    · rw [F.2.2.2.1] at hk; omega
  · rw [if_pos (by omega)] at h2
    cases h2
    by_cases d : gi S 6 1 = 0
    · rw [if_pos d] at h1; cases h1; exact h
    · rw [if_neg d, if_neg (by omega)] at h1; cases h1; exact h
theorem RT_marks {S T S1 T1 : SS} {r t : Int} (hC : CX 0 S) (hM : MX 0 T) (hN : NX T) (hM1 : MX 0 T1) (hN1 : NX T1) (h : RT S T) (h1 : f_MP_marks S = some (r, S1)) (h2 : f_M_marks T = some (t, T1)) : RT S1 T1 := by
  have b27 := mx_192_27 hM
  have hr := (RM_marks hC hM hN h.1 h1 h2).1
  obtain ⟨n0, hn⟩ : ∃ n0 : Nat, gi T 192 27 = (n0 : Int) := ⟨(gi T 192 27).toNat, by omega⟩
  unfold f_MP_marks at h1
  obtain ⟨r3, S2, e2, h1⟩ := w_b2E h1
  obtain ⟨y1, y2, y3, y4, y5, y6⟩ := rd_sim hC hM h.1 hn e2 h2
  have b4 := cx_sh hC (q := 4) (by decide)
  have c4 : cap 4 = 60 := by decide
  have C2 := ok_true (ok_MarkReader_readMarks S (gi S 4 1) hC (cx_10_3 hC).2 (by omega)) _ e2
  have h1 := w_ltX h1
  have g11 : ∀ r k, ¬ (r = 1 ∧ k = 1) → gi (si S2 1 1 0) r k = gi S2 r k := fun r k a => gi_off a
  have C5 : CX 0 (si S2 1 1 0) := cs_1_1 C2.1 (by decide) (by decide)
  have l5 : ∀ r k, gl (si S2 1 1 0) r k = gl S2 r k := fun _ _ => rfl
  generalize si S2 1 1 0 = S5 at h1 g11 C5 l5
  have gS : ∀ r k, ¬ (r = 3 ∨ r = 177 ∨ (r = 10 ∧ k = 4) ∨ (r = 1 ∧ k = 1) ∨ (14 + 4 * n0 ≤ r ∧ r ≤ 176)) → gi S5 r k = gi S r k := fun r k a => by rw [g11 r k (by omega)]; exact y2 r k (by omega)
  have lS : ∀ r k, (r < 14 + 4 * n0 ∨ 178 ≤ r) → gl S5 r k = gl S r k := fun r k a => by rw [l5]; exact y4 r k a
  obtain ⟨hR', hf', hs', hm', hx'⟩ := h
  have wf : WF S5 T1 := fun i hi => by
    rw [y3 192 3 (by omega)] at hi
    rw [lS 5 i (by omega), y5 193 i (by omega)]; exact hf' i hi
  have ws : WS S5 T1 := fun i hi => by
    rw [y3 192 4 (by omega)] at hi
    rw [lS 7 i (by omega), y5 194 i (by omega)]; exact hs' i hi
  have old : ∀ k : Nat, k < n0 → ∀ j : Nat, (j : Int) < gi T1 204 k → gl S5 (14 + 4 * k + 3) j = gl T1 206 (6 * k + j) := fun k hk j hj => by
    rw [y3 204 k (by omega)] at hj
    have b := mx_204 hM k
    rw [lS (14 + 4 * k + 3) j (by omega), y5 206 _ (by omega)]; exact hm' k (by omega) j hj
  rcases y6 with ⟨q1, q2, q3⟩ | ⟨m', q1, q2, q3, q4, q5, q6, q7, q8⟩
  · rw [if_pos q1] at h1
    cases h1
    have en : gi T1 192 27 = gi T 192 27 := by rw [q3, hn]
    have ht : ∀ r k : Nat, (199 ≤ r ∧ r ≤ 208) → (k : Int) < gi T 192 27 → gi T1 r k = gi T r k := fun r k a b => y3 r k (by omega)
    refine ⟨hr, wf, ws, fun k hk => old k (by omega), ?_⟩
    rw [tx_cg hM hN 0 en (y3 192 3 (by omega)) (mst_cg2 en ht (fun k => y3 209 k (by omega))) (fun r k a b => ht r k (by omega) b) (fun i _ => y5 193 i (by omega)) (fun k hk j hj => y5 206 _ (by omega))]
    exact HL_cg hx' (gS 8 1 (by omega)) (fun i _ => lS 9 i (by omega))
  · rw [if_neg (by omega)] at h1
    obtain ⟨r7, S6, e6, h1⟩ := w_b2E h1
    obtain ⟨S9, e9, h1⟩ := w_b1E h1
    cases h1
    have C6 : CX 0 S6 := (ok_true (ok_Pile_accept S5 C5 (by rw [g11 10 3 (by omega), g11 10 4 (by omega)]; exact C2.2.1)) _ e6).1
    have l6 := lx_Pile_accept (X := XNo) (S0 := S5) S5 (LX_refl _ S5) _ e6
    refine RT_set C6 hM1 hN1 hr e9 (fun i hi => ?_) (fun i hi => ?_) (fun k hk j hj => ?_)
    · rw [l6.1 5 i (fun z => z)]; exact wf i hi
    · rw [l6.1 7 i (fun z => z)]; exact ws i hi
    · rw [l6.1 _ j (fun z => z)]
      by_cases c : k < n0
      · exact old k c j hj
      · rw [l5]
        exact (q7 k (by omega) (by omega)).2.2.2.2.2.1.2.2.2 j hj
theorem wa_is {S : SS} {q : Nat} {a : Int} {w : Int64} (hC : CX 0 S) (hq : shOk q) (e : f_Sheet_wordAt S q a = some w) : (0 ≤ a ∧ a < gi S q 1 ∧ w = gl S (q + 1) a.toNat) ∨ (¬ (0 ≤ a ∧ a < gi S q 1) ∧ w = 0) := by
  have b := cx_sh hC hq
  unfold f_Sheet_wordAt at e
  by_cases c1 : a < 0
  · rw [if_pos c1] at e; cases e; exact .inr ⟨by omega, rfl⟩
  rw [if_neg c1] at e
  by_cases c2 : gi S q 1 ≤ a
  · rw [if_pos c2] at e; cases e; exact .inr ⟨by omega, rfl⟩
  rw [if_neg c2, if_pos (by omega), w_chkP (by omega)] at e
  cases e
  exact .inl ⟨by omega, by omega, rfl⟩
def sh_of_t (a : Int) : Nat := if a = 0 then 4 else if a = 1 then 6 else 8
def rw_of_t (a : Int) : Nat := if a = 0 then 193 else if a = 1 then 194 else 195
/-- text a of both sides alike, as the reference's state T4 has it -/
def TXA (S T4 : SS) (a n : Int) : Prop := n = gi S (sh_of_t a) 1 ∧ ∀ i : Nat, (i : Int) < n → gl S (sh_of_t a + 1) i = gl T4 (rw_of_t a) i
theorem wo_is {S T T4 : SS} {a n : Int} (hM : MX 0 T) (hN : NX T) (h : RT S T) (ha : 0 ≤ a ∧ a ≤ 2) (e : f_M_wordsOf T a = some (n, T4)) : TXA S T4 a n ∧ RT S T4 ∧ (a ≠ 2 → T4 = T) := by
  have f := (ok_true (ok_M_wordsOf hM hN a ha) _ e).2.1
  have l := lx_M_wordsOf (X := X195) (S0 := T) rfl T a (LX_refl _ T) _ e
  have R4 : RT S T4 := RT_ref hM hN h f l
  obtain ⟨hr, hf, hs, hm, hx⟩ := id h
  unfold f_M_wordsOf f_M_wordsOf_10 at e
  by_cases c2 : a = 2
  · subst c2
    rw [if_pos rfl] at e
    obtain ⟨T1, e1, e⟩ := w_b1E e
    rw [if_neg (by decide), if_neg (by decide)] at e
    cases e
    have mk := mk_text hM hN 0 T4 e1
    have q := HL_eq hx mk.1
    refine ⟨⟨q.1.symm, fun i hi => q.2 i (by rw [q.1]; exact hi)⟩, R4, fun z => absurd rfl z⟩
  · rw [if_neg c2] at e
    by_cases c0 : a = 0
    · subst c0
      rw [if_pos rfl] at e
      cases e
      exact ⟨⟨hr.1.2.1.symm, fun i hi => hf i hi⟩, h, fun _ => rfl⟩
    · have c1 : a = 1 := by omega
      subst c1
      rw [if_neg c0, if_pos rfl] at e
      cases e
      exact ⟨⟨hr.1.2.2.1.symm, fun i hi => hs i hi⟩, h, fun _ => rfl⟩
theorem so_is {S : SS} {a : Int} (ha : 0 ≤ a ∧ a ≤ 2) : f_MP_sheetOf S a = some (sh_of_t a) := by
  unfold f_MP_sheetOf sh_of_t
  by_cases c0 : a = 0
  · rw [if_pos c0, if_pos c0]
  · rw [if_neg c0, if_neg c0]
    by_cases c1 : a = 1
    · rw [if_pos c1, if_pos c1]
    · rw [if_neg c1, if_neg c1, if_pos (by omega)]
theorem so_no {S : SS} {a : Int} (ha : ¬ (0 ≤ a ∧ a ≤ 2)) : f_MP_sheetOf S a = none := by
  unfold f_MP_sheetOf
  rw [if_neg (by omega), if_neg (by omega), if_neg (by omega)]
theorem so_ok (a : Int) : shOk (sh_of_t a) := by
  unfold sh_of_t shOk
  by_cases c0 : a = 0
  · rw [if_pos c0]; omega
  · rw [if_neg c0]
    by_cases c1 : a = 1
    · rw [if_pos c1]; omega
    · rw [if_neg c1]; omega
theorem it_is {T : SS} {a r : Int} (e : f_M_isText T a = some r) : (r = 1 ∧ 0 ≤ a ∧ a ≤ 2) ∨ (r = 0 ∧ ¬ (0 ≤ a ∧ a ≤ 2)) := by
  unfold f_M_isText at e
  obtain ⟨_, e⟩ := w_chkE e
  have e := Option.some.inj e
  have i := in01 T a 0 2
  omega
theorem ma_is {T : SS} {a b : Int} {w : Int64} (e : f_M_wordAt T a b = some w) : w = gl T (rw_of_t a) b.toNat := by
  unfold f_M_wordAt at e
  unfold rw_of_t
  by_cases c0 : a = 0
  · rw [if_pos c0] at e ⊢
    obtain ⟨_, e⟩ := w_chkE e
    exact (Option.some.inj e).symm
  · rw [if_neg c0] at e ⊢
    by_cases c1 : a = 1
    · rw [if_pos c1] at e ⊢
      obtain ⟨_, e⟩ := w_chkE e
      exact (Option.some.inj e).symm
    · rw [if_neg c1] at e ⊢
      obtain ⟨_, e⟩ := w_chkE e
      exact (Option.some.inj e).symm
theorem RT_word {S T T1 : SS} {a1 a2 : Int} {r t : Int64} (hC : CX 0 S) (hM : MX 0 T) (hN : NX T) (h : RT S T) (h1 : f_MP_word S a1 a2 = some r) (h2 : f_M_word T a1 a2 = some (t, T1)) : r = t := by
  unfold f_MP_word at h1
  unfold f_M_word at h2
  have h1 := w_ltX h1
  obtain ⟨x, ex, h2⟩ := w_b1E h2
  rcases it_is ex with ⟨q, qa⟩ | ⟨q, qa⟩
  · rw [so_is qa] at h1
    have h1 := w_onS h1
    obtain ⟨_, h1⟩ := w_chkE h1
    obtain ⟨w, ew, h1⟩ := w_b1E h1
    cases h1
    rw [if_neg (by omega)] at h2
    obtain ⟨n, T4, e4, h2⟩ := w_b2E h2
    have X := (wo_is hM hN h qa e4).1
    obtain ⟨_, h2⟩ := w_chkE h2
    have i := in01 T4 a2 0 (n - 1)
    rcases wa_is hC (so_ok a1) ew with ⟨z1, z2, z3⟩ | ⟨z1, z2⟩
    · rw [if_neg (by have := X.1; omega)] at h2
      obtain ⟨w', ew', h2⟩ := w_b1E h2
      cases h2
      rw [z3, ma_is ew']
      exact X.2 a2.toNat (by have := X.1; omega)
    · rw [if_pos (by have := X.1; omega)] at h2
      cases h2
      exact z2
  · rw [so_no qa] at h1
    have h1 := w_onN h1
    cases h1
    rw [if_pos q] at h2
    cases h2
    rfl
/-- how many have a status -/
def cn (st : Nat → Int) (v : Int) : Nat → Nat
  | 0 => 0
  | k + 1 => cn st v k + if st k = v then 1 else 0
theorem tl_loop {S : SS} (hC : CX 0 S) (st : Nat → Int) (v : Int) (n : Nat) (h3 : gi S 10 3 = (n : Int)) (hs : ∀ j, j < n → gi S (14 + 4 * j) 11 = st j) : ∀ (c k n2 : Nat), k + c = n → pc (f_Pile_tally_4 S v n2 (cn st v k : Int) (k : Int)) (fun r => r = (cn st v n : Int)) := by
  have b3 := cx_10_3 hC
  intro c
  induction c with
  | zero =>
    intro k n2 hk
    cases n2 with
    | zero => intro r e; exact absurd e (by simp [f_Pile_tally_4])
    | succ n2 =>
      show pc (f_Pile_tally_4_b S v (f_Pile_tally_4 S v n2) (cn st v k : Int) (k : Int)) _
      unfold f_Pile_tally_4_b
      rw [if_pos (by omega), show k = n by omega]
      exact pc_some rfl
  | succ c ih =>
    intro k n2 hk
    cases n2 with
    | zero => intro r e; exact absurd e (by simp [f_Pile_tally_4])
    | succ n2 =>
      show pc (f_Pile_tally_4_b S v (f_Pile_tally_4 S v n2) (cn st v k : Int) (k : Int)) _
      unfold f_Pile_tally_4_b
      rw [if_neg (by omega), w_b1_is (c_find hC.2.1 (by omega) b3.2)]
      show pc (w_chk (k < 40) _) _
      refine pc_chk (fun _ => ?_)
      unfold f_Pile_tally_36
      rw [hs k (by omega)]
      refine pc_if (fun c1 => pc_chk (fun _ => pc_chk (fun _ => ?_))) (fun c1 => pc_chk (fun _ => ?_))
      · have e : (cn st v k : Int) + 1 = ((cn st v (k + 1) : Nat) : Int) := by rw [cn, if_pos c1]; omega
        rw [e, show (k : Int) + 1 = ((k + 1 : Nat) : Int) by omega]
        exact ih (k + 1) n2 (by omega)
      · have e : (cn st v k : Int) = ((cn st v (k + 1) : Nat) : Int) := by rw [cn, if_neg c1]; rfl
        rw [e, show (k : Int) + 1 = ((k + 1 : Nat) : Int) by omega]
        exact ih (k + 1) n2 (by omega)
def cm (st : Nat → Int) (v1 : Int) (k : Nat) : Nat := if v1 = 4 then cn st 0 k + cn st 1 k else cn st (v1 - 5) k
theorem cm_succ {st : Nat → Int} {v1 : Int} {k : Nat} (h0 : 0 ≤ st k) : cm st v1 (k + 1) = cm st v1 k + (if v1 = 4 then (if st k < 2 then 1 else 0) else if st k = v1 - 5 then 1 else 0) := by
  unfold cm
  by_cases c : v1 = 4
  · rw [if_pos c, if_pos c, if_pos c, cn, cn]
    by_cases z0 : st k = 0
    · rw [if_pos z0, if_neg (by omega), if_pos (by omega)]; omega
    · rw [if_neg z0]
      by_cases z1 : st k = 1
      · rw [if_pos z1, if_pos (by omega)]; omega
      · rw [if_neg z1, if_neg (by omega)]; omega
  · rw [if_neg c, if_neg c, if_neg c, cn]
theorem ct_loop {T : SS} (st : Nat → Int) (v1 : Int) (n : Nat) (h27 : gi T 192 27 = (n : Int)) (hs : ∀ j, j < n → gi T 212 j = st j) (h0 : ∀ j, j < n → 0 ≤ st j) : ∀ (c k n2 : Nat), k + c = n → pc (f_M_count_87 v1 n2 T (cm st v1 k : Int) (k : Int)) (fun u => u.1 = (cm st v1 n : Int)) := by
  intro c
  induction c with
  | zero =>
    intro k n2 hk
    cases n2 with
    | zero => intro r e; exact absurd e (by simp [f_M_count_87])
    | succ n2 =>
      show pc (f_M_count_87_b v1 (f_M_count_87 v1 n2) T (cm st v1 k : Int) (k : Int)) _
      unfold f_M_count_87_b
      rw [if_pos (by omega), show k = n by omega]
      exact pc_some rfl
  | succ c ih =>
    intro k n2 hk
    cases n2 with
    | zero => intro r e; exact absurd e (by simp [f_M_count_87])
    | succ n2 =>
      have S1 := cm_succ (st := st) (v1 := v1) (k := k) (h0 k (by omega))
      have go : ∀ d : Nat, cm st v1 (k + 1) = cm st v1 k + d → pc (f_M_count_136 v1 (f_M_count_87 v1 n2) T (k : Int) (d : Int) (cm st v1 k : Int)) (fun u => u.1 = (cm st v1 n : Int)) := by
        intro d hd
        unfold f_M_count_136
        refine pc_chk (fun _ => pc_chk (fun _ => ?_))
        rw [show (cm st v1 k : Int) + (d : Int) = ((cm st v1 (k + 1) : Nat) : Int) by rw [hd]; omega, show (k : Int) + 1 = ((k + 1 : Nat) : Int) by omega]
        exact ih (k + 1) n2 (by omega)
      show pc (f_M_count_87_b v1 (f_M_count_87 v1 n2) T (cm st v1 k : Int) (k : Int)) _
      unfold f_M_count_87_b
      rw [if_neg (by omega), Int.toNat_natCast, hs k (by omega)]
      refine pc_if (fun c4 => pc_chk (fun _ => pc_if (fun c2 => ?_) (fun c2 => ?_))) (fun c4 => pc_chk (fun _ => pc_chk (fun _ => pc_if (fun c2 => ?_) (fun c2 => ?_))))
      · exact go 0 (by rw [S1, if_pos c4, if_neg (by omega)])
      · exact go 1 (by rw [S1, if_pos c4, if_pos (by omega)])
      · exact go 1 (by rw [S1, if_neg c4, if_pos c2])
      · exact go 0 (by rw [S1, if_neg c4, if_neg c2])
theorem st_nn (T : SS) (k : Nat) : 0 ≤ m_st T k := by
  have i1 : ∀ (k : Nat) (st : Nat → Int), (∀ j, 0 ≤ st j) → ∀ j, 0 ≤ j_one (q_nm (q_md T)) (gi T 192 27).toNat k st j := by
    intro k st h j
    unfold j_one
    by_cases c : j = k ∧ ∀ o, o < (gi T 192 27).toNat → st o = 0 → q_nm (q_md T) k o
    · rw [cif_pos c]; exact Int.le_refl _
    · rw [cif_neg c]; exact h j
  have ik : ∀ (r : Int) (c k : Nat) (st : Nat → Int), (∀ j, 0 ≤ st j) → ∀ j, 0 ≤ j_k (q_nm (q_md T)) (gi T 192 27).toNat (m_rk T) r c k st j := by
    intro r c
    induction c with
    | zero => intro k st h; exact h
    | succ c ih =>
      intro k st h
      rw [j_k]
      by_cases d : st k = 1 ∧ m_rk T k = r
      · rw [cif_pos d]; exact ih (k + 1) _ (i1 k st h)
      · rw [cif_neg d]; exact ih (k + 1) _ h
  have ir : ∀ (c : Nat) (r : Int) (st : Nat → Int), (∀ j, 0 ≤ st j) → ∀ j, 0 ≤ j_r (q_nm (q_md T)) (gi T 192 27).toNat (m_rk T) c r st j := by
    intro c
    induction c with
    | zero => intro r st h; exact h
    | succ c ih => intro r st h; rw [j_r]; exact ih (r + 1) _ (ik r _ 0 st h)
  refine ir 10 0 (m_s0 T) (fun j => ?_) k
  unfold m_s0
  by_cases c5 : gi T 199 j = 5
  · rw [if_pos c5]; decide
  · rw [if_neg c5]
    by_cases c6 : m_ov T j ∨ (gi T 207 j ≠ 0 ∧ gi T 205 j = 2)
    · rw [cif_pos c6]; decide
    · rw [cif_neg c6]
      by_cases c7 : gi T 207 j ≠ 0 ∧ gi T 205 j = 0
      · rw [if_pos c7]; decide
      · rw [if_neg c7]; decide
theorem sz_is {S : SS} {a x : Int} (ha : 0 ≤ a ∧ a ≤ 2) (e : f_MP_sizeOf S a = some x) : x = gi S (sh_of_t a) 1 := by
  unfold f_MP_sizeOf at e
  have e := w_ltX e
  rw [so_is ha] at e
  have e := w_onS e
  obtain ⟨_, e⟩ := w_chkE e
  exact (Option.some.inj e).symm
theorem RT_count {S T T1 : SS} {a1 r t : Int} (hC : CX 0 S) (hM : MX 0 T) (hN : NX T) (h : RT S T) (h1 : f_MP_count S a1 = some r) (h2 : f_M_count T a1 = some (t, T1)) : r = t := by
  have i1 := in01 T a1 0 2
  have i2 := in01 T a1 10 12
  have i3 := in01 T a1 4 8
  have b27 := mx_192_27 hM
  obtain ⟨n, hn⟩ : ∃ n : Nat, gi T 192 27 = (n : Int) := ⟨(gi T 192 27).toNat, by omega⟩
  have hK := h.1.2.2.2.1
  have hD := h.1.2.2.2.2
  have tl : ∀ v x, f_Pile_tally S v = some x → x = (cn (m_st T) v n : Int) := fun v x e => tl_loop hC (m_st T) v n (by rw [hK.1, hn]) (fun j hj => hD.1 j (by omega)) n 0 FU (by omega) x e
  unfold f_MP_count at h1
  unfold f_M_count at h2
  by_cases cA : 0 ≤ a1 ∧ a1 ≤ 2
  · rw [if_neg (by omega)] at h2
    obtain ⟨x, T13, e13, h2⟩ := w_b2E h2
    cases h2
    have X := (wo_is hM hN h cA e13).1
    have sz : ∃ y, f_MP_sizeOf S a1 = some y ∧ y = r := by
      by_cases c0 : a1 = 0
      · rw [if_pos c0] at h1
        obtain ⟨y, ey, h1⟩ := w_b1E h1
        exact ⟨y, ey, Option.some.inj h1⟩
      rw [if_neg c0] at h1
      by_cases c1 : a1 = 1
      · rw [if_pos c1] at h1
        obtain ⟨y, ey, h1⟩ := w_b1E h1
        exact ⟨y, ey, Option.some.inj h1⟩
      rw [if_neg c1, if_pos (by omega)] at h1
      obtain ⟨y, ey, h1⟩ := w_b1E h1
      exact ⟨y, ey, Option.some.inj h1⟩
    obtain ⟨y, ey, er⟩ := sz
    rw [← er, sz_is cA ey]
    exact X.1.symm
  rw [if_pos (by omega)] at h2
  rw [if_neg (by omega), if_neg (by omega), if_neg (by omega)] at h1
  by_cases cR : 10 ≤ a1 ∧ a1 ≤ 12
  · rw [if_neg (by omega)] at h2
    rw [if_neg (by omega), if_neg (by omega), if_neg (by omega), if_neg (by omega), if_neg (by omega), if_neg (by omega), if_neg (by omega)] at h1
    obtain ⟨_, h2⟩ := w_chkE h2
    obtain ⟨_, h2⟩ := w_chkE h2
    cases h2
    have rk : ∃ y, f_Pile_rankOf S (a1 - 10) = some y ∧ y = r := by
      by_cases c0 : a1 = 10
      · rw [if_pos c0] at h1
        obtain ⟨_, h1⟩ := w_chkE h1
        obtain ⟨y, ey, h1⟩ := w_b1E h1
        exact ⟨y, ey, Option.some.inj h1⟩
      rw [if_neg c0] at h1
      by_cases c1 : a1 = 11
      · rw [if_pos c1] at h1
        obtain ⟨_, h1⟩ := w_chkE h1
        obtain ⟨y, ey, h1⟩ := w_b1E h1
        exact ⟨y, ey, Option.some.inj h1⟩
      rw [if_neg c1, if_pos (by omega)] at h1
      obtain ⟨_, h1⟩ := w_chkE h1
      obtain ⟨y, ey, h1⟩ := w_b1E h1
      exact ⟨y, ey, Option.some.inj h1⟩
    obtain ⟨y, ey, er⟩ := rk
    unfold f_Pile_rankOf at ey
    rw [if_neg (by omega), if_pos (by omega), w_chkP (by omega)] at ey
    have ey := Option.some.inj ey
    rw [← er, ← ey]
    rcases h.1.1.2.2.2.1 (a1 - 10).toNat with z | z
    · exact z
    · omega
  rw [if_pos (by omega)] at h2
  by_cases c3 : a1 = 3
  · rw [if_pos c3] at h1 h2
    cases h1
    cases h2
    exact hK.1
  rw [if_neg c3] at h1 h2
  by_cases c9 : a1 = 9
  · rw [if_pos c9] at h2
    rw [if_neg (by omega), if_neg (by omega), if_neg (by omega), if_neg (by omega), if_neg (by omega), if_pos c9] at h1
    cases h1
    cases h2
    exact h.1.1.1.1
  rw [if_neg c9] at h2
  by_cases cS : 4 ≤ a1 ∧ a1 ≤ 8
  · rw [if_neg (by omega)] at h2
    obtain ⟨T7, e7, h2⟩ := w_b1E h2
    obtain ⟨j1, j2⟩ := pc_judge T hM T7 e7
    have ct := ct_loop (T := T7) (m_st T) a1 n (by rw [j1.2 192 27 (by omega) (by omega)]; exact hn) (fun j hj => j2 j (by omega)) (fun j _ => st_nn T j) n 0 FU (by omega) (t, T1) (by
      have z : (cm (m_st T) a1 0 : Int) = 0 := by unfold cm; by_cases c4 : a1 = 4 <;> simp [c4, cn]
      rw [z]; exact h2)
    have ct : t = (cm (m_st T) a1 n : Int) := ct
    rw [ct]
    unfold cm
    by_cases c4 : a1 = 4
    · rw [if_pos c4] at h1 ⊢
      obtain ⟨x, ex, h1⟩ := w_b1E h1
      obtain ⟨y, ey, h1⟩ := w_b1E h1
      obtain ⟨_, h1⟩ := w_chkE h1
      have h1 := Option.some.inj h1
      rw [tl 0 x ex, tl 1 y ey] at h1
      omega
    · rw [if_neg c4] at h1 ⊢
      have one : ∃ v y, f_Pile_tally S v = some y ∧ y = r ∧ v = a1 - 5 := by
        by_cases c5 : a1 = 5
        · rw [if_pos c5] at h1
          obtain ⟨y, ey, h1⟩ := w_b1E h1
          exact ⟨0, y, ey, Option.some.inj h1, by omega⟩
        rw [if_neg c5] at h1
        by_cases c6 : a1 = 6
        · rw [if_pos c6] at h1
          obtain ⟨y, ey, h1⟩ := w_b1E h1
          exact ⟨1, y, ey, Option.some.inj h1, by omega⟩
        rw [if_neg c6] at h1
        by_cases c7 : a1 = 7
        · rw [if_pos c7] at h1
          obtain ⟨y, ey, h1⟩ := w_b1E h1
          exact ⟨2, y, ey, Option.some.inj h1, by omega⟩
        rw [if_neg c7, if_pos (by omega)] at h1
        obtain ⟨y, ey, h1⟩ := w_b1E h1
        exact ⟨3, y, ey, Option.some.inj h1, by omega⟩
      obtain ⟨v, y, ey, er, ev⟩ := one
      rw [← er, tl v y ey, ev]
  · rw [if_pos (by omega)] at h2
    rw [if_neg (by omega), if_neg (by omega), if_neg (by omega), if_neg (by omega), if_neg (by omega), if_neg (by omega), if_neg (by omega), if_neg (by omega), if_neg (by omega)] at h1
    cases h1
    cases h2
    rfl
/-- the distance of two texts, from their first words on -/
def ed_in (a : Int64) (A : List Int64) (f : List Int64 → Nat) : List Int64 → Nat
  | [] => A.length + 1
  | b :: B => min (f B + (if a = b then 0 else 1)) (1 + min (f (b :: B)) (ed_in a A f B))
def ed : List Int64 → List Int64 → Nat
  | [] => fun B => B.length
  | a :: A => ed_in a A (ed A)
theorem ed_nil (B : List Int64) : ed [] B = B.length := rfl
theorem ed_nil2 (A : List Int64) : ed A [] = A.length := by cases A <;> rfl
theorem ed_cons (a b : Int64) (A B : List Int64) : ed (a :: A) (b :: B) = min (ed A B + (if a = b then 0 else 1)) (1 + min (ed A (b :: B)) (ed (a :: A) B)) := rfl
theorem ed_comm : ∀ (A B : List Int64), ed A B = ed B A := by
  intro A
  induction A with
  | nil => intro B; rw [ed_nil, ed_nil2]
  | cons a A ih =>
    intro B
    induction B with
    | nil => rw [ed_nil2, ed_nil]
    | cons b B ihB =>
      rw [ed_cons, ed_cons, ih B, ih (b :: B), ihB]
      by_cases c : a = b
      · rw [if_pos c, if_pos c.symm]; omega
      · rw [if_neg c, if_neg (fun z => c z.symm)]; omega
theorem ed_up (A B : List Int64) (b : Int64) : ed A (b :: B) ≤ 1 + ed A B := by
  cases A with
  | nil => rw [ed_nil, ed_nil, List.length_cons]; omega
  | cons a A => rw [ed_cons]; omega
theorem ed_up2 (A B : List Int64) (a : Int64) : ed (a :: A) B ≤ 1 + ed A B := by rw [ed_comm, ed_comm A]; exact ed_up B A a
theorem ed_dn2 (a : Int64) (A : List Int64) : ∀ B : List Int64, ed A B ≤ 1 + ed (a :: A) B := by
  intro B
  induction B with
  | nil => rw [ed_nil2, ed_nil2, List.length_cons]; omega
  | cons b B ih =>
    have u := ed_up A B b
    rw [ed_cons]
    by_cases c : a = b
    · rw [if_pos c]; omega
    · rw [if_neg c]; omega
theorem ed_dn (b : Int64) (A B : List Int64) : ed A B ≤ 1 + ed A (b :: B) := by rw [ed_comm, ed_comm A]; exact ed_dn2 b B A
theorem ed_same (a : Int64) (A B : List Int64) : ed (a :: A) (a :: B) = ed A B := by
  have h1 := ed_dn a A B
  have h2 := ed_dn2 a A B
  rw [ed_cons, if_pos rfl]; omega
theorem ed_lo : ∀ (A B : List Int64), A.length ≤ B.length + ed A B ∧ B.length ≤ A.length + ed A B := by
  intro A
  induction A with
  | nil => intro B; rw [ed_nil, List.length_nil]; omega
  | cons a A ih =>
    intro B
    induction B with
    | nil => rw [ed_nil2, List.length_nil]; omega
    | cons b B ihB =>
      have h1 := ih B
      have h2 := ih (b :: B)
      rw [ed_cons]
      rw [List.length_cons] at *
      rw [List.length_cons] at *
      by_cases c : a = b
      · rw [if_pos c]; omega
      · rw [if_neg c]; omega
theorem ed_hi : ∀ (A B : List Int64), ed A B ≤ max A.length B.length := by
  intro A
  induction A with
  | nil => intro B; rw [ed_nil, List.length_nil]; omega
  | cons a A ih =>
    intro B
    cases B with
    | nil => rw [ed_nil2, List.length_nil]; omega
    | cons b B =>
      have h1 := ih B
      rw [ed_cons, List.length_cons, List.length_cons]
      by_cases c : a = b
      · rw [if_pos c]; omega
      · rw [if_neg c]; omega
theorem ed_snoc (a b : Int64) : ∀ (A B : List Int64), ed (A ++ [a]) (B ++ [b]) = min (ed A B + (if a = b then 0 else 1)) (1 + min (ed A (B ++ [b])) (ed (A ++ [a]) B)) := by
  intro A
  induction A with
  | nil =>
    intro B
    induction B with
    | nil =>
      show ed [a] [b] = _
      rw [ed_cons]
      show min (ed [] [] + _) (1 + min (ed [] [b]) (ed [a] [])) = min (ed [] [] + _) (1 + min (ed [] [b]) (ed [a] []))
      rfl
    | cons y B ih =>
      rw [List.nil_append] at ih ⊢
      rw [List.cons_append, ed_cons, ih, ed_cons]
      simp only [ed_nil, List.length_cons, List.length_append, List.length_nil]
      generalize ed [a] B = e1
      generalize B.length = l
      generalize (if a = b then 0 else 1) = d1
      generalize (if a = y then 0 else 1) = d2
      omega
  | cons x A ih =>
    intro B
    induction B with
    | nil =>
      rw [List.nil_append, List.cons_append, ed_cons]
      have i0 := ih []
      rw [List.nil_append] at i0
      rw [i0, ed_cons]
      simp only [ed_nil2, List.length_cons, List.length_append, List.length_nil]
      generalize ed A [b] = e1
      generalize A.length = l
      generalize (if a = b then 0 else 1) = d1
      generalize (if x = b then 0 else 1) = d2
      omega
    | cons y B ihB =>
      have i1 := ih B
      have i2 := ih (y :: B)
      rw [List.cons_append] at i2
      rw [List.cons_append] at ihB
      rw [List.cons_append, List.cons_append, ed_cons, i1, i2, ihB, ed_cons x y A B, ed_cons x y A (B ++ [b]), ed_cons x y (A ++ [a]) B]
      generalize ed A B = e1
      generalize ed A (B ++ [b]) = e2
      generalize ed (A ++ [a]) B = e3
      generalize ed A (y :: B) = e4
      generalize ed A (y :: (B ++ [b])) = e5
      generalize ed (A ++ [a]) (y :: B) = e6
      generalize ed (x :: A) B = e7
      generalize ed (x :: A) (B ++ [b]) = e8
      generalize ed (x :: (A ++ [a])) B = e9
      generalize (if a = b then 0 else 1) = d1
      generalize (if x = y then 0 else 1) = d2
      simp only [← Nat.add_min_add_left, ← Nat.add_min_add_right]
      ac_rfl
theorem ed_rev : ∀ (A B : List Int64), ed A.reverse B.reverse = ed A B := by
  intro A
  induction A with
  | nil => intro B; rw [List.reverse_nil, ed_nil, ed_nil, List.length_reverse]
  | cons a A ih =>
    intro B
    induction B with
    | nil => rw [List.reverse_nil, ed_nil2, ed_nil2, List.length_reverse]
    | cons b B ihB =>
      have i2 := ih (b :: B)
      rw [List.reverse_cons] at i2
      rw [List.reverse_cons] at ihB
      rw [List.reverse_cons, List.reverse_cons, ed_snoc, ih B, i2, ihB, ed_cons]
theorem ed_snoc_same (a : Int64) (A B : List Int64) : ed (A ++ [a]) (B ++ [a]) = ed A B := by
  have := ed_same a A.reverse B.reverse
  rw [← List.reverse_concat, ← List.reverse_concat] at this
  rw [ed_rev, ed_rev] at this
  exact this
theorem w_from_snoc (f : Nat → Int64) : ∀ c i, w_from f (c + 1) i = w_from f c i ++ [f (i + c)] := by
  intro c
  induction c with
  | zero => intro i; rfl
  | succ c ih =>
    intro i
    rw [w_from, ih (i + 1), w_from, List.cons_append, show i + 1 + c = i + (c + 1) by omega]
/-- the distance of the first r words from i on and the first c from j on -/
def pd (f g : Nat → Int64) (i j r c : Nat) : Nat := ed (w_from f r i) (w_from g c j)
theorem pd_0 (f g : Nat → Int64) (i j c : Nat) : pd f g i j 0 c = c := by unfold pd; rw [w_from, ed_nil, w_from_len]
theorem pd_00 (f g : Nat → Int64) (i j r : Nat) : pd f g i j r 0 = r := by unfold pd; rw [w_from, ed_nil2, w_from_len]
theorem pd_eq {f g : Nat → Int64} {i j r c : Nat} (h : f (i + r) = g (j + c)) : pd f g i j (r + 1) (c + 1) = pd f g i j r c := by
  unfold pd; rw [w_from_snoc, w_from_snoc, h]; exact ed_snoc_same _ _ _
theorem pd_ne {f g : Nat → Int64} {i j r c : Nat} (h : ¬ f (i + r) = g (j + c)) : pd f g i j (r + 1) (c + 1) = 1 + min (pd f g i j r c) (min (pd f g i j r (c + 1)) (pd f g i j (r + 1) c)) := by
  have e := ed_snoc (f (i + r)) (g (j + c)) (w_from f r i) (w_from g c j)
  rw [if_neg h, ← w_from_snoc, ← w_from_snoc] at e
  unfold pd
  rw [e]; omega
theorem pd_lo (f g : Nat → Int64) (i j r c : Nat) : r ≤ c + pd f g i j r c ∧ c ≤ r + pd f g i j r c := by
  have := ed_lo (w_from f r i) (w_from g c j)
  rw [w_from_len, w_from_len] at this
  exact this
theorem pd_hi (f g : Nat → Int64) (i j r c : Nat) : pd f g i j r c ≤ max r c := by
  have := ed_hi (w_from f r i) (w_from g c j)
  rw [w_from_len, w_from_len] at this
  exact this
/-- above the limit in a whole row: above it ever after -/
theorem pd_far {f g : Nat → Int64} {i j r m L : Nat} (h : ∀ c, c ≤ m → L < pd f g i j r c) : ∀ e c, c ≤ m → L < pd f g i j (r + e) c := by
  intro e
  induction e with
  | zero => exact h
  | succ e ih =>
    intro c
    induction c with
    | zero => intro _; have := ih 0 (by omega); rw [pd_00] at this ⊢; omega
    | succ c ihc =>
      intro hc
      have h1 := ih c (by omega)
      have h2 := ih (c + 1) (by omega)
      have h3 := ihc (by omega)
      rw [show r + (e + 1) = (r + e) + 1 by omega] at h3 ⊢
      by_cases q : f (i + (r + e)) = g (j + c)
      · rw [pd_eq q]; exact h1
      · rw [pd_ne q]; omega
/-- a cell of the banded row: the distance where it is not above the limit, else above it -/
def OKc (L v : Int) (p : Nat) : Prop := ((p : Int) ≤ L → v = (p : Int)) ∧ (L < (p : Int) → L < v)
theorem OKc_eq {L : Int} (p : Nat) : OKc L (p : Int) p := ⟨fun _ => rfl, fun h => h⟩
/-- all stays but the row -/
def FR2 (S S1 : SS) : Prop := (∀ r k, r ≠ 182 → gi S1 r k = gi S r k) ∧ S1.2 = S.2
theorem FR2_refl (S : SS) : FR2 S S := ⟨fun _ _ _ => rfl, rfl⟩
theorem FR2_si {S S1 : SS} (h : FR2 S S1) {k : Nat} {v : Int} : FR2 S (si S1 182 k v) := ⟨fun r k' a => by rw [gi_off (fun z => a z.1)]; exact h.1 r k' a, h.2⟩
theorem FR2_trans {S S1 S2 : SS} (h : FR2 S S1) (h2 : FR2 S1 S2) : FR2 S S2 := ⟨fun r k a => (h2.1 r k a).trans (h.1 r k a), h2.2.trans h.2⟩
abbrev szok (S : SS) (q : Nat) : Prop := shOk q ∧ 0 ≤ gi S q 1 ∧ gi S q 1 ≤ cap q ∧ cap q ≤ 300
theorem wa_at {S S1 : SS} {q : Nat} (h : szok S q) (f : FR2 S S1) {x : Int} (h0 : 0 ≤ x) (h1 : x < gi S q 1) : f_Sheet_wordAt S1 q x = some (gl S (q + 1) x.toNat) := by
  have e : gi S1 q 1 = gi S q 1 := f.1 q 1 (by have := h.1; unfold shOk at this; omega)
  unfold f_Sheet_wordAt
  rw [if_neg (by omega), if_neg (by omega), if_pos (by omega), w_chkP (by omega), gl_2 f.2]
theorem cfill_loop (S0 : SS) {q3 : Nat} (h3 : szok S0 q3) (f : Nat → Int64) (i j r m : Nat) (L : Int) (hL0 : 0 ≤ L) (hm : ((j + m : Nat) : Int) ≤ gi S0 q3 1) (v1 v5 : Int) (up : Nat) (hup : up ≤ m) : ∀ (k c n2 : Nat) (S : SS) (corner least : Int), 1 ≤ c → c + k = up + 1 → FR2 S0 S → (∀ c', c' < c → OKc L (gi S 182 c') (pd f (gl S0 (q3 + 1)) i j (r + 1) c')) → (∀ c', c ≤ c' → c' ≤ m → OKc L (gi S 182 c') (pd f (gl S0 (q3 + 1)) i j r c')) → OKc L corner (pd f (gl S0 (q3 + 1)) i j r (c - 1)) → (L < least → ∀ c', c' < c → L < (pd f (gl S0 (q3 + 1)) i j (r + 1) c' : Int)) → pc (f_Ruler_fillRow_101 v1 (f (i + r)) q3 (j : Int) v5 n2 S (up : Int) corner least (c : Int)) (fun u => FR2 S0 u.2 ∧ (∀ c', c' ≤ up → OKc L (gi u.2 182 c') (pd f (gl S0 (q3 + 1)) i j (r + 1) c')) ∧ (∀ c', up < c' → c' ≤ m → OKc L (gi u.2 182 c') (pd f (gl S0 (q3 + 1)) i j r c')) ∧ (L < u.1 → ∀ c', c' ≤ up → L < (pd f (gl S0 (q3 + 1)) i j (r + 1) c' : Int))) := by
  have cp := h3.2.2
  intro k
  induction k with
  | zero =>
    intro c n2 S corner least hc1 hc hF hA hB hco hle
    cases n2 with
    | zero => intro x e; exact absurd e (by simp [f_Ruler_fillRow_101])
    | succ n2 =>
      show pc (f_Ruler_fillRow_101_b v1 (f (i + r)) q3 (j : Int) v5 (f_Ruler_fillRow_101 v1 (f (i + r)) q3 (j : Int) v5 n2) S (up : Int) corner least (c : Int)) _
      unfold f_Ruler_fillRow_101_b
      rw [if_pos (by omega)]
      exact pc_some ⟨hF, fun c' h => hA c' (by omega), fun c' h h' => hB c' (by omega) h', fun h c' hc' => hle h c' (by omega)⟩
  | succ k ih =>
    intro c n2 S corner least hc1 hc hF hA hB hco hle
    cases n2 with
    | zero => intro x e; exact absurd e (by simp [f_Ruler_fillRow_101])
    | succ n2 =>
      obtain ⟨c0, rfl⟩ : ∃ c0, c = c0 + 1 := ⟨c - 1, by omega⟩
      have wd : f_Sheet_wordAt S q3 ((j : Int) + ((c0 + 1 : Nat) : Int) - 1) = some (gl S0 (q3 + 1) (j + c0)) := by
        rw [wa_at h3 hF (by omega) (by omega), show ((j : Int) + ((c0 + 1 : Nat) : Int) - 1).toNat = j + c0 by omega]
      have above := hB (c0 + 1) (by omega) (by omega)
      have left := hA c0 (by omega)
      have hco : OKc L corner (pd f (gl S0 (q3 + 1)) i j r c0) := hco
      have go : ∀ (S12 : SS) (v : Int), S12 = si S 182 (((c0 + 1 : Nat) : Int)).toNat v → OKc L v (pd f (gl S0 (q3 + 1)) i j (r + 1) (c0 + 1)) → pc (f_Ruler_fillRow_174 v1 (f (i + r)) q3 (j : Int) v5 (f_Ruler_fillRow_101 v1 (f (i + r)) q3 (j : Int) v5 n2) S12 (up : Int) least ((c0 + 1 : Nat) : Int) (gi S 182 (((c0 + 1 : Nat) : Int)).toNat)) (fun u => FR2 S0 u.2 ∧ (∀ c', c' ≤ up → OKc L (gi u.2 182 c') (pd f (gl S0 (q3 + 1)) i j (r + 1) c')) ∧ (∀ c', up < c' → c' ≤ m → OKc L (gi u.2 182 c') (pd f (gl S0 (q3 + 1)) i j r c')) ∧ (L < u.1 → ∀ c', c' ≤ up → L < (pd f (gl S0 (q3 + 1)) i j (r + 1) c' : Int))) := by
        intro S12 v e12 hv
        unfold f_Ruler_fillRow_174
        refine pc_chk (fun _ => pc_chk (fun _ => ?_))
        rw [e12, Int.toNat_natCast, gi_at, show ((c0 + 1 : Nat) : Int) + 1 = ((c0 + 1 + 1 : Nat) : Int) by omega]
        have ge : ∀ c', gi (si S 182 (c0 + 1) v) 182 c' = if c' = c0 + 1 then v else gi S 182 c' := fun c' => by
          rw [gi_si]
          by_cases e : c' = c0 + 1
          · rw [if_pos ⟨rfl, e⟩, if_pos e]
          · rw [if_neg (fun z => e z.2), if_neg e]
        refine ih (c0 + 1 + 1) n2 _ _ _ (by omega) (by omega) (FR2_si hF) (fun c' h => ?_) (fun c' h h' => ?_) above (fun h c' h' => ?_)
        · rw [ge]
          by_cases e : c' = c0 + 1
          · rw [if_pos e, e]; exact hv
          · rw [if_neg e]; exact hA c' (by omega)
        · rw [ge, if_neg (by omega)]; exact hB c' (by omega) h'
        · by_cases e : c' = c0 + 1
          · rw [e]
            by_cases z : (pd f (gl S0 (q3 + 1)) i j (r + 1) (c0 + 1) : Int) ≤ L
            · have := hv.1 z; omega
            · omega
          · exact hle (by omega) c' (by omega)
      show pc (f_Ruler_fillRow_101_b v1 (f (i + r)) q3 (j : Int) v5 (f_Ruler_fillRow_101 v1 (f (i + r)) q3 (j : Int) v5 n2) S (up : Int) corner least ((c0 + 1 : Nat) : Int)) _
      unfold f_Ruler_fillRow_101_b
      rw [if_neg (by omega)]
      refine pc_chk (fun _ => pc_chk (fun _ => pc_chk (fun _ => ?_)))
      rw [w_b1_is wd]
      refine pc_if (fun ce => pc_chk (fun _ => pc_lt (fun S12 e12 => go S12 corner e12 ?_))) (fun ce => pc_chk (fun _ => pc_chk (fun _ => pc_chk (fun _ => pc_chk (fun _ => pc_lt (fun S12 e12 => go S12 _ e12 ?_))))))
      · rw [pd_eq ce.symm]; exact hco
      · rw [pd_ne (fun z => ce z.symm)]
        rw [show (((c0 + 1 : Nat) : Int) - 1).toNat = c0 by omega, Int.toNat_natCast]
        unfold OKc at *
        generalize pd f (gl S0 (q3 + 1)) i j r c0 = p1 at *
        generalize pd f (gl S0 (q3 + 1)) i j r (c0 + 1) = p2 at *
        generalize pd f (gl S0 (q3 + 1)) i j (r + 1) c0 = p3 at *
        generalize gi S 182 (c0 + 1) = x2 at *
        generalize gi S 182 c0 = x3 at *
        clear hA hB hle go wd
        omega
theorem pc_fill (S0 S : SS) {q3 : Nat} (h3 : szok S0 q3) (hF : FR2 S0 S) (f : Nat → Int64) (i j r m : Nat) (L : Int) (hL0 : 0 ≤ L) (hL1 : L ≤ 300) (hm : ((j + m : Nat) : Int) = gi S0 q3 1) (hr : r < 300) (hrow : ∀ c', c' ≤ m → OKc L (gi S 182 c') (pd f (gl S0 (q3 + 1)) i j r c')) : pc (f_Ruler_fillRow S ((r + 1 : Nat) : Int) (f (i + r)) q3 (j : Int) L) (fun u => FR2 S0 u.2 ∧ (∀ c', c' ≤ m → OKc L (gi u.2 182 c') (pd f (gl S0 (q3 + 1)) i j (r + 1) c')) ∧ (L < u.1 → ∀ c', c' ≤ m → L < (pd f (gl S0 (q3 + 1)) i j (r + 1) c' : Int))) := by
  have cp := h3.2.2
  have e3 : gi S q3 1 = gi S0 q3 1 := hF.1 q3 1 (by have := h3.1; unfold shOk at this; omega)
  have lo := fun a c => pd_lo f (gl S0 (q3 + 1)) i j a c
  unfold f_Ruler_fillRow
  rw [e3]
  refine pc_chk (fun _ => pc_chk (fun _ => pc_chk (fun _ => ?_)))
  obtain ⟨fr0, hfr⟩ : ∃ x : Nat, max 1 (((r + 1 : Nat) : Int) - L) = (x : Int) := ⟨(max 1 (((r + 1 : Nat) : Int) - L)).toNat, by omega⟩
  have hmn : ∃ x : Nat, min (gi S0 q3 1 - (j : Int)) (((r + 1 : Nat) : Int) + L) = (x : Int) := ⟨(min (gi S0 q3 1 - (j : Int)) (((r + 1 : Nat) : Int) + L)).toNat, by omega⟩
  obtain ⟨up, hup⟩ := hmn
  rw [hfr, hup, if_neg (by omega), if_pos (by omega)]
  refine pc_chk (fun _ => pc_chk (fun _ => pc_chk (fun _ => ?_)))
  have end_ : ∀ (v : Int), OKc L v (pd f (gl S0 (q3 + 1)) i j (r + 1) (fr0 - 1)) → pc (f_Ruler_fillRow_85 ((r + 1 : Nat) : Int) (f (i + r)) q3 (j : Int) L S (fr0 : Int) (up : Int) (gi S 182 ((fr0 : Int) - 1).toNat) v ((fr0 : Int) - 1)) (fun u => FR2 S0 u.2 ∧ (∀ c', c' ≤ m → OKc L (gi u.2 182 c') (pd f (gl S0 (q3 + 1)) i j (r + 1) c')) ∧ (L < u.1 → ∀ c', c' ≤ m → L < (pd f (gl S0 (q3 + 1)) i j (r + 1) c' : Int))) := by
    intro v hv
    unfold f_Ruler_fillRow_85
    rw [show ((fr0 : Int) - 1).toNat = fr0 - 1 by omega]
    refine pc_chk (fun _ => pc_lt (fun S1 e1 => pc_chk (fun _ => pc_chk (fun _ => ?_))))
    have ge : ∀ c', gi S1 182 c' = if c' = fr0 - 1 then v else gi S 182 c' := fun c' => by
      rw [e1, gi_si]
      by_cases e : c' = fr0 - 1
      · rw [if_pos ⟨rfl, e⟩, if_pos e]
      · rw [if_neg (fun z => e z.2), if_neg e]
    rw [ge, if_pos rfl]
    have F1 : FR2 S0 S1 := by rw [e1]; exact FR2_si hF
    by_cases cu : fr0 ≤ up + 1
    · refine pc_mono (cfill_loop S0 h3 f i j r m L hL0 (by omega) ((r + 1 : Nat) : Int) L up (by omega) (up + 1 - fr0) fr0 FU S1 (gi S 182 (fr0 - 1)) v (by omega) (by omega) F1 (fun c' h => ?_) (fun c' h h' => ?_) (hrow (fr0 - 1) (by omega)) (fun h c' h' => ?_)) (fun u hu => ?_)
      · rw [ge]
        by_cases e : c' = fr0 - 1
        · rw [if_pos e, e]; exact hv
        · rw [if_neg e]
          have o := hrow c' (by omega)
          have l1 := lo r c'
          have l2 := lo (r + 1) c'
          unfold OKc at o ⊢
          omega
      · rw [ge, if_neg (by omega)]; exact hrow c' h'
      · by_cases e : c' = fr0 - 1
        · rw [e]
          by_cases z : (pd f (gl S0 (q3 + 1)) i j (r + 1) (fr0 - 1) : Int) ≤ L
          · have := hv.1 z; omega
          · omega
        · have l2 := lo (r + 1) c'
          omega
      · obtain ⟨u1, u2, u3, u4⟩ := hu
        refine ⟨u1, fun c' h => ?_, fun h c' h' => ?_⟩
        · by_cases e : c' ≤ up
          · exact u2 c' e
          · have o := u3 c' (by omega) h
            have l1 := lo r c'
            have l2 := lo (r + 1) c'
            unfold OKc at o ⊢
            omega
        · by_cases e : c' ≤ up
          · exact u4 h c' e
          · have l2 := lo (r + 1) c'
            omega
    · -- the band lies beyond the texts: cannot be where the distance is within the limit
      have L1 : pc (f_Ruler_fillRow_101 ((r + 1 : Nat) : Int) (f (i + r)) q3 (j : Int) L FU S1 (up : Int) (gi S 182 (fr0 - 1)) v (fr0 : Int)) (fun u => u = (v, S1)) := by
        show pc (f_Ruler_fillRow_101_b ((r + 1 : Nat) : Int) (f (i + r)) q3 (j : Int) L (f_Ruler_fillRow_101 ((r + 1 : Nat) : Int) (f (i + r)) q3 (j : Int) L 3999) S1 (up : Int) (gi S 182 (fr0 - 1)) v (fr0 : Int)) _
        unfold f_Ruler_fillRow_101_b
        rw [if_pos (by omega)]
        exact pc_some rfl
      refine pc_mono L1 (fun u hu => ?_)
      rw [hu]
      refine ⟨F1, fun c' h => ?_, fun h c' h' => ?_⟩
      · show OKc L (gi S1 182 c') _
        rw [ge, if_neg (by omega)]
        have o := hrow c' h
        have l1 := lo r c'
        have l2 := lo (r + 1) c'
        unfold OKc at o ⊢
        omega
      · have l2 := lo (r + 1) c'
        omega
  refine pc_if (fun c1 => end_ _ ?_) (fun c1 => pc_chk (fun _ => end_ _ ?_))
  · rw [show fr0 - 1 = 0 by omega, pd_00]; exact OKc_eq _
  · have l2 := lo (r + 1) (fr0 - 1)
    unfold OKc
    omega
theorem cmeas_85 (S0 : SS) {q1 q3 : Nat} (h1 : szok S0 q1) (h3 : szok S0 q3) (i j hi m : Nat) (L : Int) (hL0 : 0 ≤ L) (hL1 : L ≤ 300) (hh : ((i + hi : Nat) : Int) = gi S0 q1 1) (hm : ((j + m : Nat) : Int) = gi S0 q3 1) : ∀ (k r n2 : Nat) (S : SS), r + k = hi → FR2 S0 S → (∀ c', c' ≤ m → OKc L (gi S 182 c') (pd (gl S0 (q1 + 1)) (gl S0 (q3 + 1)) i j r c')) → pc (f_Ruler_measure_85 q1 (i : Int) q3 (j : Int) L n2 S (hi : Int) (m : Int) (L + 1) ((r + 1 : Nat) : Int)) (fun u => FR2 S0 u.2 ∧ u.1 = min (pd (gl S0 (q1 + 1)) (gl S0 (q3 + 1)) i j hi m : Int) (L + 1)) := by
  have b1 := h1.2.2
  have b3 := h3.2.2
  intro k
  induction k with
  | zero =>
    intro r n2 S hr hF hrow
    cases n2 with
    | zero => intro x e; exact absurd e (by simp [f_Ruler_measure_85])
    | succ n2 =>
      show pc (f_Ruler_measure_85_b q1 (i : Int) q3 (j : Int) L (f_Ruler_measure_85 q1 (i : Int) q3 (j : Int) L n2) S (hi : Int) (m : Int) (L + 1) ((r + 1 : Nat) : Int)) _
      unfold f_Ruler_measure_85_b
      rw [if_pos (by omega)]
      refine pc_chk (fun _ => pc_some ⟨hF, ?_⟩)
      rw [Int.toNat_natCast]
      have o := hrow m (Nat.le_refl _)
      rw [show r = hi by omega] at o
      unfold OKc at o
      show min (gi S 182 m) (L + 1) = _
      omega
  | succ k ih =>
    intro r n2 S hr hF hrow
    cases n2 with
    | zero => intro x e; exact absurd e (by simp [f_Ruler_measure_85])
    | succ n2 =>
      have wd : f_Sheet_wordAt S q1 ((i : Int) + ((r + 1 : Nat) : Int) - 1) = some (gl S0 (q1 + 1) (i + r)) := by
        rw [wa_at h1 hF (by omega) (by omega), show ((i : Int) + ((r + 1 : Nat) : Int) - 1).toNat = i + r by omega]
      show pc (f_Ruler_measure_85_b q1 (i : Int) q3 (j : Int) L (f_Ruler_measure_85 q1 (i : Int) q3 (j : Int) L n2) S (hi : Int) (m : Int) (L + 1) ((r + 1 : Nat) : Int)) _
      unfold f_Ruler_measure_85_b
      rw [if_neg (by omega)]
      refine pc_chk (fun _ => pc_chk (fun _ => ?_))
      rw [w_b1_is wd]
      refine pc_b2 (pc_fill S0 S h3 hF (gl S0 (q1 + 1)) i j r m L hL0 hL1 hm (by omega) hrow) (fun v S7 h7 => ?_)
      obtain ⟨x1, x2, x3⟩ := h7
      refine pc_if (fun c => pc_chk (fun _ => ?_)) (fun c => pc_some ⟨x1, ?_⟩)
      · rw [show ((r + 1 : Nat) : Int) + 1 = ((r + 1 + 1 : Nat) : Int) by omega]
        exact ih (r + 1) n2 S7 (by omega) x1 x2
      · have x3 : ∀ c', c' ≤ m → L < (pd (gl S0 (q1 + 1)) (gl S0 (q3 + 1)) i j (r + 1) c' : Int) := x3 (by show L < v; omega)
        have far := pd_far (f := gl S0 (q1 + 1)) (g := gl S0 (q3 + 1)) (i := i) (j := j) (L := L.toNat) (r := r + 1) (m := m) (fun c' hc' => by have := x3 c' hc'; omega) (hi - (r + 1)) m (Nat.le_refl _)
        rw [show r + 1 + (hi - (r + 1)) = hi by omega] at far
        show L + 1 = _
        omega
theorem cmeas_60 (S0 : SS) {q1 q3 : Nat} (h1 : szok S0 q1) (h3 : szok S0 q3) (i j hi m : Nat) (L : Int) (hL0 : 0 ≤ L) (hL1 : L ≤ 300) (hh : ((i + hi : Nat) : Int) = gi S0 q1 1) (hm : ((j + m : Nat) : Int) = gi S0 q3 1) : ∀ (k c n2 : Nat) (S : SS), c + k = m + 1 → FR2 S0 S → (∀ c', c' < c → gi S 182 c' = (c' : Int)) → pc (f_Ruler_measure_60 q1 (i : Int) q3 (j : Int) L n2 S (hi : Int) (m : Int) (L + 1) (c : Int)) (fun u => FR2 S0 u.2 ∧ u.1 = min (pd (gl S0 (q1 + 1)) (gl S0 (q3 + 1)) i j hi m : Int) (L + 1)) := by
  intro k
  induction k with
  | zero =>
    intro c n2 S hc hF hrow
    cases n2 with
    | zero => intro x e; exact absurd e (by simp [f_Ruler_measure_60])
    | succ n2 =>
      show pc (f_Ruler_measure_60_b q1 (i : Int) q3 (j : Int) L (f_Ruler_measure_60 q1 (i : Int) q3 (j : Int) L n2) S (hi : Int) (m : Int) (L + 1) (c : Int)) _
      unfold f_Ruler_measure_60_b
      rw [if_pos (by omega)]
      have := cmeas_85 S0 h1 h3 i j hi m L hL0 hL1 hh hm hi 0 FU S (by omega) hF (fun c' hc' => by rw [pd_0, hrow c' (by omega)]; exact OKc_eq _)
      exact this
  | succ k ih =>
    intro c n2 S hc hF hrow
    cases n2 with
    | zero => intro x e; exact absurd e (by simp [f_Ruler_measure_60])
    | succ n2 =>
      show pc (f_Ruler_measure_60_b q1 (i : Int) q3 (j : Int) L (f_Ruler_measure_60 q1 (i : Int) q3 (j : Int) L n2) S (hi : Int) (m : Int) (L + 1) (c : Int)) _
      unfold f_Ruler_measure_60_b
      rw [if_neg (by omega), Int.toNat_natCast]
      refine pc_chk (fun _ => pc_lt (fun S1 e1 => pc_chk (fun _ => ?_)))
      rw [show (c : Int) + 1 = ((c + 1 : Nat) : Int) by omega]
      refine ih (c + 1) n2 S1 (by omega) (by rw [e1]; exact FR2_si hF) (fun c' hc' => ?_)
      rw [e1, gi_si]
      by_cases e : c' = c
      · rw [if_pos ⟨rfl, e⟩, e]
      · rw [if_neg (fun z => e z.2)]; exact hrow c' (by omega)
/-- the class's measure: the distance of the words from i and j on, or one above the limit -/
theorem pc_measure (S : SS) {q1 q3 : Nat} (h1 : szok S q1) (h3 : szok S q3) (i j hi m : Nat) (L : Int) (hL0 : 0 ≤ L) (hL1 : L ≤ 300) (hh : ((i + hi : Nat) : Int) = gi S q1 1) (hm : ((j + m : Nat) : Int) = gi S q3 1) : pc (f_Ruler_measure S q1 (i : Int) q3 (j : Int) L) (fun u => FR2 S u.2 ∧ u.1 = min (pd (gl S (q1 + 1)) (gl S (q3 + 1)) i j hi m : Int) (L + 1)) := by
  have b1 := h1.2.2
  have b3 := h3.2.2
  have lo := pd_lo (gl S (q1 + 1)) (gl S (q3 + 1)) i j hi m
  unfold f_Ruler_measure
  refine pc_chk (fun _ => pc_chk (fun _ => pc_chk (fun _ => pc_chk (fun _ => pc_chk (fun _ => ?_)))))
  rw [show max 0 (gi S q1 1 - (i : Int)) = (hi : Int) by omega, show max 0 (gi S q3 1 - (j : Int)) = (m : Int) by omega]
  refine pc_if (fun c => pc_some ⟨FR2_refl S, ?_⟩) (fun c => ?_)
  · unfold absi at c
    show L + 1 = _
    by_cases z : 0 ≤ (hi : Int) - (m : Int)
    · rw [if_pos z] at c; omega
    · rw [if_neg z] at c; omega
  · rw [if_pos (by omega)]
    have := cmeas_60 S h1 h3 i j hi m L hL0 hL1 hh hm (m + 1) 0 FU S (by omega) (FR2_refl S) (fun c' h => absurd h (Nat.not_lt_zero c'))
    exact this
/-- the distance of what is behind i and j -/
def sd (f g : Nat → Int64) (n m i j : Nat) : Nat := ed (w_from f (n - i) i) (w_from g (m - j) j)
theorem sd_n (f g : Nat → Int64) (n m j : Nat) : sd f g n m n j = m - j := by unfold sd; rw [Nat.sub_self, w_from, ed_nil, w_from_len]
theorem sd_m (f g : Nat → Int64) (n m i : Nat) : sd f g n m i m = n - i := by unfold sd; rw [Nat.sub_self, w_from, ed_nil2, w_from_len]
theorem sd_in {f g : Nat → Int64} {n m i j : Nat} (hi : i < n) (hj : j < m) : sd f g n m i j = min (sd f g n m (i + 1) (j + 1) + (if f i = g j then 0 else 1)) (1 + min (sd f g n m (i + 1) j) (sd f g n m i (j + 1))) := by
  unfold sd
  rw [show n - i = (n - (i + 1)) + 1 by omega, show m - j = (m - (j + 1)) + 1 by omega, w_from, w_from, ed_cons]
theorem sd_pd (f g : Nat → Int64) (n m i j : Nat) : sd f g n m i j = pd f g i j (n - i) (m - j) := rfl
def FA (S S1 : SS) : Prop := (∀ r k, r ≠ 215 → gi S1 r k = gi S r k) ∧ S1.2 = S.2
theorem FA_refl (S : SS) : FA S S := ⟨fun _ _ _ => rfl, rfl⟩
theorem FA_si {S S1 : SS} (h : FA S S1) {k : Nat} {v : Int} : FA S (si S1 215 k v) := ⟨fun r k' a => by rw [gi_off (fun z => a z.1)]; exact h.1 r k' a, h.2⟩
/-- the reference's table stands from (i, j) on -/
def FTb (S : SS) (f g : Nat → Int64) (n m i j : Nat) : Prop := ∀ i' j', i' ≤ n → j' ≤ m → (i < i' ∨ (i' = i ∧ j ≤ j')) → gi S 215 (321 * i' + j') = (sd f g n m i' j' : Int)
theorem map12 (S0 : SS) (v1 v3 : Int) (n m : Nat) (hn : n ≤ 300) (hm : m ≤ 300) (i : Nat) (hi : i ≤ n) (kf : SS → Int → Option (Int × SS)) (P : Int × SS → Prop) (hk : ∀ S', FA S0 S' → FTb S' (gl S0 (rw_of_t v1)) (gl S0 (rw_of_t v3)) n m i 0 → pc (kf S' ((i : Int) + (-1))) P) : ∀ (jj n2 : Nat) (S : SS), jj ≤ m + 1 → FA S0 S → FTb S (gl S0 (rw_of_t v1)) (gl S0 (rw_of_t v3)) n m i jj → pc (f_M_apart_12 v1 (n : Int) v3 (m : Int) kf n2 S (i : Int) ((jj : Int) + (-1))) P := by
  intro jj
  induction jj with
  | zero =>
    intro n2 S hj hF hT
    cases n2 with
    | zero => intro x e; exact absurd e (by simp [f_M_apart_12])
    | succ n2 =>
      show pc (f_M_apart_12_b v1 (n : Int) v3 (m : Int) kf (f_M_apart_12 v1 (n : Int) v3 (m : Int) kf n2) S (i : Int) (((0 : Nat) : Int) + (-1))) P
      unfold f_M_apart_12_b
      rw [if_pos (by omega)]
      exact pc_chk (fun _ => hk S hF hT)
  | succ j ih =>
    intro n2 S hj hF hT
    cases n2 with
    | zero => intro x e; exact absurd e (by simp [f_M_apart_12])
    | succ n2 =>
      rw [show ((j + 1 : Nat) : Int) + (-1) = (j : Int) by omega]
      have put : ∀ v : Int, v = (sd (gl S0 (rw_of_t v1)) (gl S0 (rw_of_t v3)) n m i j : Int) → pc (f_M_apart_140 v1 (n : Int) v3 (m : Int) kf (f_M_apart_12 v1 (n : Int) v3 (m : Int) kf n2) S (i : Int) (j : Int) v) P := by
        intro v hv
        unfold f_M_apart_140
        refine pc_b1 (R := fun x => x = 321 * (i : Int) + (j : Int)) (fun x e => ?_) (fun x hx => pc_chk (fun _ => pc_lt (fun S3 e3 => pc_chk (fun _ => ?_))))
        · unfold f_M_at at e
          obtain ⟨_, e⟩ := w_chkE e
          obtain ⟨_, e⟩ := w_chkE e
          exact (Option.some.inj e).symm
        · rw [hx, show (321 * (i : Int) + (j : Int)).toNat = 321 * i + j by omega] at e3
          refine ih n2 S3 (by omega) (by rw [e3]; exact FA_si hF) (fun i' j' a b c => ?_)
          rw [e3, gi_si]
          by_cases e : i' = i ∧ j' = j
          · rw [e.1, e.2, if_pos ⟨rfl, rfl⟩]; exact hv
          · rw [if_neg (fun z => by have := z.2; omega)]
            exact hT i' j' a b (by omega)
      show pc (f_M_apart_12_b v1 (n : Int) v3 (m : Int) kf (f_M_apart_12 v1 (n : Int) v3 (m : Int) kf n2) S (i : Int) (j : Int)) P
      unfold f_M_apart_12_b
      rw [if_neg (by omega)]
      have p85n : ∀ v : Int, i = n → v = (sd (gl S0 (rw_of_t v1)) (gl S0 (rw_of_t v3)) n m i j : Int) → pc (f_M_apart_85 v1 (n : Int) v3 (m : Int) kf (f_M_apart_12 v1 (n : Int) v3 (m : Int) kf n2) S (i : Int) (j : Int) v) P := by
        intro v hin hv
        unfold f_M_apart_85
        rw [if_pos (by omega)]
        exact put v hv
      refine pc_if (fun c1 => pc_chk (fun _ => p85n _ (by omega) ?_)) (fun c1 => pc_if (fun c2 => pc_chk (fun _ => ?_)) (fun c2 => pc_chk (fun _ => pc_chk (fun _ => ?_))))
      · rw [show i = n by omega, sd_n]; omega
      · unfold f_M_apart_85
        rw [if_neg (by omega), if_pos (by omega)]
        refine put _ ?_
        rw [show j = m by omega, sd_m]; omega
      · have hin : i < n := by omega
        have hjm : j < m := by omega
        have at_ : ∀ a b : Int, pc (f_M_at S a b) (fun x => x = 321 * a + b) := fun a b x e => by
          unfold f_M_at at e
          obtain ⟨_, e⟩ := w_chkE e
          obtain ⟨_, e⟩ := w_chkE e
          exact (Option.some.inj e).symm
        have t1 := hT (i + 1) (j + 1) (by omega) (by omega) (by omega)
        have t2 := hT (i + 1) j (by omega) (by omega) (by omega)
        have t3 := hT i (j + 1) (by omega) (by omega) (by omega)
        have rec_ := sd_in (f := gl S0 (rw_of_t v1)) (g := gl S0 (rw_of_t v3)) hin hjm
        have p85 : ∀ v : Int, v = (sd (gl S0 (rw_of_t v1)) (gl S0 (rw_of_t v3)) n m (i + 1) (j + 1) : Int) + (if gl S0 (rw_of_t v1) i = gl S0 (rw_of_t v3) j then 0 else 1) → pc (f_M_apart_85 v1 (n : Int) v3 (m : Int) kf (f_M_apart_12 v1 (n : Int) v3 (m : Int) kf n2) S (i : Int) (j : Int) v) P := by
          intro v hv
          unfold f_M_apart_85
          rw [if_neg (by omega), if_neg (by omega)]
          refine pc_chk (fun _ => pc_b1 (at_ _ _) (fun r2 h2 => pc_chk (fun _ => pc_chk (fun _ => pc_b1 (at_ _ _) (fun r6 h6 => pc_chk (fun _ => pc_chk (fun _ => put _ ?_)))))))
          rw [h2, h6, show (321 * ((i : Int) + 1) + (j : Int)).toNat = 321 * (i + 1) + j by omega, show (321 * (i : Int) + ((j : Int) + 1)).toNat = 321 * i + (j + 1) by omega, t2, t3, hv, rec_]
          by_cases c : gl S0 (rw_of_t v1) i = gl S0 (rw_of_t v3) j
          · rw [if_pos c, if_pos c]; omega
          · rw [if_neg c, if_neg c]; omega
        refine pc_b1 (at_ _ _) (fun r4 h4 => pc_chk (fun _ => pc_b1 (R := fun w => w = gl S0 (rw_of_t v1) i) (fun w e => ?_) (fun w7 h7 => pc_b1 (R := fun w => w = gl S0 (rw_of_t v3) j) (fun w e => ?_) (fun w9 h9 => ?_))))
        · rw [ma_is e, Int.toNat_natCast, gl_2 hF.2]
        · rw [ma_is e, Int.toNat_natCast, gl_2 hF.2]
        · rw [h4, show (321 * ((i : Int) + 1) + ((j : Int) + 1)).toNat = 321 * (i + 1) + (j + 1) by omega, t1, h7, h9]
          unfold f_M_apart_84
          refine pc_if (fun c => pc_chk (fun _ => p85 _ ?_)) (fun c => pc_chk (fun _ => p85 _ ?_))
          · rw [if_pos c]
          · rw [if_neg c]
theorem map3 (S0 : SS) (v1 v3 : Int) (n m : Nat) (hn : n ≤ 300) (hm : m ≤ 300) : ∀ (ii n2 : Nat) (S : SS), ii ≤ n + 1 → FA S0 S → (∀ i' j', ii ≤ i' → i' ≤ n → j' ≤ m → gi S 215 (321 * i' + j') = (sd (gl S0 (rw_of_t v1)) (gl S0 (rw_of_t v3)) n m i' j' : Int)) → pc (f_M_apart_3 v1 (n : Int) v3 (m : Int) n2 S ((ii : Int) + (-1))) (fun u => FA S0 u.2 ∧ u.1 = (sd (gl S0 (rw_of_t v1)) (gl S0 (rw_of_t v3)) n m 0 0 : Int) ∧ FTb u.2 (gl S0 (rw_of_t v1)) (gl S0 (rw_of_t v3)) n m 0 0) := by
  intro ii
  induction ii with
  | zero =>
    intro n2 S hi hF hT
    cases n2 with
    | zero => intro x e; exact absurd e (by simp [f_M_apart_3])
    | succ n2 =>
      show pc (f_M_apart_3_b v1 (n : Int) v3 (m : Int) (f_M_apart_3 v1 (n : Int) v3 (m : Int) n2) S (((0 : Nat) : Int) + (-1))) _
      unfold f_M_apart_3_b
      rw [if_pos (by omega)]
      refine pc_some ⟨hF, ?_, fun i' j' a b c => hT i' j' (by omega) a b⟩
      exact hT 0 0 (by omega) (by omega) (by omega)
  | succ i ih =>
    intro n2 S hi hF hT
    cases n2 with
    | zero => intro x e; exact absurd e (by simp [f_M_apart_3])
    | succ n2 =>
      rw [show ((i + 1 : Nat) : Int) + (-1) = (i : Int) by omega]
      show pc (f_M_apart_3_b v1 (n : Int) v3 (m : Int) (f_M_apart_3 v1 (n : Int) v3 (m : Int) n2) S (i : Int)) _
      unfold f_M_apart_3_b
      rw [if_neg (by omega)]
      have := map12 S0 v1 v3 n m hn hm i (by omega) (f_M_apart_3 v1 (n : Int) v3 (m : Int) n2) _ (fun S' hF' hT' => ih n2 S' (by omega) hF' (fun i' j' a b c => hT' i' j' b c (by omega))) (m + 1) FU S (by omega) hF (fun i' j' a b c => by
        rcases c with c | c
        · exact hT i' j' (by omega) a b
        · omega)
      rw [show ((m + 1 : Nat) : Int) + (-1) = (m : Int) by omega] at this
      exact this
/-- the reference's apart: the distance, with the table of all that is behind -/
theorem pc_apart (T : SS) (v1 v3 : Int) (n m : Nat) (hn : n ≤ 300) (hm : m ≤ 300) : pc (f_M_apart T v1 (n : Int) v3 (m : Int)) (fun u => FA T u.2 ∧ u.1 = (sd (gl T (rw_of_t v1)) (gl T (rw_of_t v3)) n m 0 0 : Int) ∧ FTb u.2 (gl T (rw_of_t v1)) (gl T (rw_of_t v3)) n m 0 0) := by
  unfold f_M_apart
  have := map3 T v1 v3 n m hn hm (n + 1) FU T (by omega) (FA_refl T) (fun i' j' a b c => by omega)
  rw [show ((n + 1 : Nat) : Int) + (-1) = (n : Int) by omega] at this
  exact this
theorem pd_cg {f g f' g' : Nat → Int64} {n m : Nat} (hf : ∀ i, i < n → f i = f' i) (hg : ∀ i, i < m → g i = g' i) : pd f g 0 0 n m = pd f' g' 0 0 n m := by
  unfold pd
  rw [w_from_cg n 0 (fun j _ hj => hf j (by omega)), w_from_cg m 0 (fun j _ hj => hg j (by omega))]
theorem txa_of {S T : SS} {a : Int} (h : RT S T) (ha : a = 0 ∨ a = 1) : TXA S T a (gi S (sh_of_t a) 1) := by
  rcases ha with e | e
  · subst e
    exact ⟨rfl, fun i hi => h.2.1 i (by rw [← h.1.1.2.1]; exact hi)⟩
  · subst e
    exact ⟨rfl, fun i hi => h.2.2.1 i (by rw [← h.1.1.2.2.1]; exact hi)⟩
theorem szok_t {S : SS} (hC : CX 0 S) (a : Int) : szok S (sh_of_t a) := by
  have b := cx_sh hC (so_ok a)
  exact ⟨so_ok a, b.1, b.2.1, b.2.2.2⟩
theorem RT_dist {S T S1 T1 : SS} {a1 a2 r t : Int} (hC : CX 0 S) (hM : MX 0 T) (hN : NX T) (h : RT S T) (h1 : f_MP_distance S a1 a2 = some (r, S1)) (h2 : f_M_distance T a1 a2 = some (t, T1)) : r = t := by
  unfold f_MP_distance at h1
  unfold f_M_distance at h2
  have h1 := w_ltX h1
  have h1 := w_ltX h1
  obtain ⟨x, ex, h2⟩ := w_b1E h2
  rcases it_is ex with ⟨q, qa⟩ | ⟨q, qa⟩
  · rw [so_is qa] at h1
    have h1 := w_onS h1
    obtain ⟨_, h1⟩ := w_chkE h1
    rw [if_neg (by omega)] at h2
    obtain ⟨y, ey, h2⟩ := w_b1E h2
    rcases it_is ey with ⟨p, pa⟩ | ⟨p, pa⟩
    · rw [so_is pa] at h1
      have h1 := w_onS h1
      obtain ⟨_, h1⟩ := w_chkE h1
      obtain ⟨v, S7, e7, h1⟩ := w_b2E h1
      cases h1
      rw [if_neg (by omega)] at h2
      obtain ⟨n, T5, e5, h2⟩ := w_b2E h2
      obtain ⟨m, T8, e8, h2⟩ := w_b2E h2
      obtain ⟨d, T11, e11, h2⟩ := w_b2E h2
      cases h2
      have W5 := ok_true (ok_M_wordsOf hM hN a1 qa) _ e5
      have N5 : NX T5 := nx_fr hN W5.2.1 (fun k => by omega) (by omega) (by omega)
      obtain ⟨X1, R5, _⟩ := wo_is hM hN h qa e5
      obtain ⟨X2, R8, y8⟩ := wo_is W5.1 N5 R5 pa e8
      have Z1 : TXA S T8 a1 n := by
        by_cases c2 : a1 = 2
        · by_cases d2 : a2 = 2
          · have en : n = m := by rw [X1.1, X2.1, c2, d2]
            rw [en, c2]
            rw [d2] at X2
            exact X2
          · rw [y8 d2]; exact X1
        · have := txa_of R8 (a := a1) (by omega)
          rw [X1.1]; exact this
      have s1 := szok_t hC a1
      have s2 := szok_t hC a2
      obtain ⟨n', hn⟩ : ∃ n' : Nat, n = (n' : Int) := ⟨n.toNat, by have := X1.1; omega⟩
      obtain ⟨m', hm⟩ : ∃ m' : Nat, m = (m' : Int) := ⟨m.toNat, by have := X2.1; omega⟩
      have k1 := X1.1
      have k2 := X2.1
      have ms := pc_measure S s1 s2 0 0 n' m' 300 (by decide) (by decide) (by omega) (by omega) (r, S1) e7
      rw [hn, hm] at e11
      have ap := pc_apart T8 a1 a2 n' m' (by omega) (by omega) (t, T1) e11
      have a1e := ms.2
      have a2e := ap.2.1
      have hi := pd_hi (gl S (sh_of_t a1 + 1)) (gl S (sh_of_t a2 + 1)) 0 0 n' m'
      have cg : pd (gl S (sh_of_t a1 + 1)) (gl S (sh_of_t a2 + 1)) 0 0 n' m' = pd (gl T8 (rw_of_t a1)) (gl T8 (rw_of_t a2)) 0 0 n' m' := pd_cg (fun i hi => Z1.2 i (by omega)) (fun i hi => X2.2 i (by omega))
      rw [sd_pd] at a2e
      have a1e : r = min (pd (gl S (sh_of_t a1 + 1)) (gl S (sh_of_t a2 + 1)) 0 0 n' m' : Int) (300 + 1) := a1e
      have a2e : t = (pd (gl T8 (rw_of_t a1)) (gl T8 (rw_of_t a2)) 0 0 n' m' : Int) := a2e
      omega
    · rw [so_no pa] at h1
      have h1 := w_onN h1
      cases h1
      rw [if_pos p] at h2
      cases h2
      rfl
  · rw [so_no qa] at h1
    have h1 := w_onN h1
    cases h1
    rw [if_pos q] at h2
    cases h2
    rfl
