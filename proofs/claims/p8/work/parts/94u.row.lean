theorem cset_loop {q : Nat} {S0 : SS} {u : Nat → Int} {n : Nat} {F low high mv : Int} (H : CSET q S0 u n F) (R : q_reg (cu S0 u) n F low high mv) (rk : SS → Int → Int → Int → Option SS) (d : Nat) (depth : Int)
    (hrk : ∀ low' high' mv', q_reg (cu S0 u) n F low' high' mv' → low' ≤ high' → q_cnt (cu S0 u) low' high' mv' n < q_cnt (cu S0 u) low high mv n → c_lays q S0 u n low' high' mv' (fun S => rk S low' high' (depth + 1)) (q_row (cu S0 u) n d low' high' mv') ∧ q_lt (q_row (cu S0 u) n d low' high' mv')) :
    ∀ (c : Nat) (i : Int) (n2 : Nat), low ≤ i → i ≤ high + 1 → q_bd (cu S0 u) n low high mv i → high + 1 - i < (c : Int) → c_lays q S0 u n low high mv (fun S => f_Setter_setRowB_13 rk low high depth n2 S i i) (q_loop (cu S0 u) n (q_row (cu S0 u) n d) low high mv c i) := by
  obtain ⟨G, hn, hF0, hF, h4, h6, h7, h8, h9, hq, hW⟩ := id H
  obtain ⟨r1, r2, r3, r4, r5⟩ := id R
  have gapL : ∀ g : Int, low < g → g ≤ high → q_bd (cu S0 u) n low high mv g → c_lays q S0 u n low high mv (fun S => f_Setter_setGap rk S g depth) (q_gap (cu S0 u) (q_row (cu S0 u) n d) g n 0) := by
    intro g g1 g2 B
    have := cset_gap H R B (by omega) (fun k hk uk gk => r4 k hk uk (by omega) (by omega)) rk (q_row (cu S0 u) n d) depth (fun k hk uk gk k4 => ?_) n 0 FU (by omega)
    · exact this
    · have ik : q_in (cu S0 u) low high mv k := by
        rcases r4 k hk uk (by omega) (by omega) with w | w
        · omega
        · exact w.2
      have vk := G.1 k hk uk
      unfold q_val at vk
      exact hrk _ _ _ (q_reg_move G hk uk k4) (by omega) (q_cnt_move G r5 hk uk k4 ik)
  have K := q_row_ok G hF d
  have ltG : ∀ g : Int, low < g → g ≤ high → q_bd (cu S0 u) n low high mv g → q_lt (q_gap (cu S0 u) (q_row (cu S0 u) n d) g n 0) := by
    intro g g1 g2 B t ht
    obtain ⟨j, _, sj⟩ := q_gap_src G K B (fun k hk uk gk => r4 k hk uk (by omega) (by omega)) (c := n) (k := 0) (by omega) ht
    obtain ⟨s1, s2, s3, s4, s5⟩ := sj
    rcases s5 with s5 | s5
    · omega
    · exact q_bel_lt hn s5.2.2
  intro c
  induction c with
  | zero => intro i n2 h1 h1' B h2 S hT hO h0 hc; exfalso; omega
  | succ c ih =>
    intro i n2 h1 h1' B h2 S hT hO h0 hc
    cases n2 with
    | zero => intro r e; exact absurd e (by simp [f_Setter_setRowB_13])
    | succ n2 =>
      rw [q_loop] at hc ⊢
      show pc (f_Setter_setRowB_13_b rk low high depth (f_Setter_setRowB_13 rk low high depth n2) S i i) _
      unfold f_Setter_setRowB_13_b
      by_cases c0 : high < i
      · rw [if_pos c0, if_pos c0]; exact pc_some rfl
      rw [if_neg c0] at hc
      rw [if_neg c0, if_neg c0, if_pos (Int.le_refl i)]
      have tail : ∀ S', CT q S0 S' → OPS S0 S' u n low high mv → 0 ≤ gi S' q 1 → ∀ L, gi S' q 1 + (q_wt (c_W S0) L : Int) ≤ cap q → L = (if q_om (cu S0 u) high mv i n = -1 then [i.toNat] ++ q_loop (cu S0 u) n (q_row (cu S0 u) n d) low high mv c (i + 1) else q_pc (cu S0 u) (q_row (cu S0 u) n d) mv (q_om (cu S0 u) high mv i n).toNat ++ q_loop (cu S0 u) n (q_row (cu S0 u) n d) low high mv c (q_hi (cu S0 u) (q_om (cu S0 u) high mv i n).toNat + 1)) → pc (f_Setter_setRowB_42 rk low high depth (f_Setter_setRowB_13 rk low high depth n2) S' i) (fun S1 => S1 = c_toks q S' L) := by
        intro S' hT' hO' h0' L hL eL
        have eL2 : L = c_pl (cu S0 u) n d high mv i ++ q_loop (cu S0 u) n (q_row (cu S0 u) n d) low high mv c (c_nx (cu S0 u) n high mv i) := by
          rw [eL]
          unfold c_pl c_nx
          by_cases e0 : q_om (cu S0 u) high mv i n = -1
          · rw [if_pos e0, if_pos e0, if_pos e0]
          · rw [if_neg e0, if_neg e0, if_neg e0]
        have nx : i < c_nx (cu S0 u) n high mv i ∧ c_nx (cu S0 u) n high mv i ≤ high + 1 ∧ q_bd (cu S0 u) n low high mv (c_nx (cu S0 u) n high mv i) := by
          unfold c_nx
          rcases q_om_spec (cu S0 u) high mv i n with ⟨e0, g0⟩ | ⟨m, hm, e0, c0', g0⟩
          · rw [if_pos e0]
            exact ⟨by omega, by omega, q_bd_word B e0⟩
          · rw [if_neg (by omega), e0, Int.toNat_natCast]
            have vm := G.1 m hm c0'.1
            unfold q_val at vm
            exact ⟨by omega, by omega, q_bd_next G B h1 hm c0' g0⟩
        clear eL
        rw [eL2, q_wt_append] at hL
        unfold f_Setter_setRowB_42
        refine pc_b2 (cset_piece H R h1 (by omega) B rk d depth hrk S' hT' hO' h0' (by omega)) (fun r S1 h => ?_)
        obtain ⟨e1, e2, lt⟩ := h
        have e1 : r = c_nx (cu S0 u) n high mv i := e1
        have e2 : S1 = c_toks q S' (c_pl (cu S0 u) n d high mv i) := e2
        have X := CT_toks hq hT' lt
        rw [← e2] at X
        have O1 : OPS S0 S1 u n low high mv := by rw [e2]; exact OPS_toks hq lt hO'
        unfold f_Setter_setRowB_51
        refine pc_chk (fun _ => ?_)
        rw [e1]
        refine cset_skip nx.2.1 (fun n2' => ?_) (c_nx (cu S0 u) n high mv i - (i + 1)).toNat n2 (i + 1) (by omega)
        have I := ih (c_nx (cu S0 u) n high mv i) n2' (by omega) nx.2.1 nx.2.2 (by omega) S1 X.1 O1 (by omega) (by omega)
        refine pc_mono I (fun S2 e3 => ?_)
        rw [e3, eL2, c_toks_append, ← e2]
      by_cases c1 : i ≤ low
      · rw [if_pos c1]
        rw [if_neg (show ¬ low < i by omega), List.nil_append] at hc ⊢
        exact tail S hT hO h0 _ hc rfl
      · rw [if_neg c1]
        rw [if_pos (show low < i by omega)] at hc ⊢
        rw [q_wt_append] at hc
        have lt := ltG i (by omega) (by omega) B
        have X := CT_toks hq hT lt
        refine pc_b1 (gapL i (by omega) (by omega) B S hT hO h0 (by omega)) (fun S1 e1 => ?_)
        have e1 : S1 = c_toks q S (q_gap (cu S0 u) (q_row (cu S0 u) n d) i n 0) := e1
        rw [c_toks_append, ← e1]
        rw [← e1] at X
        exact tail S1 X.1 (by rw [e1]; exact OPS_toks hq lt hO) (by omega) _ (by omega) rfl
theorem cset_row {q : Nat} {S0 : SS} {u : Nat → Int} {n : Nat} {F : Int} (H : CSET q S0 u n F) : ∀ (d : Nat) (low high mv depth : Int), q_reg (cu S0 u) n F low high mv → low ≤ high → q_cnt (cu S0 u) low high mv n < d → depth + (q_cnt (cu S0 u) low high mv n : Int) ≤ 40 → c_lays q S0 u n low high mv (fun S => f_Setter_setRow d S low high depth) (q_row (cu S0 u) n d low high mv) := by
  obtain ⟨G, hn, hF0, hF, h4, h6, h7, h8, h9, hq, hW⟩ := id H
  intro d
  induction d with
  | zero => intro low high mv depth _ _ h; exact absurd h (Nat.not_lt_zero _)
  | succ d ih =>
    intro low high mv depth R hl h hd
    have r1 := R.1
    have r2 := R.2.1
    have LP := cset_loop H R (f_Setter_setRow d) d depth (fun low' high' mv' R' hl' hc' => ⟨ih low' high' mv' (depth + 1) R' hl' (by omega) (by omega), fun t ht => q_bel_lt hn ((q_row_ok G hF d _ _ _ R').2 t ht)⟩) 100 low FU (by omega) (by omega) q_bd_low (by omega)
    intro S hT hO h0 hc
    show pc (f_Setter_setRowB (f_Setter_setRow d) S low high depth) _
    unfold f_Setter_setRowB
    rw [if_pos (by omega)]
    exact LP S hT hO h0 hc
theorem q_wt_cg {W V : Nat → Nat} : ∀ L : List Nat, (∀ t, t ∈ L → W t = V t) → q_wt W L = q_wt V L := by
  intro L
  induction L with
  | nil => intro _; rfl
  | cons t L ih => intro h; rw [q_wt, q_wt, h t List.mem_cons_self, ih (fun x hx => h x (List.mem_cons_of_mem _ hx))]
/-- what takeDone leaves: the used marks in order, none open -/
def TKN (S : SS) (u : Nat → Int) (n : Nat) : Prop := gi S 178 2 = (c_dn u n : Int) ∧ ∀ k, k < n → u k = 1 → gq S 179 (c_dn u k) = some k ∧ gi S 180 (c_dn u k) = 0
def c_s4 (S : SS) (q : Nat) : SS := si (sq (sq S 178 3 (some 4)) 178 4 (some q)) q 1 0
theorem cset_make {q : Nat} (hq : qok q) {S : SS} {u : Nat → Int} {n : Nat} {F : Int} (G : q_good (cu S u) n F) (hn : n ≤ 40) (hF0 : 0 ≤ F) (hF : F ≤ 60) (h4 : gi S 4 1 = F) (hK : TKN S u n) (hW : ∀ k, k < 40 → 0 ≤ gi S (14 + 4 * k + 2) 1 ∧ gi S (14 + 4 * k + 2) 1 ≤ 6) (hc : (q_wt (c_W S) (q_all (cu S u) n F) : Int) ≤ cap q) : pc (f_Setter_make S 4 q) (fun S1 => S1 = c_toks q (c_s4 S q) (q_all (cu S u) n F)) := by
  have gS : ∀ r k, ¬ (r = q ∧ k = 1) → gi (c_s4 S q) r k = gi S r k := fun r k a => by unfold c_s4; rw [gi_off a]; rfl
  have emd : c_md (c_s4 S q) = c_md S := by
    funext j k
    unfold c_md
    rw [gS (14 + 4 * k) 2 (by omega), gS (14 + 4 * k) 4 (by omega), gS (14 + 4 * k) 5 (by omega), gS (14 + 4 * k + 1) 1 (by omega), gS (14 + 4 * k) 6 (by omega)]
  have ecu : cu (c_s4 S q) u = cu S u := by unfold cu; rw [emd]
  have ew : q_wt (c_W (c_s4 S q)) (q_all (cu S u) n F) = q_wt (c_W S) (q_all (cu S u) n F) := by
    refine q_wt_cg _ (fun t ht => ?_)
    have := (q_all_ok G hF hF0 hn).2 t ht
    unfold c_W
    by_cases e : t < 60
    · rw [if_pos e, if_pos e]
    · rw [if_neg e, if_neg e, gS (14 + 4 * (t - 60) + 2) 1 (by omega)]
  have gq4 : gq (c_s4 S q) 178 4 = some q := by unfold c_s4; exact gq_at _ _ _ _
  have gq3 : gq (c_s4 S q) 178 3 = some 4 := by
    unfold c_s4
    show gq (sq (sq S 178 3 (some 4)) 178 4 (some q)) 178 3 = _
    rw [gq_off (by omega)]; exact gq_at _ _ _ _
  have gqo : ∀ r k, r ≠ 178 → gq (c_s4 S q) r k = gq S r k := fun r k a => by
    unfold c_s4
    show gq (sq (sq S 178 3 (some 4)) 178 4 (some q)) r k = _
    rw [gq_off (by omega), gq_off (by omega)]
  have H : CSET q (c_s4 S q) u n F := by
    refine ⟨by rw [ecu]; exact G, hn, hF0, hF, by rw [gS 4 1 (by omega)]; exact h4, by rw [gS 178 2 (by omega)]; exact hK.1, fun k hk uk => by rw [gqo 179 _ (by omega)]; exact (hK.2 k hk uk).1, gq4, gq3, hq, fun k hk => by rw [gS _ 1 (by omega)]; exact hW k hk⟩
  have O : OPS (c_s4 S q) (c_s4 S q) u n 0 (F - 1) (-1) := by
    intro k hk uk
    rw [gS 180 _ (by omega), (hK.2 k hk uk).2]
    refine ⟨.inl rfl, fun w => absurd w (by decide), fun w => ?_⟩
    rw [ecu] at w
    exact absurd w (q_op_top G hk uk)
  have T : CT q (c_s4 S q) (c_s4 S q) := ⟨fun _ _ _ _ => rfl, fun _ _ _ => rfl, rfl⟩
  have z0 : gi (c_s4 S q) q 1 = 0 := by unfold c_s4; exact gi_at _ _ _ _
  have e4 : gi (c_s4 S q) 4 1 = F := by rw [gS 4 1 (by omega)]; exact h4
  unfold f_Setter_make
  refine pc_lt (fun S1 e1 => pc_lt (fun S2 e2 => ?_))
  have g2 : gq S2 178 4 = some q := by rw [e2, gq_at]
  rw [g2]
  show pc (w_chk (shOk q) _) _
  refine pc_chk (fun _ => pc_lt (fun S4 e5 => ?_))
  have e5 : S4 = c_s4 S q := by rw [e5, e2, e1]; rfl
  rw [e5, gq3]
  show pc (w_chk (shOk 4) _) _
  refine pc_chk (fun _ => ?_)
  rw [e4]
  rw [← ew, ← ecu] at hc
  rw [← ecu]
  rw [← ecu] at G
  generalize c_s4 S q = S0 at H O T z0 hc G ⊢
  clear e5 e4 emd ecu ew gS gqo gq4 gq3
  have R := q_reg_top G
  have K := q_row_ok G hF 43
  have hcnt : ∀ low high mv, q_cnt (cu S0 u) low high mv n ≤ 40 := fun low high mv => by
    have := q_cnt_le (cu S0 u) low high mv n
    omega
  have hB : ∀ g : Int, (g = 0 ∨ g = F) → q_bd (cu S0 u) n 0 (F - 1) (-1) g := by
    intro g hg k hk hu hr hi w
    have v := G.1 k hk hu
    unfold q_val at v
    omega
  have hin : ∀ g : Int, 0 ≤ g → ∀ k, k < n → u k = 1 → q_gp (cu S0 u) k = g → q_kd (cu S0 u) k = 1 ∨ (q_kd (cu S0 u) k = 4 ∧ q_in (cu S0 u) 0 (F - 1) (-1) k) := by
    intro g h0 k hk hu hg
    have v := G.1 k hk hu
    unfold q_val at v
    rcases v with v | v | v | v
    · omega
    · exact .inl v.1
    · omega
    · exact .inr ⟨v.1, by omega, by omega, by omega⟩
  have gapL : ∀ g : Int, (g = 0 ∨ g = F) → c_lays q S0 u n 0 (F - 1) (-1) (fun S => f_Setter_setGap (f_Setter_setRow 43) S g 0) (q_gap (cu S0 u) (q_row (cu S0 u) n 43) g n 0) := by
    intro g hg
    have := cset_gap H R (hB g hg) (by omega) (hin g (by omega)) (f_Setter_setRow 43) (q_row (cu S0 u) n 43) 0 (fun k hk uk gk k4 => ?_) n 0 FU (by omega)
    · exact this
    · have ik : q_in (cu S0 u) 0 (F - 1) (-1) k := by
        rcases hin g (by omega) k hk uk gk with w | w
        · omega
        · exact w.2
      have vk := G.1 k hk uk
      unfold q_val at vk
      have Rk := q_reg_move G hk uk k4
      have cl := q_cnt_move G R.2.2.2.2 hk uk k4 ik
      have c1 := hcnt 0 (F - 1) (-1)
      exact ⟨cset_row H 43 _ _ _ (0 + 1) Rk (by omega) (by omega) (by omega), fun t ht => q_bel_lt hn ((K _ _ _ Rk).2 t ht)⟩
  have L := (q_all_ok G hF hF0 hn).2
  have sub : ∀ A B : List Nat, (∀ t, t ∈ A ++ B → t < 100) → q_lt A ∧ (∀ t, t ∈ B → t < 100) := fun A B h => ⟨fun t ht => by have := h t (List.mem_append_left B ht); omega, fun t ht => h t (List.mem_append_right A ht)⟩
  unfold q_all at hc L ⊢
  by_cases c : F ≤ 0
  · have c' : F = 0 := by omega
    rw [if_pos c' ] at hc L ⊢
    rw [List.append_nil] at hc L ⊢
    rw [if_pos c]
    unfold f_Setter_make_44
    refine pc_b1 (gapL F (.inr rfl) S0 T O (by omega) (by rw [c']; omega)) (fun S5 h5 => pc_some ?_)
    rw [c'] at h5; exact h5
  · have c' : ¬ F = 0 := by omega
    rw [if_neg c'] at hc L ⊢
    rw [if_neg c]
    rw [q_wt_append, q_wt_append] at hc
    rw [c_toks_append, c_toks_append]
    have s1 := sub _ _ L
    have s2 := sub _ _ s1.2
    have X1 := CT_toks hq T s1.1
    refine pc_b1 (gapL 0 (.inl rfl) S0 T O (by omega) (by omega)) (fun S8 h8 => pc_chk (fun _ => ?_))
    have h8 : S8 = c_toks q S0 (q_gap (cu S0 u) (q_row (cu S0 u) n 43) 0 n 0) := h8
    have O8 : OPS S0 S8 u n 0 (F - 1) (-1) := by rw [h8]; exact OPS_toks hq s1.1 O
    rw [← h8] at X1 ⊢
    have X2 := CT_toks hq X1.1 s2.1
    refine pc_b1 (cset_row H 43 0 (F - 1) (-1) 0 R (by omega) (by have := hcnt 0 (F - 1) (-1); omega) (by have := hcnt 0 (F - 1) (-1); omega) S8 X1.1 O8 (by omega) (by omega)) (fun S11 h11 => ?_)
    have h11 : S11 = c_toks q S8 (q_row (cu S0 u) n 43 0 (F - 1) (-1)) := h11
    have O11 : OPS S0 S11 u n 0 (F - 1) (-1) := by rw [h11]; exact OPS_toks hq s2.1 O8
    rw [← h11] at X2 ⊢
    unfold f_Setter_make_44
    exact pc_b1 (gapL F (.inr rfl) S11 X2.1 O11 (by omega) (by omega)) (fun S12 h12 => pc_some h12)
