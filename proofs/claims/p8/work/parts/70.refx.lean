/-- a mark outermost at i that is no TURN is passed over word by word -/
theorem ok_skip {b : Nat} (S : SS) (hC : MX b S) {F low high mv i : Int} (hF : F ≤ 60) (G : q_good (q_md S) (gi S 192 27).toNat F) (R : q_reg (q_md S) (gi S 192 27).toNat F low high mv) (rk : SS → Int → Int → Int → Option SS) {m : Nat} (hm : m < (gi S 192 27).toNat) (cm : q_cand (q_md S) high mv i m) (k3 : q_kd (q_md S) m ≠ 3) (hl : low ≤ i) (X : Option SS)
    (hg : ∀ i', q_kd (q_md S) m ≠ 4 → q_lo (q_md S) m < i' → i' ≤ q_hi (q_md S) m → f_M_layGap rk S i' = some S)
    (hX : ∀ n : Nat, high + 1 - (q_hi (q_md S) m + 1) < (n : Int) → f_M_layRowB_3 rk low high mv n S (q_hi (q_md S) m + 1) = X) :
    ∀ (e : Nat) (i' : Int) (n : Nat), q_lo (q_md S) m < i' → i' + (e : Int) = q_hi (q_md S) m + 1 → high + 1 - i' < (n : Int) → f_M_layRowB_3 rk low high mv n S i' = X := by
  have b27 := mx_192_27 hC
  have vm := G.1 m hm cm.1
  unfold q_val at vm
  have im : q_in (q_md S) low high mv m := ⟨cm.2.2.1, by omega, cm.2.2.2.2⟩
  intro e
  induction e with
  | zero => intro i' n h1 h2 h3; rw [show i' = q_hi (q_md S) m + 1 by omega] at h3 ⊢; exact hX n h3
  | succ e ih =>
    intro i' n h1 h2 h3
    obtain ⟨n, rfl⟩ : ∃ n', n = n' + 1 := ⟨n - 1, by omega⟩
    have hi' : i32 i' := by have := R.1; have := R.2.1; omega
    have r1 := R.1
    have r2 := R.2.1
    have tl : f_M_layRowB_32 rk low high mv (f_M_layRowB_3 rk low high mv n) S i' = X := by
      unfold f_M_layRowB_32
      obtain ⟨t, et, _, ht⟩ := ok_and (ok_M_turnAt S i' high mv hC) (pc_turnAt S hC i' high mv)
      have et1 : t = -1 := by
        refine q_ta_none hC G R (fun t ht ut kt lt ht' => ?_) ht
        have vt := G.1 t ht ut
        unfold q_val at vt
        rcases G.2 t m ht hm (fun q => k3 (by rw [← q]; exact kt)) ut cm.1 with p | p | p
        · have k4 : q_kd (q_md S) m = 4 := by omega
          exact ⟨m, hm, cm.1, k4, im, by omega, by omega⟩
        · omega
        · exact absurd ⟨by omega, by omega, by omega, by omega⟩ p.1
      rw [w_b1_is et, if_pos et1]
      have lw : f_M_layWord S i' mv = some S := by
        unfold f_M_layWord
        obtain ⟨q, eq, _, hq⟩ := ok_and (ok_M_innermost S i' 0 hC) (pc_innermost S hC i' 0 hi' (.inl rfl))
        rw [w_b1_is eq]
        by_cases k4 : q_kd (q_md S) m = 4
        · rw [if_neg (q_in_ne G R hm cm.1 k4 im (by omega) (by omega) hq)]
        · by_cases c : q = mv
          · rw [if_pos c]
            have sm : q_sc (q_md S) i' m := ⟨cm.1, by omega, by omega, by omega⟩
            exact ok_lw13 S hC i' mv (by omega) S (.inr ⟨m, hm, sm, fun j hj sj => q_sc_one G hj hm sj sm, .inr ⟨fun q => by omega, rfl⟩⟩) (gi S 192 27).toNat 0 FU (by omega) (by unfold FU; omega) (fun j hj => absurd hj (Nat.not_lt_zero j))
          · rw [if_neg c]
      rw [w_b1_is lw, w_chkP (by omega)]
      exact ih (i' + 1) n (by omega) (by omega) (by omega)
    show f_M_layRowB_3_b rk low high mv (f_M_layRowB_3 rk low high mv n) S i' = X
    unfold f_M_layRowB_3_b
    rw [if_neg (by omega), if_neg (by omega)]
    obtain ⟨q, eq, _, hq⟩ := ok_and (ok_M_innermost S i' 1 hC) (pc_innermost S hC i' 1 hi' (.inr rfl))
    rw [w_b1_is eq]
    by_cases k4 : q_kd (q_md S) m = 4
    · rw [if_neg (q_in_ne G R hm cm.1 k4 im (by omega) (by omega) hq)]; exact tl
    · by_cases c : q = mv
      · rw [if_pos c, w_b1_is (hg i' k4 h1 (by omega))]; exact tl
      · rw [if_neg c]; exact tl
theorem q_gap_nil {M : q_MK} {rp : Int → Int → Int → List Nat} {g : Int} : ∀ (c k : Nat), (∀ j, k ≤ j → j < k + c → q_us M j = 1 → q_gp M j ≠ g) → q_gap M rp g c k = [] := by
  intro c
  induction c with
  | zero => intro k _; rfl
  | succ c ih =>
    intro k h
    rw [q_gap, if_neg (fun q => h k (by omega) (by omega) q.1 q.2), List.nil_append]
    exact ih (k + 1) (fun j a d => h j (by omega) (by omega))
abbrev q_n (S : SS) : Nat := (gi S 192 27).toNat
theorem ok_loop {b : Nat} (S0 : SS) {F low high mv : Int} (hn0 : 0 ≤ gi S0 192 27 ∧ gi S0 192 27 ≤ 40) (hF : F ≤ 60) (G : q_good (q_md S0) (q_n S0) F) (R : q_reg (q_md S0) (q_n S0) F low high mv) (d : Nat) (hd : q_cnt (q_md S0) low high mv (q_n S0) < d + 1) (rk : SS → Int → Int → Int → Option SS)
    (hrk : ∀ low' high' mv', q_reg (q_md S0) (q_n S0) F low' high' mv' → low' ≤ high' → q_cnt (q_md S0) low' high' mv' (q_n S0) < d → q_lays b S0 (fun S => rk S low' high' mv') (q_row (q_md S0) (q_n S0) d low' high' mv')) :
    ∀ (c : Nat) (i : Int) (n : Nat), low ≤ i → i ≤ high + 1 → q_bd (q_md S0) (q_n S0) low high mv i → high + 1 - i < (c : Int) → high + 1 - i < (n : Int) → 0 < n → q_lays b S0 (fun S => f_M_layRowB_3 rk low high mv n S i) (q_loop (q_md S0) (q_n S0) (q_row (q_md S0) (q_n S0) d) low high mv c i) := by
  have K := q_row_ok G hF d
  have ltR : ∀ low' high' mv', q_reg (q_md S0) (q_n S0) F low' high' mv' → q_lt (q_row (q_md S0) (q_n S0) d low' high' mv') := fun low' high' mv' R' t ht => q_bel_lt (by show (gi S0 192 27).toNat ≤ 40; omega) ((K _ _ _ R').2 t ht)
  have hR := R
  obtain ⟨r1, r2, r3, r4, r5⟩ := hR
  have gapL : ∀ g : Int, low < g → g ≤ high → q_lays b S0 (fun S => f_M_layGap rk S g) (q_gap (q_md S0) (q_row (q_md S0) (q_n S0) d) g (q_n S0) 0) := by
    intro g g1 g2
    refine ok_lgap S0 G rk _ g (by omega) (fun k hk uk gk k4 => ?_) (q_n S0) 0 FU (by show 0 + (gi S0 192 27).toNat = _; omega) (by show (gi S0 192 27).toNat < FU; unfold FU; omega)
    have ik : q_in (q_md S0) low high mv k := by
      rcases r4 k hk uk (by omega) (by omega) with q | q
      · omega
      · exact q.2
    have Rk := q_reg_move G hk uk k4
    have cl := q_cnt_move G r5 hk uk k4 ik
    have vk := G.1 k hk uk
    unfold q_val at vk
    exact ⟨hrk _ _ _ Rk (by omega) (by omega), ltR _ _ _ Rk⟩
  have ltG : ∀ g : Int, low < g → g ≤ high → q_bd (q_md S0) (q_n S0) low high mv g → q_lt (q_gap (q_md S0) (q_row (q_md S0) (q_n S0) d) g (q_n S0) 0) := by
    intro g g1 g2 B t ht
    obtain ⟨j, _, sj⟩ := q_gap_src G K B (fun k hk uk gk => r4 k hk uk (by omega) (by omega)) (c := q_n S0) (k := 0) (by omega) ht
    obtain ⟨s1, s2, s3, s4, s5⟩ := sj
    have s2 : j < (gi S0 192 27).toNat := s2
    rcases s5 with s5 | s5
    · omega
    · exact q_bel_lt (by show (gi S0 192 27).toNat ≤ 40; omega) s5.2.2
  intro c
  induction c with
  | zero => intro i n h1 h1' B h2 h3 h4 S hC hf h; exfalso; omega
  | succ c ih =>
    intro i n h1 h1' B h2 h3 h4 S hC hf h
    obtain ⟨n, rfl⟩ : ∃ n', n = n' + 1 := ⟨n - 1, by omega⟩
    rw [q_loop] at h ⊢
    show f_M_layRowB_3_b rk low high mv (f_M_layRowB_3 rk low high mv n) S i = _
    unfold f_M_layRowB_3_b
    by_cases c0 : high < i
    · rw [if_pos c0, if_pos c0]; rfl
    rw [if_neg c0] at h
    rw [if_neg c0, if_neg c0]
    have i32i : i32 i := by omega
    -- behind the gap
    have tail : ∀ S', MX b S' → q_fp S0 S' → ∀ L, gi S' 192 5 + (q_wt (q_W S0) L : Int) ≤ 300 → L = (if q_om (q_md S0) high mv i (q_n S0) = -1 then [i.toNat] ++ q_loop (q_md S0) (q_n S0) (q_row (q_md S0) (q_n S0) d) low high mv c (i + 1) else q_pc (q_md S0) (q_row (q_md S0) (q_n S0) d) mv (q_om (q_md S0) high mv i (q_n S0)).toNat ++ q_loop (q_md S0) (q_n S0) (q_row (q_md S0) (q_n S0) d) low high mv c (q_hi (q_md S0) (q_om (q_md S0) high mv i (q_n S0)).toNat + 1)) → f_M_layRowB_32 rk low high mv (f_M_layRowB_3 rk low high mv n) S' i = some (m_toks S' L) := by
      intro S' hC' hf' L hL eL
      have emd := q_md_fp hf'
      have e27 := hf'.1 192 27 (by omega)
      have b27 := mx_192_27 hC'
      have en : (gi S' 192 27).toNat = q_n S0 := by rw [e27]
      have G' : q_good (q_md S') (gi S' 192 27).toNat F := by rw [emd, en]; exact G
      have R' : q_reg (q_md S') (gi S' 192 27).toNat F low high mv := by rw [emd, en]; exact R
      have B' : q_bd (q_md S') (gi S' 192 27).toNat low high mv i := by rw [emd, en]; exact B
      unfold f_M_layRowB_32
      obtain ⟨t, et, _, ht⟩ := ok_and (ok_M_turnAt S' i high mv hC') (pc_turnAt S' hC' i high mv)
      obtain ⟨q, eq, _, hq⟩ := ok_and (ok_M_innermost S' i 0 hC') (pc_innermost S' hC' i 0 i32i (.inl rfl))
      rcases q_om_spec (q_md S0) high mv i (q_n S0) with ⟨e0, g0⟩ | ⟨m, hm, e0, c0', g0⟩
      · rw [if_pos e0] at eL
        have et1 : t = -1 := by
          refine q_ta_none hC' G' R' (fun t ht ut kt lt ht' => ?_) ht
          rw [en] at ht
          rw [emd] at ut kt lt ht'
          exact absurd ⟨ut, by omega, q_mv_turn R (by omega), lt, ht'⟩ (g0 t ht)
        have eq1 : q = mv := by
          refine q_in_eq R' (by decide) (by omega) (by omega) (fun k hk uk k4 ik => ?_) hq
          rw [en] at hk
          rw [emd] at uk k4 ik ⊢
          intro w
          have := B k hk uk (by omega) ik
          exact g0 k hk ⟨uk, by omega, ik.1, by omega, ik.2.2⟩
        rw [w_b1_is et, if_pos et1]
        rw [eL, q_wt_append] at hL
        have l1 : q_lt [i.toNat] := fun t ht => by simp at ht; omega
        have w1 : q_wt (q_W S0) [i.toNat] = 1 := by show q_W S0 i.toNat + 0 = 1; unfold q_W; rw [if_pos (by omega)]
        have X := q_lays_mx l1 hC' hf' (by omega)
        have lw : f_M_layWord S' i mv = some (m_toks S' [i.toNat]) := by
          unfold f_M_layWord
          rw [w_b1_is eq, if_pos eq1]
          refine ok_lw13 S' hC' i mv (by omega) _ (.inl ⟨fun j hj sj => ?_, by omega, rfl⟩) (gi S' 192 27).toNat 0 FU (by omega) (by unfold FU; omega) (fun j hj => absurd hj (Nat.not_lt_zero j))
          rw [en] at hj
          rw [emd] at sj
          obtain ⟨s1, s2, s3, s4⟩ := sj
          rcases r3 j hj s1 (by omega) (by omega) (by omega) with w | w | w
          · exact q_mv_turn R (by omega) w
          · have := B j hj s1 (by omega) w
            exact g0 j hj ⟨s1, by omega, w.1, by omega, w.2.2⟩
          · omega
        rw [w_b1_is lw, w_chkP (by omega), eL, m_toks_append]
        exact ih (i + 1) n (by omega) (by omega) (q_bd_word B e0) (by omega) (by omega) (by omega) _ X.1 X.2.1 (by omega)
      · have vm := G.1 m hm c0'.1
        unfold q_val at vm
        have im : q_in (q_md S0) low high mv m := ⟨c0'.2.2.1, by omega, c0'.2.2.2.2⟩
        rw [if_neg (by omega), e0, Int.toNat_natCast] at eL
        rw [eL, q_wt_append] at hL
        have Bn := q_bd_next G B h1 hm c0' g0
        have I : ∀ (S'' : SS) (n' : Nat), MX b S'' → q_fp S0 S'' → high + 1 - (q_hi (q_md S0) m + 1) < (n' : Int) → 0 < n' → gi S'' 192 5 + (q_wt (q_W S0) (q_loop (q_md S0) (q_n S0) (q_row (q_md S0) (q_n S0) d) low high mv c (q_hi (q_md S0) m + 1)) : Int) ≤ 300 → f_M_layRowB_3 rk low high mv n' S'' (q_hi (q_md S0) m + 1) = some (m_toks S'' (q_loop (q_md S0) (q_n S0) (q_row (q_md S0) (q_n S0) d) low high mv c (q_hi (q_md S0) m + 1))) := fun S'' n' a e f g h => ih (q_hi (q_md S0) m + 1) n' (by omega) (by omega) Bn (by omega) f g S'' a e h
        by_cases k3 : q_kd (q_md S0) m = 3
        · -- a TURN
          have et1 : t = (m : Int) := q_ta_some hC' G' R' h1 B' (by rw [en]; exact hm) (by rw [emd]; exact c0') (by rw [emd]; exact k3) (by rw [emd, en]; exact g0) ht
          have mvk := q_in_mv h1 B hm c0' k3 g0
          have R1 := q_reg_turn G R hm c0'.1 k3 im (fun k a b c d => mvk k a b c d (by omega)) (a := q_mi (q_md S0) m) (b := q_hi (q_md S0) m) (.inr ⟨rfl, rfl⟩)
          have R2 := q_reg_turn G R hm c0'.1 k3 im (fun k a b c d => mvk k a b c d (by omega)) (a := q_lo (q_md S0) m) (b := q_mi (q_md S0) m - 1) (.inl ⟨rfl, rfl⟩)
          have C1 := q_cnt_turn G hm c0'.1 k3 im (a := q_mi (q_md S0) m) (b := q_hi (q_md S0) m) (.inr ⟨rfl, rfl⟩)
          have C2 := q_cnt_turn G hm c0'.1 k3 im (a := q_lo (q_md S0) m) (b := q_mi (q_md S0) m - 1) (.inl ⟨rfl, rfl⟩)
          have epc : q_pc (q_md S0) (q_row (q_md S0) (q_n S0) d) mv m = q_row (q_md S0) (q_n S0) d (q_mi (q_md S0) m) (q_hi (q_md S0) m) mv ++ q_row (q_md S0) (q_n S0) d (q_lo (q_md S0) m) (q_mi (q_md S0) m - 1) mv := by
            unfold q_pc; rw [if_neg (by omega), if_pos k3]
          rw [epc, q_wt_append] at hL
          rw [epc] at eL
          have el : q_lo (q_md S0) m = gi S0 201 m := md_lo1 (by rw [← md_kd, k3]; decide)
          have eh : q_hi (q_md S0) m = gi S0 203 m := md_hi3 k3
          have emi : q_mi (q_md S0) m = gi S0 202 m := rfl
          have vt : q_lo (q_md S0) m < q_mi (q_md S0) m ∧ q_mi (q_md S0) m ≤ q_hi (q_md S0) m ∧ 0 ≤ q_lo (q_md S0) m ∧ q_hi (q_md S0) m < F := by omega
          clear vm
          have X1 := q_lays_mx (ltR _ _ _ R1) hC' hf' (by omega)
          have X2 := q_lays_mx (ltR _ _ _ R2) X1.1 X1.2.1 (by omega)
          have m40 : (m : Int) < 41 := by
            have hm : m < (gi S0 192 27).toNat := hm
            omega
          rw [w_b1_is et, et1, if_neg (by omega), Int.toNat_natCast, w_chkP (by omega), w_chkP (by omega), hf'.1 202 m (by omega), hf'.1 203 m (by omega), ← emi, ← eh]
          rw [w_b1_is (hrk _ _ _ R1 (by omega) (by omega) S' hC' hf' (by omega)), w_chkP (by omega), w_chkP (by omega), X1.2.1.1 201 m (by omega), X1.2.1.1 202 m (by omega), ← emi, ← el, w_chkP (by omega)]
          rw [w_b1_is (hrk _ _ _ R2 (by omega) (by omega) _ X1.1 X1.2.1 (by omega)), w_chkP (by omega), X2.2.1.1 203 m (by omega), ← eh, w_chkP (by omega), eL, m_toks_append, m_toks_append]
          exact I _ n X2.1 X2.2.1 (by omega) (by omega) (by omega)
        · have et1 : t = -1 := by
            refine q_ta_none hC' G' R' (fun t ht ut kt lt ht' => ?_) ht
            rw [en] at ht
            rw [emd] at ut kt lt ht' ⊢
            have vt := G.1 t ht ut
            unfold q_val at vt
            have ct := g0 t ht ⟨ut, by omega, q_mv_turn R (by omega), lt, ht'⟩
            rcases G.2 t m ht hm (fun q => k3 (by rw [← q]; exact kt)) ut c0'.1 with p | p | p
            · have k4 : q_kd (q_md S0) m = 4 := by omega
              exact ⟨m, by rw [en]; exact hm, c0'.1, k4, im, by omega, by omega⟩
            · omega
            · exact absurd ⟨by omega, by omega, by omega, by omega⟩ p.1
          have lq : q_lt (q_pc (q_md S0) (q_row (q_md S0) (q_n S0) d) mv m) := by
            intro t ht
            unfold q_pc at ht
            have hm : m < (gi S0 192 27).toNat := hm
            by_cases k2 : q_kd (q_md S0) m = 2
            · rw [if_pos k2] at ht; simp at ht; omega
            · rw [if_neg k2, if_neg k3] at ht; simp at ht
          have X := q_lays_mx lq hC' hf' (by omega)
          have lw : f_M_layWord S' i mv = some (m_toks S' (q_pc (q_md S0) (q_row (q_md S0) (q_n S0) d) mv m)) := by
            unfold f_M_layWord
            rw [w_b1_is eq]
            unfold q_pc
            by_cases k4 : q_kd (q_md S0) m = 4
            · rw [if_neg (q_in_ne G' R' (by rw [en]; exact hm) (by rw [emd]; exact c0'.1) (by rw [emd]; exact k4) (by rw [emd]; exact im) (by rw [emd]; omega) (by rw [emd]; omega) hq), if_neg (by omega), if_neg k3]
              rfl
            · have eq1 : q = mv := by
                refine q_in_eq R' (by decide) (by omega) (by omega) (fun k hk uk kk ik => ?_) hq
                rw [en] at hk
                rw [emd] at uk kk ik ⊢
                intro w
                have bk := B k hk uk (by omega) ik
                have gk := g0 k hk ⟨uk, by omega, ik.1, by omega, ik.2.2⟩
                rcases G.2 k m hk hm (fun q => k4 (by rw [← q]; exact kk)) uk c0'.1 with p | p | p
                · omega
                · omega
                · exact p.1 ⟨by omega, by omega, by omega, by omega⟩
              rw [if_pos eq1]
              have sm : q_sc (q_md S') i m := by rw [emd]; exact ⟨c0'.1, by omega, by omega, by omega⟩
              refine ok_lw13 S' hC' i mv (by omega) _ (.inr ⟨m, by rw [en]; exact hm, sm, fun j hj sj => q_sc_one G' hj (by rw [en]; exact hm) sj sm, ?_⟩) (gi S' 192 27).toNat 0 FU (by omega) (by unfold FU; omega) (fun j hj => absurd hj (Nat.not_lt_zero j))
              rw [emd]
              by_cases k2 : q_kd (q_md S0) m = 2
              · rw [if_pos k2]
                refine .inl ⟨k2, by omega, ?_, rfl⟩
                have : q_wt (q_W S0) (q_pc (q_md S0) (q_row (q_md S0) (q_n S0) d) mv m) = q_W S0 (60 + m) + 0 := by unfold q_pc; rw [if_pos k2]; rfl
                rw [q_W_fp hf']; omega
              · rw [if_neg k2, if_neg k3]
                exact .inr ⟨fun w => k2 w.1, rfl⟩
          rw [w_b1_is et, if_pos et1, w_b1_is lw, w_chkP (by omega), eL, m_toks_append]
          have fp := X.2.1
          generalize m_toks S' (q_pc (q_md S0) (q_row (q_md S0) (q_n S0) d) mv m) = S2 at X fp ⊢
          have emd2 := q_md_fp fp
          have e272 := fp.1 192 27 (by omega)
          have en2 : (gi S2 192 27).toNat = q_n S0 := by rw [e272]
          have SK := ok_skip S2 X.1 hF (i := i) (low := low) (high := high) (mv := mv) (m := m) (F := F) (by rw [emd2, en2]; exact G) (by rw [emd2, en2]; exact R) rk (by rw [en2]; exact hm) (by rw [emd2]; exact c0') (by rw [emd2]; exact k3) h1
          rw [emd2] at SK
          refine SK _ (fun i' hk4 a e => ?_) (fun n' hn' => I S2 n' X.1 fp hn' (by omega) (by omega)) (q_hi (q_md S0) m - i).toNat (i + 1) n (by omega) (by omega) (by omega)
          have gl := gapL i' (by omega) (by omega) S2 X.1 fp
          have nil : q_gap (q_md S0) (q_row (q_md S0) (q_n S0) d) i' (q_n S0) 0 = [] := by
            refine q_gap_nil (q_n S0) 0 (fun j _ hj uj gj => ?_)
            have hj : j < q_n S0 := by omega
            have vj := G.1 j hj uj
            unfold q_val at vj
            have ne : j ≠ m := by intro w; subst w; omega
            rcases G.2 j m hj hm ne uj c0'.1 with p | p | p
            · omega
            · omega
            · exact p.2.1 ⟨by omega, by omega, by omega, by omega⟩
          rw [nil] at gl
          exact gl (by have := mx_192_5 X.1; show gi S2 192 5 + 0 ≤ 300; omega)
    by_cases c1 : i ≤ low
    · rw [if_pos c1]
      rw [if_neg (show ¬ low < i by omega), List.nil_append] at h ⊢
      exact tail S hC hf _ h rfl
    · rw [if_neg c1]
      rw [if_pos (show low < i by omega)] at h ⊢
      have emd := q_md_fp hf
      have en : (gi S 192 27).toNat = q_n S0 := by rw [hf.1 192 27 (by omega)]
      obtain ⟨q, eq, _, hq⟩ := ok_and (ok_M_innermost S i 1 hC) (pc_innermost S hC i 1 i32i (.inr rfl))
      have eq1 : q = mv := by
        refine q_in_eq (F := F) (low := low) (high := high) (by rw [emd, en]; exact R) (by decide) (by omega) (by omega) (fun k hk uk k4 ik => ?_) hq
        rw [en] at hk
        rw [emd] at uk k4 ik ⊢
        intro w
        exact B k hk uk (by omega) ik ⟨by omega, by omega⟩
      rw [q_wt_append] at h
      rw [w_b1_is eq, if_pos eq1, w_b1_is (gapL i (by omega) (by omega) S hC hf (by omega)), m_toks_append]
      have X := q_lays_mx (ltG i (by omega) (by omega) B) hC hf (by omega)
      exact tail _ X.1 X.2.1 _ (by omega) rfl
