def cu (S : SS) (u : Nat → Int) : q_MK := fun j k => if j = 5 then u k else c_md S j k
def c_dn (u : Nat → Int) (k : Nat) : Nat := m_dn (fun k => if u k = 1 then 0 else 1) k
theorem c_dn_1 {u : Nat → Int} {k : Nat} (h : u k = 1) : c_dn u (k + 1) = c_dn u k + 1 := by unfold c_dn; rw [m_dn, if_pos (by show (if u k = 1 then (0 : Int) else 1) = 0; rw [if_pos h])]
theorem c_dn_0 {u : Nat → Int} {k : Nat} (h : u k ≠ 1) : c_dn u (k + 1) = c_dn u k := by unfold c_dn; rw [m_dn, if_neg (by show ¬ (if u k = 1 then (0 : Int) else 1) = 0; rw [if_neg h]; decide)]; rfl
theorem c_dn_lt {u : Nat → Int} {k n : Nat} (h : u k = 1) (hk : k < n) : c_dn u k < c_dn u n := m_dn_lt _ k (by show (if u k = 1 then (0 : Int) else 1) = 0; rw [if_pos h]) n hk
theorem c_dn_le (u : Nat → Int) : ∀ k, c_dn u k ≤ k := by
  intro k
  induction k with
  | zero => exact Nat.le_refl _
  | succ k ih =>
    by_cases h : u k = 1
    · rw [c_dn_1 h]; omega
    · rw [c_dn_0 h]; omega
theorem c_dn_inj {u : Nat → Int} {k o n : Nat} (hk : u k = 1) (ho : u o = 1) (e : c_dn u k = c_dn u o) : k = o := by
  by_cases c : k < o
  · have := c_dn_lt hk c; omega
  · by_cases c2 : o < k
    · have := c_dn_lt ho c2; omega
    · omega
/-- the setter's standing: marks taken, sheets set -/
def CSET (q : Nat) (S0 : SS) (u : Nat → Int) (n : Nat) (F : Int) : Prop := q_good (cu S0 u) n F ∧ n ≤ 40 ∧ 0 ≤ F ∧ F ≤ 60 ∧ gi S0 4 1 = F ∧ gi S0 178 2 = (c_dn u n : Int) ∧ (∀ k, k < n → u k = 1 → gq S0 179 (c_dn u k) = some k) ∧ gq S0 178 4 = some q ∧ gq S0 178 3 = some 4 ∧ qok q ∧ (∀ k, k < 40 → 0 ≤ gi S0 (14 + 4 * k + 2) 1 ∧ gi S0 (14 + 4 * k + 2) 1 ≤ 6)
def CT (q : Nat) (S0 S : SS) : Prop := (∀ r k, r ≠ 180 → ¬ (r = q ∧ k = 1) → gi S r k = gi S0 r k) ∧ (∀ r k, r ≠ q + 1 → gl S r k = gl S0 r k) ∧ S.2.2 = S0.2.2
def OPS (S0 S : SS) (u : Nat → Int) (n : Nat) (low high mv : Int) : Prop := ∀ k, k < n → u k = 1 → (gi S 180 (c_dn u k) = 0 ∨ gi S 180 (c_dn u k) = 1) ∧ (gi S 180 (c_dn u k) = 1 ↔ q_op (cu S0 u) low high mv k)
def c_lays (q : Nat) (S0 : SS) (u : Nat → Int) (n : Nat) (low high mv : Int) (f : SS → Option SS) (L : List Nat) : Prop := ∀ S, CT q S0 S → OPS S0 S u n low high mv → 0 ≤ gi S q 1 → gi S q 1 + (q_wt (c_W S0) L : Int) ≤ cap q → pc (f S) (fun S1 => S1 = c_toks q S L)
theorem CT_toks {q : Nat} (hq : qok q) {S0 S : SS} (h : CT q S0 S) {L : List Nat} (hL : q_lt L) : CT q S0 (c_toks q S L) ∧ gi (c_toks q S L) q 1 = gi S q 1 + (q_wt (c_W S0) L : Int) ∧ ∀ k, gi (c_toks q S L) 180 k = gi S 180 k := by
  have T := c_toks_fp hq L S hL
  have ew : q_wt (c_W S) L = q_wt (c_W S0) L := by
    have : ∀ L : List Nat, q_lt L → q_wt (c_W S) L = q_wt (c_W S0) L := by
      intro L
      induction L with
      | nil => intro _; rfl
      | cons t L ih =>
        intro hL
        have e : c_W S t = c_W S0 t := by
          unfold c_W
          have := hL t List.mem_cons_self
          by_cases e : t < 60
          · rw [if_pos e, if_pos e]
          · rw [if_neg e, if_neg e, h.1 _ 1 (by omega) (by omega)]
        rw [q_wt, q_wt, e, ih (fun x hx => hL x (List.mem_cons_of_mem _ hx))]
    exact this L hL
  refine ⟨⟨fun r k a c => (T.1.1 r k c).trans (h.1 r k a c), fun r k a => (T.1.2.1 r k a).trans (h.2.1 r k a), T.1.2.2.trans h.2.2⟩, by rw [T.2, ew], fun k => T.1.1 180 k (by omega)⟩
theorem OPS_toks {q : Nat} (hq : qok q) {S0 S : SS} {u : Nat → Int} {n : Nat} {low high mv : Int} {L : List Nat} (hL : q_lt L) (h : OPS S0 S u n low high mv) : OPS S0 (c_toks q S L) u n low high mv := by
  intro k hk uk
  have e := (c_toks_fp hq L S hL).1.1 180 (c_dn u k) (by omega)
  rw [e]; exact h k hk uk
theorem c_taken {q : Nat} {S0 S : SS} {u : Nat → Int} {n : Nat} {F : Int} (H : CSET q S0 u n F) (hT : CT q S0 S) {k : Nat} (hk : k < n) (uk : u k = 1) : f_Setter_takenAt S (c_dn u k : Int) = some (some k) ∧ (c_dn u k : Int) < gi S 178 2 := by
  obtain ⟨h1, h2, h3, h4, h5, h6, h7, h8, h9, h10, h11⟩ := H
  have e : gi S 178 2 = (c_dn u n : Int) := by rw [hT.1 178 2 (by omega) (by omega)]; exact h6
  have l := c_dn_lt uk hk
  have l2 := c_dn_le u n
  refine ⟨?_, by omega⟩
  unfold f_Setter_takenAt
  rw [if_neg (by omega), if_neg (by omega), if_pos (by omega), w_chkP (by omega)]
  show some (gq S 179 (c_dn u k : Int).toNat) = _
  rw [Int.toNat_natCast]
  have : gq S 179 (c_dn u k) = gq S0 179 (c_dn u k) := by unfold gq; rw [hT.2.2]
  rw [this, h7 k hk uk]
theorem c_isOpen {S0 S : SS} {u : Nat → Int} {n : Nat} {low high mv : Int} (hn : n ≤ 40) (hO : OPS S0 S u n low high mv) {k : Nat} (hk : k < n) (uk : u k = 1) : ∃ r, f_Setter_isOpen S (c_dn u k : Int) = some r ∧ (r = 0 ↔ ¬ q_op (cu S0 u) low high mv k) := by
  have l2 := c_dn_le u k
  have o := hO k hk uk
  unfold f_Setter_isOpen
  rw [if_neg (by omega), if_neg (by omega), w_chkP (by omega), Int.toNat_natCast]
  by_cases c : gi S 180 (c_dn u k) = 0
  · rw [if_pos c]
    exact ⟨0, rfl, fun _ q => by have := o.2.2 q; omega, fun _ => rfl⟩
  · rw [if_neg c]
    exact ⟨1, rfl, fun q => absurd q (by decide), fun q => absurd (o.2.1 (by rcases o.1 with w | w; exact absurd w c; exact w)) q⟩
theorem c_mind {S : SS} {i : Nat} {v : Int} (hi : i < 40) (hv : v = 0 ∨ v = 1) : f_Setter_mind S (i : Int) v = some (si S 180 i v) := by
  unfold f_Setter_mind
  rw [if_neg (by omega), if_neg (by omega), w_chkP hv, w_chkP (by omega), Int.toNat_natCast]
  rfl
theorem cset_gap {q : Nat} {S0 : SS} {u : Nat → Int} {n : Nat} {F low high mv g : Int} (H : CSET q S0 u n F) (R : q_reg (cu S0 u) n F low high mv) (B : q_bd (cu S0 u) n low high mv g) (hg : 0 ≤ g) (hin : ∀ k, k < n → u k = 1 → q_gp (cu S0 u) k = g → q_kd (cu S0 u) k = 1 ∨ (q_kd (cu S0 u) k = 4 ∧ q_in (cu S0 u) low high mv k)) (rk : SS → Int → Int → Int → Option SS) (rp : Int → Int → Int → List Nat) (depth : Int)
    (hrk : ∀ k, k < n → u k = 1 → q_gp (cu S0 u) k = g → q_kd (cu S0 u) k = 4 → c_lays q S0 u n (q_lo (cu S0 u) k) (q_hi (cu S0 u) k) (k : Int) (fun S => rk S (q_lo (cu S0 u) k) (q_hi (cu S0 u) k) (depth + 1)) (rp (q_lo (cu S0 u) k) (q_hi (cu S0 u) k) (k : Int)) ∧ q_lt (rp (q_lo (cu S0 u) k) (q_hi (cu S0 u) k) (k : Int))) :
    ∀ (c k n2 : Nat), k + c = n → c_lays q S0 u n low high mv (fun S => f_Setter_setGap_2 rk g depth n2 S (c_dn u k : Int)) (q_gap (cu S0 u) rp g c k) := by
  obtain ⟨G, hn, hF0, hF, h4, h6, h7, h8, h9, hq, hW⟩ := id H
  intro c
  induction c with
  | zero =>
    intro k n2 hk S hT hO h0 hc
    cases n2 with
    | zero => intro r e; exact absurd e (by simp [f_Setter_setGap_2])
    | succ n2 =>
      have e : gi S 178 2 = (c_dn u n : Int) := by rw [hT.1 178 2 (by omega) (by omega)]; exact h6
      have hk : k = n := by omega
      show pc (f_Setter_setGap_2_b rk g depth (f_Setter_setGap_2 rk g depth n2) S (c_dn u k : Int)) _
      unfold f_Setter_setGap_2_b
      rw [if_pos (by rw [e, hk]; exact Int.le_refl _)]
      exact pc_some rfl
  | succ c ih =>
    intro k n2 hk S hT hO h0 hc
    by_cases uk : u k = 1
    · cases n2 with
      | zero => intro r e; exact absurd e (by simp [f_Setter_setGap_2])
      | succ n2 =>
        have tk := c_taken H hT (show k < n by omega) uk
        have l40 : c_dn u k < 40 := by have := c_dn_le u k; omega
        have us1 : q_us (cu S0 u) k = 1 := uk
        have next : ∀ S', CT q S0 S' → OPS S0 S' u n low high mv → 0 ≤ gi S' q 1 → gi S' q 1 + (q_wt (c_W S0) (q_gap (cu S0 u) rp g c (k + 1)) : Int) ≤ cap q → pc (f_Setter_setGap_95 rk g depth (f_Setter_setGap_2 rk g depth n2) S' (c_dn u k : Int)) (fun S1 => S1 = c_toks q S' (q_gap (cu S0 u) rp g c (k + 1))) := by
          intro S' a b d e
          unfold f_Setter_setGap_95
          refine pc_chk (fun _ => ?_)
          rw [show (c_dn u k : Int) + 1 = ((c_dn u (k + 1) : Nat) : Int) by rw [c_dn_1 uk]; omega]
          exact ih (k + 1) n2 (by omega) S' a b d e
        have eg : gi S (14 + 4 * k) 6 = q_gp (cu S0 u) k := hT.1 _ 6 (by omega) (by omega)
        have ek : gi S (14 + 4 * k) 2 = q_kd (cu S0 u) k := hT.1 _ 2 (by omega) (by omega)
        have hk40 : k < 40 := by omega
        have code : ∀ L, (if q_gp (cu S0 u) k = g then w_b1 (f_Setter_isOpen S (c_dn u k : Int)) (fun r6_z => (if r6_z = 0 then (if q_kd (cu S0 u) k = 1 then w_on (gq S 178 4) none (fun q18_z => w_chk (shOk q18_z) (w_b1 (f_Sheet_addAll S q18_z (14 + 4 * k + 2)) (fun S19_z => f_Setter_setGap_95 rk g depth (f_Setter_setGap_2 rk g depth n2) S19_z (c_dn u k : Int)))) else w_b1 (f_Setter_mind S (c_dn u k : Int) 1) (fun S9_z => w_chk (i32 (depth + 1)) (w_b1 (rk S9_z (gi S9_z (14 + 4 * k) 4) (gi S9_z (14 + 4 * k) 5) (depth + 1)) (fun S14_z => w_b1 (f_Setter_mind S14_z (c_dn u k : Int) 0) (fun S16_z => f_Setter_setGap_95 rk g depth (f_Setter_setGap_2 rk g depth n2) S16_z (c_dn u k : Int)))))) else f_Setter_setGap_95 rk g depth (f_Setter_setGap_2 rk g depth n2) S (c_dn u k : Int))) else f_Setter_setGap_95 rk g depth (f_Setter_setGap_2 rk g depth n2) S (c_dn u k : Int)) = L → pc L (fun S1 => S1 = c_toks q S (q_gap (cu S0 u) rp g (c + 1) k)) → pc (f_Setter_setGap_2 rk g depth (n2 + 1) S (c_dn u k : Int)) (fun S1 => S1 = c_toks q S (q_gap (cu S0 u) rp g (c + 1) k)) := by
          intro L eL hL
          rw [← eL, ← eg, ← ek] at hL
          show pc (f_Setter_setGap_2_b rk g depth (f_Setter_setGap_2 rk g depth n2) S (c_dn u k : Int)) _
          unfold f_Setter_setGap_2_b
          rw [if_neg (show ¬ gi S 178 2 ≤ (c_dn u k : Int) by omega), w_b1_is tk.1]
          show pc (w_chk (k < 40) _) _
          exact pc_chk (fun _ => hL)
        by_cases cg : q_gp (cu S0 u) k = g
        · refine code _ (if_pos cg) ?_
          have no : ¬ q_op (cu S0 u) low high mv k := by
            rcases hin k (by omega) uk cg with w | w
            · intro z
              rcases z with z | z
              · exact q_mv_turn R (by rw [w]; decide) z
              · exact z.1 w
            · exact q_op_in G R (by omega) us1 (by rw [w.1]; decide) w.2
          obtain ⟨r6, e6, h6'⟩ := c_isOpen hn hO (show k < n by omega) uk
          rw [w_b1_is e6, if_pos (h6'.2 no)]
          by_cases c1 : q_kd (cu S0 u) k = 1
          · rw [if_pos c1]
            have eL : q_gap (cu S0 u) rp g (c + 1) k = [60 + k] ++ q_gap (cu S0 u) rp g c (k + 1) := by
              rw [q_gap, if_pos (show q_us (cu S0 u) k = 1 ∧ q_gp (cu S0 u) k = g from ⟨us1, cg⟩), if_pos c1]
            rw [eL, q_wt_append] at hc
            rw [eL]
            have gq4 : gq S 178 4 = some q := by unfold gq; rw [hT.2.2]; exact h8
            rw [gq4]
            show pc (w_chk (shOk q) _) _
            refine pc_chk (fun _ => ?_)
            have ew : gi S (14 + 4 * k + 2) 1 = gi S0 (14 + 4 * k + 2) 1 := hT.1 _ 1 (by omega) (by omega)
            have w1 : q_wt (c_W S0) [60 + k] = (gi S0 (14 + 4 * k + 2) 1).toNat := by
              show c_W S0 (60 + k) + 0 = _
              unfold c_W
              rw [if_neg (by omega), show 60 + k - 60 = k by omega]; rfl
            have wk := hW k hk40
            have l1 : q_lt [60 + k] := fun t ht => by simp at ht; omega
            have X := CT_toks hq hT l1
            have X2 := OPS_toks hq l1 hO
            refine pc_b1 (R := fun S1 => S1 = c_toks q S [60 + k]) (fun S1 e1 => ?_) (fun S19 h19 => ?_)
            · exact c_addAll hq hk40 e1 (by rw [ew]; exact wk) h0 (by rw [ew]; omega)
            · rw [h19, c_toks_append]
              exact next _ X.1 X2 (by omega) (by omega)
          · rw [if_neg c1]
            have eL : q_gap (cu S0 u) rp g (c + 1) k = rp (q_lo (cu S0 u) k) (q_hi (cu S0 u) k) (k : Int) ++ q_gap (cu S0 u) rp g c (k + 1) := by
              rw [q_gap, if_pos (show q_us (cu S0 u) k = 1 ∧ q_gp (cu S0 u) k = g from ⟨us1, cg⟩), if_neg c1]
            rw [eL, q_wt_append] at hc
            rw [eL]
            have k4 : q_kd (cu S0 u) k = 4 := by
              rcases hin k (by omega) uk cg with w | w
              · exact absurd w c1
              · exact w.1
            have ik : q_in (cu S0 u) low high mv k := by
              rcases hin k (by omega) uk cg with w | w
              · exact absurd w c1
              · exact w.2
            obtain ⟨hl, hlt⟩ := hrk k (by omega) uk cg k4
            have f0 : gi S 180 (c_dn u k) = 0 := by
              have o := hO k (by omega) uk
              rcases o.1 with w | w
              · exact w
              · exact absurd (o.2.1 w) no
            rw [w_b1_is (c_mind l40 (.inr rfl))]
            have T9 : CT q S0 (si S 180 (c_dn u k) 1) := ⟨fun r i a d => by rw [gi_off (by omega)]; exact hT.1 r i a d, hT.2.1, hT.2.2⟩
            have O9 : OPS S0 (si S 180 (c_dn u k) 1) u n (q_lo (cu S0 u) k) (q_hi (cu S0 u) k) (k : Int) := by
              intro o ho uo
              by_cases e : o = k
              · rw [e, gi_at]
                exact ⟨.inr rfl, fun _ => .inl rfl, fun _ => rfl⟩
              · have ne : c_dn u o ≠ c_dn u k := fun w => e (c_dn_inj (n := n) uo uk w)
                rw [gi_off (by omega)]
                have w := hO o ho uo
                rw [← q_op_move G R (show k < n by omega) us1 k4 ik (by rw [cg]; exact B) ho uo e]
                exact w
            have eq9 : gi (si S 180 (c_dn u k) 1) q 1 = gi S q 1 := gi_off (by omega)
            refine pc_chk (fun _ => ?_)
            have el : gi (si S 180 (c_dn u k) 1) (14 + 4 * k) 4 = q_lo (cu S0 u) k := T9.1 _ 4 (by omega) (by omega)
            have eh : gi (si S 180 (c_dn u k) 1) (14 + 4 * k) 5 = q_hi (cu S0 u) k := T9.1 _ 5 (by omega) (by omega)
            rw [el, eh]
            refine pc_b1 (hl _ T9 O9 (by omega) (by omega)) (fun S14 h14 => ?_)
            rw [w_b1_is (c_mind l40 (.inl rfl))]
            have back : si S14 180 (c_dn u k) 0 = c_toks q S (rp (q_lo (cu S0 u) k) (q_hi (cu S0 u) k) (k : Int)) := by
              rw [h14, c_toks_op hq _ _ _ _ hlt]
              exact si_twice (by rw [(c_toks_fp hq _ S hlt).1.1 180 _ (by omega)]; exact f0)
            rw [back, c_toks_append]
            have X := CT_toks hq hT hlt
            exact next _ X.1 (OPS_toks hq hlt hO) (by omega) (by omega)
        · refine code _ (if_neg cg) ?_
          have eL : q_gap (cu S0 u) rp g (c + 1) k = q_gap (cu S0 u) rp g c (k + 1) := by
            rw [q_gap, if_neg (show ¬ (q_us (cu S0 u) k = 1 ∧ q_gp (cu S0 u) k = g) from fun w => cg w.2), List.nil_append]
          rw [eL] at hc ⊢
          exact next S hT hO h0 hc
    · have e : q_gap (cu S0 u) rp g (c + 1) k = q_gap (cu S0 u) rp g c (k + 1) := by
        rw [q_gap, if_neg (show ¬ (q_us (cu S0 u) k = 1 ∧ q_gp (cu S0 u) k = g) from fun w => uk w.1), List.nil_append]
      rw [e] at hc ⊢
      have := ih (k + 1) n2 (by omega) S hT hO h0 hc
      rw [c_dn_0 uk] at this
      exact this
