theorem MK_keep {S T S1 T1 : SS} {k : Nat} (h : MK S T k) (hs : ∀ r j, (r = 14 + 4 * k ∧ ((2 ≤ j ∧ j ≤ 6) ∨ j = 9)) ∨ r = 14 + 4 * k + 1 ∨ (r = 14 + 4 * k + 2 ∧ j = 1) → gi S1 r j = gi S r j) (ht : ∀ r, (199 ≤ r ∧ r ≤ 204) ∨ r = 208 → gi T1 r k = gi T r k) (gs : ∀ j, gl S1 (14 + 4 * k + 2 + 1) j = gl S (14 + 4 * k + 2 + 1) j) (gt : ∀ j, j < 6 → gl T1 206 (6 * k + j) = gl T 206 (6 * k + j)) : MK S1 T1 k := by
  obtain ⟨a1, a2, a3, a4, a5, a6, a7, a8⟩ := h
  refine ⟨?_, ?_, ?_, ?_, ?_, ?_, ?_, ?_⟩
  · rw [hs _ 2 (by omega), ht 199 (by omega)]; exact a1
  · rw [hs _ 3 (by omega), ht 200 (by omega)]; exact a2
  · rw [hs _ 0 (by omega), ht 201 (by omega)]; exact a3
  · rw [hs _ 1 (by omega), ht 202 (by omega)]; exact a4
  · rw [hs _ 2 (by omega), ht 203 (by omega)]; exact a5
  · unfold WL at a6 ⊢
    rw [hs _ 1 (by omega), ht 204 (by omega)]
    exact ⟨a6.1, a6.2.1, a6.2.2.1, fun j hj => by rw [gs, gt j (by omega)]; exact a6.2.2.2 j hj⟩
  · unfold PLC at a7 ⊢
    rw [hs (14 + 4 * k) 4 (by omega), hs (14 + 4 * k) 5 (by omega), hs (14 + 4 * k) 6 (by omega), hs (14 + 4 * k) 2 (by omega), hs (14 + 4 * k + 1) 0 (by omega), hs (14 + 4 * k + 1) 1 (by omega), hs (14 + 4 * k + 1) 2 (by omega)]
    exact a7
  · rw [hs _ 9 (by omega), ht 208 (by omega)]; exact a8
/-- what a text of marks may change, from mark n on -/
abbrev XRC (n r k : Nat) : Prop := r = 3 ∨ (r = 177 ∧ 4 ≤ k) ∨ (r = 10 ∧ k = 4) ∨ (14 + 4 * n ≤ r ∧ r ≤ 176)
abbrev XRR (n r k : Nat) : Prop := (r = 192 ∧ ((10 ≤ k ∧ k ≤ 15) ∨ k = 27)) ∨ (199 ≤ r ∧ r ≤ 208 ∧ n ≤ k)
def LNC (n : Nat) (S S1 : SS) : Prop := ∀ r k, (r < 14 + 4 * n ∨ 178 ≤ r) → gl S1 r k = gl S r k
def LNR (n : Nat) (T T1 : SS) : Prop := ∀ r k, ¬ (r = 206 ∧ 6 * n ≤ k) → gl T1 r k = gl T r k
/-- a text of marks: both fault alike, or both have them -/
def RQ (S T : SS) (n0 m : Nat) (r : Int) (S' : SS) (t : Int) (T1 : SS) : Prop :=
  FE S' T1 ∧ fr (XRC m) S S' ∧ fr (XRR m) T T1 ∧ LNC m S S' ∧ LNR m T T1 ∧
  ((r = 0 ∧ t = -1 ∧ gi T1 192 27 = (n0 : Int)) ∨ (∃ m' : Nat, m ≤ m' ∧ m' ≤ 40 ∧ r = 1 ∧ t = (m' : Int) - (n0 : Int) ∧ gi S' 10 4 = (m' : Int) - (n0 : Int) ∧ gi T1 192 27 = (m' : Int) ∧ (∀ k, n0 ≤ k → k < m' → MK S' T1 k) ∧ ∀ k, n0 ≤ k → k < m' → MF S' T1 k))
theorem rm_sim (v3 : Int) (n0 : Nat) : ∀ (n1 n2 m : Nat) (S T : SS) (v r : Int) (S' : SS) (t : Int) (T1 : SS), n0 ≤ m → m ≤ 40 → v = (m : Int) - (n0 : Int) → CX (m + 2) S → MX 1 T → BF S T → AH S T → gi S 177 3 = gi T 192 3 → gi S 10 3 = (n0 : Int) → gi T 192 27 = (n0 : Int) → FE S T → (∀ k, k < m → gi S (14 + 4 * k) 2 = gi T 199 k) → (∀ k, n0 ≤ k → k < m → MK S T k) → (∀ k, n0 ≤ k → k < m → MF S T k) → f_MarkReader_readMarks_44 v3 n1 S v = some (r, S') → f_M_marks_13 n2 T (m : Int) = some (t, T1) → RQ S T n0 m r S' t T1 := by
  intro n1
  induction n1 with
  | zero => intro n2 m S T v r S' t T1 _ _ _ _ _ _ _ _ _ _ _ _ _ _ h1; exact absurd h1 (by simp [f_MarkReader_readMarks_44])
  | succ n1 ih =>
    intro n2 m S T v r S' t T1 hn hm hv hC hM hB hA hF h3 h27 hE hkk hK hMF h1 h2
    cases n2 with
    | zero => exact absurd h2 (by simp [f_M_marks_13])
    | succ n2 =>
      have h1 : f_MarkReader_readMarks_44_b v3 (f_MarkReader_readMarks_44 v3 n1) S v = some (r, S') := h1
      have h2 : f_M_marks_13_b (f_M_marks_13 n2) T (m : Int) = some (t, T1) := h2
      unfold f_MarkReader_readMarks_44_b at h1
      unfold f_M_marks_13_b at h2
      rw [if_neg (by omega)] at h1
      obtain ⟨S1, e1, h1⟩ := w_b1E h1
      obtain ⟨K1, g1⟩ := AH_read hB hA e1
      have l1 := lq_token S S1 e1
      have C1 : CX (m + 2) S1 := (ok_true (ok_MarkReader_readToken S hC (by omega)) S1 e1).1
      have B1 : BF S1 T := BF_keep hB (fun k => ⟨g1.1 1 1 (by omega), g1.1 2 k (by omega)⟩) (fun _ => ⟨rfl, rfl⟩)
      obtain ⟨_, h1⟩ := w_chkE h1
      have e11 : gi S1 1 1 = gi T 192 9 := B1.1
      have sm := (hC.2.2.2.2.2 (by omega)).2
      have M1 : ∀ k, n0 ≤ k → k < m → MK S1 T k := fun k hk0 hk => MK_keep (hK k hk0 hk) (fun r j a => g1.1 r j (by omega)) (fun _ _ => rfl) (fun j => gl_2 l1 _ j) (fun _ _ => rfl)
      have F1 : ∀ k, n0 ≤ k → k < m → MF S1 T k := fun k a b => by
        have := hMF k a b
        unfold MF at this ⊢
        rw [g1.1 (14 + 4 * k) 7 (by omega), g1.1 (14 + 4 * k) 8 (by omega)]; exact this
      have E1 : FE S1 T := by
        unfold FE at hE ⊢
        rw [g1.1 3 0 (by omega), g1.1 3 1 (by omega)]; exact hE
      by_cases c : gi T 192 10 = gi T 192 9
      · -- the text's end
        have hd := K1.2.2.2.2.2.2.2.1 c
        rw [if_pos hd] at h2
        obtain ⟨_, h2⟩ := w_chkE h2
        have h2 := w_ltX h2
        rw [if_neg (by rw [K1.1, e11]; omega)] at h1
        cases h1
        cases h2
        have gT : ∀ r k, ¬ (r = 192 ∧ k = 27) → gi (si T 192 27 (m : Int)) r k = gi T r k := fun r k a => gi_off a
        refine ⟨?_, fun r k a => g1.1 r k (by omega), fun r k a => gT r k (by omega), fun r k _ => gl_2 l1 r k, fun r k _ => rfl, .inr ⟨m, Nat.le_refl _, hm, rfl, by rw [h27], ?_, gi_at _ _ _ _, fun k hk0 hk => MK_keep (M1 k hk0 hk) (fun _ _ _ => rfl) (fun r a => gT r k (by omega)) (fun _ => rfl) (fun _ _ => rfl), fun k a b => ?_⟩⟩
        · unfold FE at E1 ⊢
          rw [gT 192 14 (by omega), gT 192 15 (by omega)]; exact E1
        · rw [g1.1 10 4 (by omega)]; omega
        · have := F1 k a b
          unfold MF at this ⊢
          rw [gT 207 k (by omega), gT 205 k (by omega)]; exact this
      · have lt : gi T 192 10 < gi T 192 9 := by have := K1.2.2.2.1; have := K1.2.2.2.2.1; omega
        have hd : gi T 192 12 ≠ 0 := by
          obtain ⟨x1, x2, x3⟩ := K1.2.2.2.2.2.2.2.2 lt
          have cl : t_cls (mby_ T (gi T 192 10)) = 1 ∨ t_cls (mby_ T (gi T 192 10)) = 2 ∨ t_cls (mby_ T (gi T 192 10)) = 0 := by
            unfold t_cls
            repeat' split
            all_goals omega
          rcases cl with w | w | w
          · have := x1 w; omega
          · rcases (x2 w).1 with z | z <;> omega
          · rcases x3 w with z | z <;> omega
        rw [if_neg hd] at h2
        rw [if_pos (by rw [K1.1, e11]; omega)] at h1
        obtain ⟨rl, S5, e5, h1⟩ := w_b2E h1
        have F3 : gi S1 177 3 = gi T 192 3 := by rw [g1.1 177 3 (by omega)]; exact hF
        have ln : ∀ (o : Option Unit) (T6 : SS), f_M_readLine T (m : Int) = some (o, T6) → LQ S1 T m rl S5 o T6 := fun o T6 e6 => rl_sim hm C1 hM B1 K1 F3 (fun k hk => by rw [g1.1 (14 + 4 * k) 2 (by omega)]; exact hkk k hk) e5 e6
        rcases w_b3E h2 with ⟨u, T6, e6, h2⟩ | ⟨T6, e6, h2⟩
        · obtain ⟨L, y1, y2, y3, y4⟩ := ln _ _ e6
          rcases L with ⟨_, q, _⟩ | ⟨q1, _, q3, q4, q5, q6⟩
          · cases q
          · rw [if_neg (by omega)] at h1
            obtain ⟨_, h1⟩ := w_chkE h1
            obtain ⟨_, h1⟩ := w_chkE h1
            have h1 := w_ltX h1
            obtain ⟨_, h1⟩ := w_chkE h1
            obtain ⟨_, h2⟩ := w_chkE h2
            have C5 : CX (m + 2) S5 := (ok_true (ok_MarkReader_readLine S1 C1 (by omega)) _ e5).1
            have s5 := C5.2.2.2.2.2 (by omega)
            have c10 : gi S5 10 3 = (n0 : Int) := by rw [y1 10 3 (by omega), g1.1 10 3 (by omega)]; exact h3
            have gS : ∀ r k, ¬ (r = 10 ∧ k = 4) → gi (si S5 10 4 (gi S5 10 4 + 1)) r k = gi S5 r k := fun r k a => gi_off a
            have s4 : gi (si S5 10 4 (gi S5 10 4 + 1)) 10 4 = gi S5 10 4 + 1 := gi_at _ _ _ _
            have CC : CX (m + 1 + 2) (si S5 10 4 (gi S5 10 4 + 1)) := by
              refine CX.two (CX.set (CX.weak C5) ?_ ?_ (.inl (by decide))) s5.1 (by rw [s4, gS 10 3 (by omega)]; omega)
              · show (0 : Int) ≤ _
                omega
              · show _ ≤ (40 : Int)
                omega
            have lS : (si S5 10 4 (gi S5 10 4 + 1)).2 = S5.2 := rfl
            generalize si S5 10 4 (gi S5 10 4 + 1) = S6 at h1 gS s4 CC lS
            have M6 : MX 1 T6 := (ok_true (ok_M_readLine T (m : Int) hM (by omega)) _ e6).1
            have nofl := fl_line e5 (by omega)
            have nofm := fl_mline e6
            rw [show (m : Int) + 1 = ((m + 1 : Nat) : Int) by omega] at h2
            have R := ih n2 (m + 1) S6 T6 (v + 1) r S' t T1 (by omega) (by omega) (by omega) CC M6 (BF_keep B1 (fun k => ⟨by rw [gS 1 1 (by omega)]; exact y1 1 1 (by omega), by rw [gS 2 k (by omega)]; exact y1 2 k (by omega)⟩) (fun k => ⟨y2 192 9 (by omega), y2 197 k (by omega)⟩)) (by unfold AH at q4 ⊢; rw [gS 177 4 (by omega)]; exact q4) (by rw [gS 177 3 (by omega), y1 177 3 (by omega), y2 192 3 (by omega)]; exact F3) (by rw [gS 10 3 (by omega)]; exact c10) (by rw [y2 192 27 (by omega)]; exact h27) ?_ (fun k hk => ?_) (fun k hk0 hk => ?_) (fun k a b => ?_) h1 h2
            · obtain ⟨z1, z2, z3, z4, z5, z6⟩ := R
              refine ⟨z1, fun r k a => ?_, fun r k a => ?_, fun r k a => ?_, fun r k a => ?_, ?_⟩
              · rw [z2 r k (by omega), gS r k (by omega), y1 r k (by omega)]; exact g1.1 r k (by omega)
              · rw [z3 r k (by omega)]; exact y2 r k (by omega)
              · rw [z4 r k (by omega), gl_2 lS, y3 r k (by omega)]; exact gl_2 l1 r k
              · rw [z5 r k (by omega)]; exact y4 r k (by omega)
              · rcases z6 with q | ⟨m', w1, w2⟩
                · exact .inl q
                · exact .inr ⟨m', by omega, w2⟩
            · unfold FE at E1 ⊢
              rw [gS 3 0 (by omega), gS 3 1 (by omega), nofl 0, nofl 1, nofm.1, nofm.2]; exact E1
            · by_cases e : k = m
              · rw [e, gS (14 + 4 * m) 2 (by omega)]; exact q5.1
              · rw [gS (14 + 4 * k) 2 (by omega), y1 (14 + 4 * k) 2 (by omega), y2 199 k (by omega), g1.1 (14 + 4 * k) 2 (by omega)]; exact hkk k (by omega)
            · by_cases e : k = m
              · rw [e]; exact MK_keep q5 (fun r j a => gS r j (by omega)) (fun _ _ => rfl) (fun _ => gl_2 lS _ _) (fun _ _ => rfl)
              · exact MK_keep (M1 k hk0 (by omega)) (fun r j a => by rw [gS r j (by omega)]; exact y1 r j (by omega)) (fun r a => y2 r k (by omega)) (fun j => by rw [gl_2 lS]; exact y3 _ j (by omega)) (fun j hj => y4 _ _ (by omega))
            · by_cases e : k = m
              · rw [e]
                unfold MF at q6 ⊢
                rw [gS (14 + 4 * m) 7 (by omega), gS (14 + 4 * m) 8 (by omega)]; exact q6
              · have := F1 k a (by omega)
                unfold MF at this ⊢
                rw [gS (14 + 4 * k) 7 (by omega), gS (14 + 4 * k) 8 (by omega), y1 (14 + 4 * k) 7 (by omega), y1 (14 + 4 * k) 8 (by omega), y2 207 k (by omega), y2 205 k (by omega)]; exact this
        · obtain ⟨L, y1, y2, y3, y4⟩ := ln _ _ e6
          rcases L with ⟨q1, _, q3⟩ | ⟨_, q, _⟩
          · rw [if_pos q1] at h1
            cases h1
            cases h2
            refine ⟨q3, fun r k a => ?_, fun r k a => y2 r k (by omega), fun r k a => ?_, fun r k a => y4 r k (by omega), .inl ⟨rfl, rfl, by rw [y2 192 27 (by omega)]; exact h27⟩⟩
            · rw [y1 r k (by omega)]; exact g1.1 r k (by omega)
            · rw [y3 r k (by omega)]; exact gl_2 l1 r k
          · cases q
/-- some STET of n0 .. j - 1 tells mark k -/
def sv (T : SS) (n0 j k : Nat) : Prop := ∃ s : Nat, n0 ≤ s ∧ s < j ∧ gi T 199 s = 5 ∧ gi T 201 s = (k : Int)
/-- accept changes the marks' VOID alone -/
abbrev XAC (r k : Nat) : Prop := (r = 10 ∧ (k = 3 ∨ k = 4)) ∨ (14 ≤ r ∧ r < 174 ∧ r % 4 = 2 ∧ (k = 8 ∨ k = 10))
theorem ac_loop (S0 T : SS) (n0 m : Nat) (came : Int) (hm : m ≤ 40) (hq : ∀ k, k < 40 → gq S0 11 k = some k) (h3 : gi S0 10 3 = (m : Int)) (hK : ∀ k, k < m → gi S0 (14 + 4 * k) 2 = gi T 199 k ∧ gi S0 (14 + 4 * k + 1) 0 = gi T 201 k) (hv : ∀ k, k < m → gi T 199 k = 5 → 0 ≤ gi T 201 k ∧ gi T 201 k < (k : Int)) : ∀ (n : Nat) (S : SS) (j : Nat), n0 ≤ j → j ≤ m → S.2 = S0.2 → fr XAC S0 S → gi S 10 3 = (m : Int) → (∀ k, k < m → (gi S (14 + 4 * k) 8 ≠ 0 ↔ (gi S0 (14 + 4 * k) 8 ≠ 0 ∨ sv T n0 j k))) → pc (f_Pile_accept_30 n S came (j : Int)) (fun u => u.1 = came ∧ u.2.2 = S0.2 ∧ fr XAC S0 u.2 ∧ gi u.2 10 3 = (m : Int) ∧ gi u.2 10 4 = gi S 10 4 ∧ ∀ k, k < m → (gi u.2 (14 + 4 * k) 8 ≠ 0 ↔ (gi S0 (14 + 4 * k) 8 ≠ 0 ∨ sv T n0 m k))) := by
  intro n
  induction n with
  | zero => intro S j _ _ _ _ _ _ r e; exact absurd e (by simp [f_Pile_accept_30])
  | succ n ih =>
    intro S j hj hjm l f e3 hb
    have hq' : ∀ k, k < 40 → gq S 11 k = some k := fun k hk => by unfold gq; rw [l]; exact hq k hk
    show pc (f_Pile_accept_30_b (f_Pile_accept_30 n) S came (j : Int)) _
    unfold f_Pile_accept_30_b
    rw [e3]
    refine pc_if (fun c => ?_) (fun c => ?_)
    · have : j = m := by omega
      subst this
      exact pc_some ⟨rfl, l, f, e3, rfl, hb⟩
    · rw [w_b1_is (c_find hq' (by omega) (by omega))]
      show pc (w_chk (j < 40) _) _
      refine pc_chk (fun _ => ?_)
      have kj : gi S (14 + 4 * j) 2 = gi T 199 j := by rw [f (14 + 4 * j) 2 (by omega)]; exact (hK j (by omega)).1
      have nj : gi S (14 + 4 * j + 1) 0 = gi T 201 j := by rw [f (14 + 4 * j + 1) 0 (by omega)]; exact (hK j (by omega)).2
      have go : ∀ S1, S1.2 = S0.2 → fr XAC S0 S1 → gi S1 10 3 = (m : Int) → gi S1 10 4 = gi S 10 4 → (∀ k, k < m → (gi S1 (14 + 4 * k) 8 ≠ 0 ↔ (gi S0 (14 + 4 * k) 8 ≠ 0 ∨ sv T n0 (j + 1) k))) → pc (f_Pile_accept_81 (f_Pile_accept_30 n) S1 came (j : Int)) (fun u => u.1 = came ∧ u.2.2 = S0.2 ∧ fr XAC S0 u.2 ∧ gi u.2 10 3 = (m : Int) ∧ gi u.2 10 4 = gi S 10 4 ∧ ∀ k, k < m → (gi u.2 (14 + 4 * k) 8 ≠ 0 ↔ (gi S0 (14 + 4 * k) 8 ≠ 0 ∨ sv T n0 m k))) := by
        intro S1 l1 f1 e31 e41 b1
        unfold f_Pile_accept_81
        refine pc_chk (fun _ => ?_)
        rw [show (j : Int) + 1 = ((j + 1 : Nat) : Int) by omega]
        exact pc_mono (ih S1 (j + 1) (by omega) (by omega) l1 f1 e31 b1) (fun u q => ⟨q.1, q.2.1, q.2.2.1, q.2.2.2.1, q.2.2.2.2.1.trans e41, q.2.2.2.2.2⟩)
      rw [kj]
      refine pc_if (fun c5 => ?_) (fun c5 => ?_)
      · have v := hv j (by omega) c5
        have en : f_Mark_number S j 0 = some (gi T 201 j) := by
          rw [c_num (by omega), ← nj]; rfl
        have ef : f_Pile_find S (gi T 201 j) = some (some (gi T 201 j).toNat) := by
          have := c_find hq' (k := (gi T 201 j).toNat) (by omega) (by omega)
          rw [show (((gi T 201 j).toNat : Nat) : Int) = gi T 201 j by omega] at this
          exact this
        rw [w_b1_is en, w_b1_is ef]
        show pc (w_chk ((gi T 201 j).toNat < 40) _) _
        refine pc_chk (fun _ => ?_)
        have key : ∀ k, k < m → (sv T n0 (j + 1) k ↔ (sv T n0 j k ∨ k = (gi T 201 j).toNat)) := by
          intro k hk
          constructor
          · rintro ⟨s, a1, a2, a3, a4⟩
            by_cases e : s = j
            · right; rw [e] at a4; omega
            · exact .inl ⟨s, a1, by omega, a3, a4⟩
          · rintro (⟨s, a1, a2, a3, a4⟩ | e)
            · exact ⟨s, a1, by omega, a3, a4⟩
            · exact ⟨j, hj, by omega, c5, by omega⟩
        unfold f_Mark_voidByStet
        by_cases c8 : gi S (14 + 4 * (gi T 201 j).toNat) 8 = 0
        · rw [if_pos c8]
          refine pc_lt (fun S1 e1 => ?_)
          have e1 : S1 = si (si S (14 + 4 * (gi T 201 j).toNat) 8 1) (14 + 4 * (gi T 201 j).toNat) 10 (j : Int) := e1
          have f1 : ∀ r k, ¬ (r = 14 + 4 * (gi T 201 j).toNat ∧ (k = 8 ∨ k = 10)) → gi S1 r k = gi S r k := fun r k a => by rw [e1, gi_off (by omega), gi_off (by omega)]
          refine go S1 (by rw [e1]; exact l) (fun r k a => by rw [f1 r k (by omega)]; exact f r k a) (by rw [f1 10 3 (by omega)]; exact e3) (f1 10 4 (by omega)) (fun k hk => ?_)
          rw [key k hk]
          by_cases e : k = (gi T 201 j).toNat
          · rw [e, e1, gi_off (by omega), gi_at]
            exact ⟨fun _ => .inr (.inr rfl), fun _ => by decide⟩
          · rw [f1 _ 8 (by omega), hb k hk]
            exact ⟨fun q => q.elim .inl (fun w => .inr (.inl w)), fun q => q.elim .inl (fun w => w.elim .inr (fun w => absurd w e))⟩
        · rw [if_neg c8]
          refine pc_lt (fun S1 e1 => ?_)
          rw [e1]
          refine go S l f e3 rfl (fun k hk => ?_)
          rw [key k hk]
          by_cases e : k = (gi T 201 j).toNat
          · have := (hb k hk).1 (by rw [e]; exact c8)
            exact ⟨fun _ => this.elim .inl (fun w => .inr (.inl w)), fun _ => by rw [e]; exact c8⟩
          · rw [hb k hk]
            exact ⟨fun q => q.elim .inl (fun w => .inr (.inl w)), fun q => q.elim .inl (fun w => w.elim .inr (fun w => absurd w e))⟩
      · refine go S l f e3 rfl (fun k hk => ?_)
        have key : sv T n0 (j + 1) k ↔ sv T n0 j k := by
          constructor
          · rintro ⟨s, a1, a2, a3, a4⟩
            by_cases e : s = j
            · rw [e] at a3; exact absurd a3 c5
            · exact ⟨s, a1, by omega, a3, a4⟩
          · rintro ⟨s, a1, a2, a3, a4⟩
            exact ⟨s, a1, by omega, a3, a4⟩
        rw [key]; exact hb k hk
theorem ac_is {S0 T : SS} {n0 m : Nat} (hm : m ≤ 40) (hn : n0 ≤ m) (hq : ∀ k, k < 40 → gq S0 11 k = some k) (h3 : gi S0 10 3 = (n0 : Int)) (h4 : gi S0 10 4 = (m : Int) - (n0 : Int)) (hK : ∀ k, k < m → gi S0 (14 + 4 * k) 2 = gi T 199 k ∧ gi S0 (14 + 4 * k + 1) 0 = gi T 201 k) (hv : ∀ k, k < m → gi T 199 k = 5 → 0 ≤ gi T 201 k ∧ gi T 201 k < (k : Int)) : pc (f_Pile_accept S0) (fun u => u.1 = (m : Int) - (n0 : Int) ∧ u.2.2 = S0.2 ∧ fr XAC S0 u.2 ∧ gi u.2 10 3 = (m : Int) ∧ gi u.2 10 4 = 0 ∧ ∀ k, k < m → (gi u.2 (14 + 4 * k) 8 ≠ 0 ↔ (gi S0 (14 + 4 * k) 8 ≠ 0 ∨ sv T n0 m k))) := by
  unfold f_Pile_accept
  refine pc_chk (fun _ => pc_lt (fun S5 e5 => pc_lt (fun S6 e6 => pc_chk (fun _ => ?_))))
  have s3 : gi S6 10 3 = (m : Int) := by rw [e6, gi_off (by omega), e5, gi_at]; omega
  have s4 : gi S6 10 4 = 0 := by rw [e6, gi_at]
  have f6 : ∀ r k, ¬ (r = 10 ∧ (k = 3 ∨ k = 4)) → gi S6 r k = gi S0 r k := fun r k a => by rw [e6, gi_off (by omega), e5, gi_off (by omega)]
  have l6 : S6.2 = S0.2 := by rw [e6, e5]; rfl
  rw [s3, h4, show (m : Int) - ((m : Int) - (n0 : Int)) = (n0 : Int) by omega]
  refine pc_mono (ac_loop S6 T n0 m ((m : Int) - (n0 : Int)) hm (fun k hk => by unfold gq; rw [l6]; exact hq k hk) s3 (fun k hk => by rw [f6 _ 2 (by omega), f6 _ 0 (by omega)]; exact hK k hk) hv FU S6 n0 (Nat.le_refl _) hn rfl (fr_refl _ _) s3 (fun k hk => ⟨fun q => .inl q, fun q => q.elim id (fun w => by obtain ⟨s, a1, a2, _⟩ := w; omega)⟩)) (fun u q => ?_)
  obtain ⟨q1, q2, q3, q4, q5, q6⟩ := q
  refine ⟨q1, q2.trans l6, fun r k a => by rw [q3 r k a]; exact f6 r k (by omega), q4, by rw [q5]; exact s4, fun k hk => ?_⟩
  rw [q6 k hk, f6 _ 8 (by omega)]
/-- two judgings of like marks give the same -/
theorem j_one_cg {nm nm' : Nat → Nat → Prop} {n k : Nat} {bad : Nat → Prop} {st st' : Nat → Int} (hk : k < n) (hnm : ∀ a b, a < n → b < n → ¬ bad a → ¬ bad b → (nm a b ↔ nm' a b)) (hs : ∀ j, j < n → st j = st' j) (hb : ∀ j, j < n → st j = 0 ∨ st j = 1 → ¬ bad j) (h1 : st k = 1) : (∀ j, j < n → j_one nm n k st j = j_one nm' n k st' j) ∧ ∀ j, j < n → j_one nm n k st j = 0 ∨ j_one nm n k st j = 1 → ¬ bad j := by
  have e : (∀ o, o < n → st o = 0 → nm k o) ↔ (∀ o, o < n → st' o = 0 → nm' k o) := by
    constructor
    · intro h o ho h0
      rw [← hs o ho] at h0
      exact (hnm k o hk ho (hb k hk (.inr h1)) (hb o ho (.inl h0))).1 (h o ho h0)
    · intro h o ho h0
      exact (hnm k o hk ho (hb k hk (.inr h1)) (hb o ho (.inl h0))).2 (h o ho (by rw [← hs o ho]; exact h0))
  refine ⟨fun j hj => ?_, fun j hj => ?_⟩
  · unfold j_one
    by_cases c : j = k ∧ ∀ o, o < n → st o = 0 → nm k o
    · rw [cif_pos c, cif_pos ⟨c.1, e.1 c.2⟩]
    · rw [cif_neg c, cif_neg (fun q => c ⟨q.1, e.2 q.2⟩)]; exact hs j hj
  · intro q
    by_cases c : j = k
    · rw [c]; exact hb k hk (.inr h1)
    · unfold j_one at q
      rw [cif_neg (fun w => c w.1)] at q
      exact hb j hj q
theorem j_k_cg {nm nm' : Nat → Nat → Prop} {n : Nat} {bad : Nat → Prop} {rk rk' : Nat → Int} {r : Int} (hnm : ∀ a b, a < n → b < n → ¬ bad a → ¬ bad b → (nm a b ↔ nm' a b)) (hrk : ∀ j, j < n → rk j = rk' j) : ∀ (c k : Nat) (st st' : Nat → Int), k + c ≤ n → (∀ j, j < n → st j = st' j) → (∀ j, j < n → st j = 0 ∨ st j = 1 → ¬ bad j) → (∀ j, j < n → j_k nm n rk r c k st j = j_k nm' n rk' r c k st' j) ∧ ∀ j, j < n → j_k nm n rk r c k st j = 0 ∨ j_k nm n rk r c k st j = 1 → ¬ bad j := by
  intro c
  induction c with
  | zero => intro k st st' _ hs hb; exact ⟨hs, hb⟩
  | succ c ih =>
    intro k st st' hk hs hb
    rw [j_k, j_k]
    by_cases d : st k = 1 ∧ rk k = r
    · have d' : st' k = 1 ∧ rk' k = r := ⟨by rw [← hs k (by omega)]; exact d.1, by rw [← hrk k (by omega)]; exact d.2⟩
      rw [cif_pos d, cif_pos d']
      have o := j_one_cg (by omega) hnm hs hb d.1
      exact ih (k + 1) _ _ (by omega) o.1 o.2
    · have d' : ¬ (st' k = 1 ∧ rk' k = r) := fun q => d ⟨by rw [hs k (by omega)]; exact q.1, by rw [hrk k (by omega)]; exact q.2⟩
      rw [cif_neg d, cif_neg d']
      exact ih (k + 1) _ _ (by omega) hs hb
theorem j_r_cg {nm nm' : Nat → Nat → Prop} {n : Nat} {bad : Nat → Prop} {rk rk' : Nat → Int} (hnm : ∀ a b, a < n → b < n → ¬ bad a → ¬ bad b → (nm a b ↔ nm' a b)) (hrk : ∀ j, j < n → rk j = rk' j) : ∀ (c : Nat) (r : Int) (st st' : Nat → Int), (∀ j, j < n → st j = st' j) → (∀ j, j < n → st j = 0 ∨ st j = 1 → ¬ bad j) → ∀ j, j < n → j_r nm n rk c r st j = j_r nm' n rk' c r st' j := by
  intro c
  induction c with
  | zero => intro r st st' hs _; exact hs
  | succ c ih =>
    intro r st st' hs hb
    rw [j_r, j_r]
    have o := j_k_cg (r := r) hnm hrk n 0 st st' (by omega) hs hb
    exact ih (r + 1) _ _ o.1 o.2
/-- a mark's numbers alike, its words' count too -/
def MN (S T : SS) (k : Nat) : Prop := gi S (14 + 4 * k) 2 = gi T 199 k ∧ gi S (14 + 4 * k) 3 = gi T 200 k ∧ gi S (14 + 4 * k + 1) 0 = gi T 201 k ∧ gi S (14 + 4 * k + 1) 1 = gi T 202 k ∧ gi S (14 + 4 * k + 1) 2 = gi T 203 k ∧ gi S (14 + 4 * k + 2) 1 = gi T 204 k ∧ PLC S k ∧ gi S (14 + 4 * k) 9 = gi T 208 k
theorem MK_MN {S T : SS} {k : Nat} (h : MK S T k) : MN S T k := ⟨h.1, h.2.1, h.2.2.1, h.2.2.2.1, h.2.2.2.2.1, h.2.2.2.2.2.1.1, h.2.2.2.2.2.2.1, h.2.2.2.2.2.2.2⟩
/-- WAITS and VOID alike -/
def VW (S T : SS) (k : Nat) : Prop := (gi S (14 + 4 * k) 7 ≠ 0 ↔ (gi T 207 k ≠ 0 ∧ gi T 205 k = 0)) ∧ (gi S (14 + 4 * k) 8 ≠ 0 ↔ (m_ov T k ∨ (gi T 207 k ≠ 0 ∧ gi T 205 k = 2)))
theorem s0_eq {S T : SS} {k : Nat} (h : MN S T k) (v : VW S T k) : c_s0 S k = m_s0 T k := by
  unfold c_s0 m_s0
  rw [h.1]
  by_cases c5 : gi T 199 k = 5
  · rw [if_pos c5, if_pos c5]
  · rw [if_neg c5, if_neg c5]
    by_cases c8 : gi S (14 + 4 * k) 8 = 0
    · rw [if_pos c8, cif_neg (fun q => v.2.2 q c8)]
      by_cases c7 : gi S (14 + 4 * k) 7 = 0
      · rw [if_pos c7, if_neg (fun q => v.1.2 q c7)]
      · rw [if_neg c7, if_pos (v.1.1 c7)]
    · rw [if_neg c8, cif_pos (v.2.1 c8)]
theorem md_eq {S T : SS} {k : Nat} (h : MN S T k) (h5 : gi T 199 k ≠ 5) : q_kd (c_md S) k = q_kd (q_md T) k ∧ q_lo (c_md S) k = q_lo (q_md T) k ∧ q_hi (c_md S) k = q_hi (q_md T) k ∧ q_mi (c_md S) k = q_mi (q_md T) k ∧ q_gp (c_md S) k = q_gp (q_md T) k := by
  obtain ⟨a1, a2, a3, a4, a5, a6, a7, a8⟩ := h
  unfold PLC at a7
  rw [a1, a3, a4, a5, if_neg h5, if_neg h5] at a7
  refine ⟨?_, ?_, ?_, ?_, ?_⟩
  · rw [cm_kd, md_kd]; exact a1
  · rw [cm_lo, md_lo]; exact a7.1
  · rw [cm_hi, md_hi]; exact a7.2.1
  · show gi S (14 + 4 * k + 1) 1 = gi T 202 k
    exact a4
  · rw [md_gp]
    exact a7.2.2
theorem wi_eq {M M' : q_MK} {k o : Nat} (hk : q_kd M k = q_kd M' k ∧ q_lo M k = q_lo M' k ∧ q_hi M k = q_hi M' k ∧ q_mi M k = q_mi M' k ∧ q_gp M k = q_gp M' k) (ho : q_kd M o = q_kd M' o ∧ q_lo M o = q_lo M' o ∧ q_hi M o = q_hi M' o ∧ q_mi M o = q_mi M' o ∧ q_gp M o = q_gp M' o) : (q_wi M k o ↔ q_wi M' k o) ∧ (q_nm M k o ↔ q_nm M' k o) := by
  obtain ⟨a1, a2, a3, a4, a5⟩ := hk
  obtain ⟨b1, b2, b3, b4, b5⟩ := ho
  unfold q_nm q_wi q_ins q_ov q_cut
  rw [a1, a2, a3, a4, a5, b1, b2, b3, b4, b5]
  exact ⟨Iff.rfl, Iff.rfl⟩
/-- marks alike -/
def RK (S T : SS) : Prop := gi S 10 3 = gi T 192 27 ∧ ∀ k : Nat, (k : Int) < gi T 192 27 → MN S T k ∧ VW S T k
theorem st_eq {S T : SS} (h : RK S T) (hh : ∀ k : Nat, (k : Int) < gi T 192 27 → 0 ≤ gi T 200 k ∧ gi T 200 k ≤ 2) (hr : ∀ k, gi S 12 k = gi T 209 k ∨ 3 ≤ k) : ∀ k : Nat, (k : Int) < gi T 192 27 → c_st S k = m_st T k := by
  intro k hk
  unfold c_st m_st
  rw [h.1]
  refine j_r_cg (bad := fun j => gi T 199 j = 5) (fun a b ha hb na nb => ?_) (fun j hj => ?_) 10 0 _ _ (fun j hj => ?_) (fun j hj q => ?_) k (by omega)
  · exact (wi_eq (md_eq (h.2 a (by omega)).1 na) (md_eq (h.2 b (by omega)).1 nb)).2
  · have e := (h.2 j (by omega)).1.2.1
    have w := hh j (by omega)
    show gi S 12 (gi S (14 + 4 * j) 3).toNat = gi T 209 (gi T 200 j).toNat
    rw [e]
    rcases hr (gi T 200 j).toNat with z | z
    · exact z
    · omega
  · exact s0_eq (h.2 j (by omega)).1 (h.2 j (by omega)).2
  · intro e5
    unfold c_s0 at q
    rw [(h.2 j (by omega)).1.1, if_pos e5] at q
    omega
theorem sh_of {S T : SS} {k : Nat} (h : MN S T k) (v : m_val T k) (h5 : gi T 199 k ≠ 5) : c_sh S k := by
  obtain ⟨a1, a2, a3, a4, a5, a6, a7, a8⟩ := h
  unfold PLC at a7
  rw [a1, a3, a4, a5, if_neg h5, if_neg h5] at a7
  unfold c_sh
  unfold m_val at v
  rw [a1, a7.1, a7.2.1, a7.2.2]
  by_cases c1 : gi T 199 k = 1
  · rw [if_pos c1, if_pos c1, if_pos c1]
    left; omega
  · rw [if_neg c1, if_neg c1, if_neg c1]
    right
    by_cases c3 : gi T 199 k = 3
    · rw [if_pos c3, if_neg (by omega)]; omega
    · rw [if_neg c3]
      by_cases c4 : gi T 199 k = 4
      · rw [if_pos c4]; omega
      · rw [if_neg c4]; omega
theorem ok_of {S T : SS} {b : Nat} (hC : CX b S) (hN : NX T) (h : RK S T) : c_ok S := by
  refine ⟨hC.2.1, (cx_10_3 hC).1, (cx_10_3 hC).2, fun k hk => ?_, fun k hk h5 => ?_⟩
  · have b3 := cx_10_3 hC
    exact cx_mk_3 hC (by omega)
  · rw [h.1] at hk
    have m := (h.2 k hk).1
    exact sh_of m (hN k hk) (by rw [← m.1]; exact h5)
theorem tob_8r (a : Int) : -128 ≤ tob a ∧ tob a ≤ 127 := by
  unfold tob
  rw [Int8.toInt_toInt32]
  have h1 := Int8.le_toInt (oi a).toInt8
  have h2 := Int8.toInt_lt (oi a).toInt8
  omega
def BY (T : SS) : Prop := ∀ k, -128 ≤ gi T 197 k ∧ gi T 197 k ≤ 127
theorem by_lay (v : Int) : ∀ (n : Nat) (T : SS) (s : Int), BY T → pc (f_M_lay_3 v n T s) BY := by
  intro n
  induction n with
  | zero => intro T s _ r e; exact absurd e (by simp [f_M_lay_3])
  | succ n ih =>
    intro T s h
    show pc (f_M_lay_3_b v (f_M_lay_3 v n) T s) _
    unfold f_M_lay_3_b
    refine pc_if (fun _ => pc_some h) (fun _ => pc_chk (fun _ => pc_lt (fun T1 e1 => pc_chk (fun _ => pc_lt (fun T2 e2 => pc_chk (fun _ => ih _ _ ?_))))))
    intro k
    rw [e2, gi_off (by omega), e1, gi_si]
    split
    · exact tob_8r _
    · exact h k
theorem by_feed (T : SS) (a b c d e : Int) (h : BY T) : pc (f_M_feed T a b c d e) (fun u => BY u.2) := by
  unfold f_M_feed f_M_lay
  exact pc_chk (fun _ => pc_if (fun _ => pc_b1 (by_lay _ FU _ _ h) (fun _ h => pc_b1 (by_lay _ FU _ _ h) (fun _ h => pc_b1 (by_lay _ FU _ _ h) (fun _ h => pc_b1 (by_lay _ FU _ _ h) (fun _ h => pc_b1 (by_lay _ FU _ _ h) (fun _ h => pc_some h)))))) (fun _ => pc_some h))
theorem by_fr {X : Nat → Nat → Prop} {T T1 : SS} (h : BY T) (f : fr X T T1) (hx : ∀ k, ¬ X 197 k) : BY T1 := fun k => by rw [f 197 k (hx k)]; exact h k
theorem m_dn_cg {a c : Nat → Int} : ∀ k : Nat, (∀ j, j < k → a j = c j) → m_dn a k = m_dn c k := by
  intro k
  induction k with
  | zero => intro _; rfl
  | succ k ih => intro h; rw [m_dn, m_dn, ih (fun j hj => h j (by omega)), h k (by omega)]
theorem ov_cg {T T1 : SS} (hn : gi T1 192 27 = gi T 192 27) (ht : ∀ r k, (199 ≤ r ∧ r ≤ 203) ∨ r = 205 ∨ r = 207 ∨ r = 209 → gi T1 r k = gi T r k) (k : Nat) : m_ov T1 k ↔ m_ov T k := by
  constructor
  · rintro ⟨s, a, b, c, d⟩
    exact ⟨s, a, by rw [← hn]; exact b, by rw [← ht 199 s (by omega)]; exact c, by rw [← ht 201 s (by omega)]; exact d⟩
  · rintro ⟨s, a, b, c, d⟩
    exact ⟨s, a, by rw [hn]; exact b, by rw [ht 199 s (by omega)]; exact c, by rw [ht 201 s (by omega)]; exact d⟩
theorem mst_cg {T T1 : SS} (hn : gi T1 192 27 = gi T 192 27) (ht : ∀ r k, (199 ≤ r ∧ r ≤ 203) ∨ r = 205 ∨ r = 207 ∨ r = 209 → gi T1 r k = gi T r k) : ∀ k : Nat, (k : Int) < gi T 192 27 → m_st T1 k = m_st T k := by
  intro k hk
  unfold m_st
  rw [hn]
  have e : ∀ j, q_kd (q_md T1) j = q_kd (q_md T) j ∧ q_lo (q_md T1) j = q_lo (q_md T) j ∧ q_hi (q_md T1) j = q_hi (q_md T) j ∧ q_mi (q_md T1) j = q_mi (q_md T) j ∧ q_gp (q_md T1) j = q_gp (q_md T) j := by
    intro j
    refine ⟨?_, ?_, ?_, ?_, ?_⟩
    · rw [md_kd, md_kd]; exact ht 199 j (by omega)
    · rw [md_lo, md_lo, ht 199 j (by omega), ht 201 j (by omega)]
    · rw [md_hi, md_hi, ht 199 j (by omega), ht 202 j (by omega), ht 203 j (by omega)]
    · rw [md_mi, md_mi]; exact ht 202 j (by omega)
    · rw [md_gp, md_gp, ht 199 j (by omega), ht 201 j (by omega), ht 203 j (by omega)]
  refine j_r_cg (bad := fun _ => False) (fun a b _ _ _ _ => (wi_eq (e a) (e b)).2) (fun j hj => ?_) 10 0 _ _ (fun j hj => ?_) (fun j hj q w => w) k (by omega)
  · show gi T1 209 (gi T1 200 j).toNat = gi T 209 (gi T 200 j).toNat
    rw [ht 200 j (by omega), ht 209 _ (by omega)]
  · unfold m_s0
    rw [ht 199 j (by omega), ht 205 j (by omega), ht 207 j (by omega), propext (ov_cg hn ht j)]
/-- what the class has decided is what the reference judges -/
def CD (S T : SS) : Prop := (∀ j : Nat, (j : Int) < gi T 192 27 → gi S (14 + 4 * j) 11 = m_st T j) ∧ gi S 10 5 = (m_dn (m_st T) (gi T 192 27).toNat : Int) ∧ ∀ j : Nat, (j : Int) < gi T 192 27 → m_st T j = 0 → gi S 13 (m_dn (m_st T) j) = (j : Int)
theorem CD_cg {S T S1 T1 : SS} (h : CD S T) (hn : gi T1 192 27 = gi T 192 27) (he : ∀ k : Nat, (k : Int) < gi T 192 27 → m_st T1 k = m_st T k) (h11 : ∀ j : Nat, (j : Int) < gi T 192 27 → gi S1 (14 + 4 * j) 11 = gi S (14 + 4 * j) 11) (h5 : gi S1 10 5 = gi S 10 5) (h13 : ∀ k, gi S1 13 k = gi S 13 k) : CD S1 T1 := by
  obtain ⟨a, b, c⟩ := h
  refine ⟨fun j hj => ?_, ?_, fun j hj h0 => ?_⟩
  · rw [hn] at hj
    rw [h11 j hj, he j hj]; exact a j hj
  · rw [h5, hn, m_dn_cg (a := m_st T1) (c := m_st T) _ (fun j hj => he j (by omega))]; exact b
  · rw [hn] at hj
    rw [h13, m_dn_cg (a := m_st T1) (c := m_st T) _ (fun i hi => he i (by omega))]
    exact c j hj (by rw [← he j hj]; exact h0)
theorem st_settle {S T : SS} (hC : CX 0 S) (hM : MX 0 T) (hN : NX T) (hK : RK S T) (hr : ∀ k, gi S 12 k = gi T 209 k ∨ 3 ≤ k) : pc (f_MP_settle S) (fun S1 => fr XT S S1 ∧ CD S1 T) := by
  have b40 := cx_10_3 hC
  refine pc_and (fs_settle (X := XT) (fun _ _ q => q) S S (fr_refl _ _)) ?_
  unfold f_MP_settle
  refine pc_b1 (pc_decide S (ok_of hC hN hK)) (fun S1 h1 => ?_)
  obtain ⟨d1, d2, d3, d4, d5⟩ := h1
  have se := st_eq hK (fun k _ => mx_200 hM k) hr
  refine pc_b1 (fx_Setter_takeDone (X := fun r k => r = 180 ∨ (r = 178 ∧ k = 2)) (S0 := S1) (x_180 := fun k => .inl rfl) (x_178_2 := .inr ⟨rfl, rfl⟩) S1 _ (FX_refl _ S1)) (fun S3 h3 => ?_)
  refine pc_b1 (fs_make (X := fun r k => r = 180 ∨ (r = 178 ∧ k = 2) ∨ (r = 8 ∧ k = 1)) (S0 := S1) (fun k => .inl rfl) (.inr (.inr ⟨rfl, rfl⟩)) S3 4 (fun r k a => h3.1 r k (by omega))) (fun S5 h5 => pc_some ⟨fun j hj => ?_, ?_, fun j hj h0 => ?_⟩)
  · rw [h5 (14 + 4 * j) 11 (by omega), d3 j (by rw [hK.1]; exact hj)]; exact se j hj
  · rw [h5 10 5 (by omega), d4, hK.1, m_dn_cg (a := c_st S) (c := m_st T) _ (fun j hj => se j (by omega))]
  · rw [h5 13 _ (by omega)]
    have := d5 j (by rw [hK.1]; exact hj) (by rw [se j hj]; exact h0)
    rw [m_dn_cg (a := c_st S) (c := m_st T) j (fun i hi => se i (by omega))] at this
    exact this
/-- THE RELATION: tapes, sizes, ranks, prices, costs, faults, marks and their status alike -/
def RM (S T : SS) : Prop := RBX S T ∧ BY T ∧ FE S T ∧ RK S T ∧ CD S T
abbrev PC2 (r k : Nat) : Prop := (r = 10 ∧ (k = 3 ∨ k = 5)) ∨ r = 13 ∨ (14 ≤ r ∧ r < 174)
abbrev PR2 (r k : Nat) : Prop := (r = 192 ∧ k = 27) ∨ (199 ≤ r ∧ r ≤ 209)
theorem MN_keep {S T S1 T1 : SS} {k : Nat} (h : MN S T k) (hs : ∀ r j, (r = 14 + 4 * k ∧ ((2 ≤ j ∧ j ≤ 6) ∨ j = 9)) ∨ r = 14 + 4 * k + 1 ∨ (r = 14 + 4 * k + 2 ∧ j = 1) → gi S1 r j = gi S r j) (ht : ∀ r, (199 ≤ r ∧ r ≤ 204) ∨ r = 208 → gi T1 r k = gi T r k) : MN S1 T1 k := by
  obtain ⟨a1, a2, a3, a4, a5, a6, a7, a8⟩ := h
  refine ⟨?_, ?_, ?_, ?_, ?_, ?_, ?_, ?_⟩
  · rw [hs _ 2 (by omega), ht 199 (by omega)]; exact a1
  · rw [hs _ 3 (by omega), ht 200 (by omega)]; exact a2
  · rw [hs _ 0 (by omega), ht 201 (by omega)]; exact a3
  · rw [hs _ 1 (by omega), ht 202 (by omega)]; exact a4
  · rw [hs _ 2 (by omega), ht 203 (by omega)]; exact a5
  · rw [hs _ 1 (by omega), ht 204 (by omega)]; exact a6
  · unfold PLC at a7 ⊢
    rw [hs (14 + 4 * k) 4 (by omega), hs (14 + 4 * k) 5 (by omega), hs (14 + 4 * k) 6 (by omega), hs (14 + 4 * k) 2 (by omega), hs (14 + 4 * k + 1) 0 (by omega), hs (14 + 4 * k + 1) 1 (by omega), hs (14 + 4 * k + 1) 2 (by omega)]
    exact a7
  · rw [hs _ 9 (by omega), ht 208 (by omega)]; exact a8
theorem RM_mk {S T S1 T1 : SS} (hM : MX 0 T) (h : RM S T) (hb : RBX S1 T1) (hy : BY T1) (hf : FE S1 T1) (hs : ∀ r k, PC2 r k → gi S1 r k = gi S r k) (ht : ∀ r k, PR2 r k → gi T1 r k = gi T r k) : RM S1 T1 := by
  obtain ⟨h1, h2, h3, h4, h5⟩ := h
  have b27 := mx_192_27 hM
  have en := ht 192 27 (by omega)
  have hm := mst_cg en (fun r k a => ht r k (by omega))
  refine ⟨hb, hy, hf, ⟨by rw [hs 10 3 (by omega), en]; exact h4.1, fun k hk => ?_⟩, CD_cg h5 en hm (fun j hj => hs _ 11 (by omega)) (hs 10 5 (by omega)) (fun k => hs 13 k (by omega))⟩
  rw [en] at hk
  obtain ⟨m, v⟩ := h4.2 k hk
  refine ⟨MN_keep m (fun r j a => hs r j (by omega)) (fun r a => ht r k (by omega)), ?_⟩
  unfold VW at v ⊢
  rw [hs _ 7 (by omega), hs _ 8 (by omega), ht 207 k (by omega), ht 205 k (by omega), propext (ov_cg en (fun r k a => ht r k (by omega)) k)]
  exact v
theorem FE_keep {S T S1 T1 : SS} (h : FE S T) (hs : ∀ k, gi S1 3 k = gi S 3 k) (h14 : gi T1 192 14 = gi T 192 14) (h15 : gi T1 192 15 = gi T 192 15) : FE S1 T1 := ⟨by rw [hs, h14]; exact h.1, by rw [hs, h15]; exact h.2⟩
theorem RM_0 : RM SZ SZ := by
  refine ⟨RBX_0, fun k => ?_, ⟨rfl, rfl⟩, ⟨rfl, fun k hk => absurd hk ?_⟩, ⟨fun j hj => absurd hj ?_, rfl, fun j hj => absurd hj ?_⟩⟩
  · show -128 ≤ (0 : Int) ∧ (0 : Int) ≤ 127
    omega
  · show ¬ (k : Int) < 0
    omega
  · show ¬ (j : Int) < 0
    omega
  · show ¬ (j : Int) < 0
    omega
/-- the reference: what reading commands change -/
theorem fh_word {T : SS} (hM : MX 0 T) (hN : NX T) (a1 a2 : Int) : pc (f_M_word T a1 a2) (fun u => fr XH T u.2) := by
  unfold f_M_word
  refine pc_b1 (ok_true (ok_M_isText T a1 hM)) (fun r1 h1 => pc_if (fun c => pc_some (fr_refl _ T)) (fun c => pc_b2 (ok_true (ok_M_wordsOf hM hN a1 (by omega))) (fun r5 S4 h4 => ?_)))
  have f4 : fr XH T S4 := h4.2.1
  exact pc_chk (fun _ => pc_if (fun _ => pc_some f4) (fun _ => pf_b1 (fun _ => pc_some f4)))
theorem fh_distance {T : SS} (hM : MX 0 T) (hN : NX T) (a1 a2 : Int) : pc (f_M_distance T a1 a2) (fun u => fr XH T u.2) := by
  unfold f_M_distance
  refine pc_b1 (ok_true (ok_M_isText T a1 hM)) (fun r1 h1 => pc_if (fun c => pc_some (fr_refl _ T)) (fun c => pc_b1 (ok_true (ok_M_isText T a2 hM)) (fun r3 h3 => pc_if (fun c2 => pc_some (fr_refl _ T)) (fun c2 => pc_b2 (ok_true (ok_M_wordsOf hM hN a1 (by omega))) (fun r6 S5 h5 => ?_)))))
  have n5 : NX S5 := nx_fr hN h5.2.1 (fun k => by omega) (by omega) (by omega)
  refine pc_b2 (ok_true (ok_M_wordsOf h5.1 n5 a2 (by omega))) (fun r9 S8 h8 => pc_b2 (ok_true (ok_M_apart S8 a1 r6 a2 r9 h8.1 h5.2.2.1 h8.2.2.1)) (fun r12 S11 h11 => pc_some ?_))
  exact fr_trans (fr_trans h5.2.1 h8.2.1) (fun r k a => h11.2.1 r k (by omega))
theorem fh_mark {T : SS} (hM : MX 0 T) (a1 a2 : Int) : pc (f_M_mark T a1 a2) (fun u => fr XH T u.2) := by
  unfold f_M_mark
  have h0 := fr_refl XH T
  have hj : pc (f_M_judge T) (fr XH T) := pc_mono (pc_judge T hM) (fun S1 h r k a => h.1.2 r k (by omega) (by omega))
  repeat' first | with_reducible exact pc_some (by assumption) | with_reducible refine pc_b1 hj (fun _ _ => ?_) | with_reducible refine pc_chk (fun _ => ?_) | with_reducible refine pc_if (fun _ => ?_) (fun _ => ?_) | with_reducible refine pf_b1 (fun _ => ?_)
theorem fh_hold {T : SS} (hM : MX 0 T) (hN : NX T) : pc (f_M_hold T) (fun u => fr XH T u.2) := by
  have b27 := mx_192_27 hM
  unfold f_M_hold
  exact pc_b1 (ok_true (HI_judge hM)) (fun S1 h1 => pc_mono (ok_true (okl_M_hold_8 T hN FU S1 0 h1 (by omega) (by unfold FU; omega))) (fun u hu => hu.2))
theorem fh_count {T : SS} (hM : MX 0 T) (hN : NX T) (a1 : Int) : pc (f_M_count T a1) (fun u => fr XH T u.2) := by
  have h0 := fr_refl XH T
  have i1 := in01 T a1 0 2
  have i3 := in01 T a1 4 8
  unfold f_M_count
  refine pc_if (fun c1 => pc_if (fun c2 => pc_if (fun _ => pc_some h0) (fun _ => pc_if (fun _ => pc_some h0) (fun _ => pc_if (fun _ => pc_some h0) (fun c3 => ?_)))) (fun c2 => pc_chk (fun _ => pc_chk (fun _ => pc_some h0)))) (fun c1 => pc_b2 (ok_true (ok_M_wordsOf hM hN a1 (by omega))) (fun r S13 h => pc_some h.2.1))
  refine pc_b1 (ok_true (HI_judge hM)) (fun S7 h7 => pc_mono (ok_true (okl_M_count a1 (by omega) S7 h7.1 FU 0 0 (by omega) (by unfold FU; omega))) (fun u e => ?_))
  rw [e]; exact h7.2.1
theorem fh_pays {T : SS} (hM : MX 0 T) (hN : NX T) (a1 : Int) : pc (f_M_pays T a1) (fun u => fr XH T u.2) := by
  unfold f_M_pays
  refine pc_if (fun _ => pc_some (fr_refl _ T)) (fun _ => pc_b1 (ok_true (HI_judge hM)) (fun S3 h3 => pc_mono (ok_true (okl_M_pays a1 T S3 hN h3 FU 0 0 (by omega) (by omega) (by unfold FU; omega))) (fun u e => ?_)))
  rw [e]; exact h3.2.1
theorem RM_ref {S T T1 : SS} (hM : MX 0 T) (h : RM S T) (f2 : fr XH T T1) : RM S T1 := RM_mk hM h (RBX_keep h.1 (keep_refl PCB) (fun r k p => f2 r k (by omega))) (by_fr h.2.1 f2 (fun k => by omega)) (FE_keep h.2.2.1 (fun _ => rfl) (f2 192 14 (by omega)) (f2 192 15 (by omega))) (fun _ _ _ => rfl) (fun r k p => f2 r k (by omega))
theorem RM_hold {S T S1 T1 : SS} {r t : Int} (hM : MX 0 T) (hN : NX T) (h : RM S T) (h1 : f_MP_hold S = some (r, S1)) (h2 : f_M_hold T = some (t, T1)) : RM S1 T1 := by
  have f1 := fs_hold S _ h1
  have f2 := fh_hold hM hN _ h2
  exact RM_mk hM h (RBX_keep h.1 (fun r k p => f1 r k (by omega)) (fun r k p => f2 r k (by omega))) (by_fr h.2.1 f2 (fun k => by omega)) (FE_keep h.2.2.1 (fun k => f1 3 k (by omega)) (f2 192 14 (by omega)) (f2 192 15 (by omega))) (fun r k p => f1 r k (by omega)) (fun r k p => f2 r k (by omega))
theorem RM_distance {S T S1 T1 : SS} {a1 a2 r t : Int} (hM : MX 0 T) (hN : NX T) (h : RM S T) (h1 : f_MP_distance S a1 a2 = some (r, S1)) (h2 : f_M_distance T a1 a2 = some (t, T1)) : RM S1 T1 := by
  have f1 := fx_MP_distance (X := fun r _ => r = 182) (S0 := S) (x_182 := fun k => rfl) S a1 a2 (FX_refl _ S) _ h1
  have f2 := fh_distance hM hN a1 a2 _ h2
  exact RM_mk hM h (RBX_keep h.1 (fun r k p => f1.1 r k (by omega)) (fun r k p => f2 r k (by omega))) (by_fr h.2.1 f2 (fun k => by omega)) (FE_keep h.2.2.1 (fun k => f1.1 3 k (by omega)) (f2 192 14 (by omega)) (f2 192 15 (by omega))) (fun r k p => f1.1 r k (by omega)) (fun r k p => f2 r k (by omega))
theorem RM_feed {S T S1 T1 : SS} {a1 a2 a3 a4 a5 r t : Int} (hC : CX 0 S) (hM : MX 0 T) (h : RM S T) (h1 : f_MP_feed S a1 a2 a3 a4 a5 = some (r, S1)) (h2 : f_M_feed T a1 a2 a3 a4 a5 = some (t, T1)) : RM S1 T1 := by
  have f1 := fx_MP_feed (X := XCT) (S0 := S) (x_2 := fun k => .inl rfl) (x_1_1 := .inr ⟨rfl, rfl⟩) S a1 a2 a3 a4 a5 (FX_refl _ S) _ h1
  have f2 := fm_feed T a1 a2 a3 a4 a5 _ h2
  exact RM_mk hM h (RBX_feed hC h.1 h1 h2).1 (by_feed T a1 a2 a3 a4 a5 h.2.1 _ h2) (FE_keep h.2.2.1 (fun k => f1.1 3 k (by omega)) (f2 192 14 (by omega)) (f2 192 15 (by omega))) (fun r k p => f1.1 r k (by omega)) (fun r k p => f2 r k (by omega))
theorem RM_end {S T S1 T1 : SS} {a1 r t : Int} (hM : MX 0 T) (h : RM S T) (h1 : f_MP_end S a1 = some (r, S1)) (h2 : f_M_end T a1 = some (t, T1)) : RM S1 T1 := by
  have f1 := fx_MP_end (X := XCT) (S0 := S) (x_1_1 := .inr ⟨rfl, rfl⟩) S a1 (FX_refl _ S) _ h1
  have f2 : fr (fun r k => r = 192 ∧ k = 8) T T1 := by
    unfold f_M_end at h2
    by_cases c : f_M_in T a1 0 (gi T 192 8) = 0
    · rw [if_pos c] at h2; cases h2; exact fr_refl _ _
    · rw [if_neg c] at h2; have h2 := w_ltX h2; cases h2; exact fr_si (fr_refl _ _) ⟨rfl, rfl⟩
  exact RM_mk hM h (RBX_end h.1 h1 h2).1 (by_fr h.2.1 f2 (fun k => by omega)) (FE_keep h.2.2.1 (fun k => f1.1 3 k (by omega)) (f2 192 14 (by omega)) (f2 192 15 (by omega))) (fun r k p => f1.1 r k (by omega)) (fun r k p => f2 r k (by omega))
theorem RM_price {S T S1 T1 : SS} {a1 a2 r t : Int} (hM : MX 0 T) (h : RM S T) (h1 : f_MP_price S a1 a2 = some (r, S1)) (h2 : f_M_price T a1 a2 = some (t, T1)) : RM S1 T1 := by
  have f1 := fx_MP_price (X := fun r _ => r = 191) (S0 := S) (x_191 := fun k => rfl) S a1 a2 (FX_refl _ S) _ h1
  have f2 : fr (fun r _ => r = 210) T T1 := by
    unfold f_M_price at h2
    by_cases c : f_M_in T a1 0 4 = 0
    · rw [if_pos c] at h2; cases h2; exact fr_refl _ _
    · rw [if_neg c] at h2
      by_cases c2 : f_M_in T a2 0 999 = 0
      · rw [if_pos c2] at h2; cases h2; exact fr_refl _ _
      · rw [if_neg c2] at h2
        obtain ⟨_, h2⟩ := w_chkE h2
        obtain ⟨_, h2⟩ := w_chkE h2
        have h2 := w_ltX h2
        cases h2
        exact fr_si (fr_refl _ _) rfl
  exact RM_mk hM h (RBX_price h.1 h1 h2).1 (by_fr h.2.1 f2 (fun k => by omega)) (FE_keep h.2.2.1 (fun k => f1.1 3 k (by omega)) (f2 192 14 (by omega)) (f2 192 15 (by omega))) (fun r k p => f1.1 r k (by omega)) (fun r k p => f2 r k (by omega))
theorem RM_costs {S T S1 T1 : SS} {a1 a2 r t : Int} (hM : MX 0 T) (h : RM S T) (h1 : f_MP_costs S a1 a2 = some (r, S1)) (h2 : f_M_costs T a1 a2 = some (t, T1)) : RM S1 T1 := by
  have f1 := fx_MP_costs (X := fun r _ => r = 183) (S0 := S) (x_183_5 := rfl) (x_183_6 := rfl) S a1 a2 (FX_refl _ S) _ h1
  have f2 : fr (fun r _ => r = 211) T T1 := by
    unfold f_M_costs at h2
    by_cases c : f_M_in T a1 1 9 = 0
    · rw [if_pos c] at h2; cases h2; exact fr_refl _ _
    · rw [if_neg c] at h2
      by_cases c2 : f_M_in T a2 1 9 = 0
      · rw [if_pos c2] at h2; cases h2; exact fr_refl _ _
      · rw [if_neg c2] at h2
        obtain ⟨_, h2⟩ := w_chkE h2
        have h2 := w_ltX h2
        obtain ⟨_, h2⟩ := w_chkE h2
        have h2 := w_ltX h2
        cases h2
        exact fr_si (X := fun r _ => r = 211) (fr_si (X := fun r _ => r = 211) (fr_refl _ _) rfl) rfl
  exact RM_mk hM h (RBX_costs h.1 h1 h2).1 (by_fr h.2.1 f2 (fun k => by omega)) (FE_keep h.2.2.1 (fun k => f1.1 3 k (by omega)) (f2 192 14 (by omega)) (f2 192 15 (by omega))) (fun r k p => f1.1 r k (by omega)) (fun r k p => f2 r k (by omega))
/-- no marks: nothing decided -/
theorem RK_nil {S T : SS} (h3 : gi S 10 3 = 0) (h27 : gi T 192 27 = 0) : RK S T := ⟨by rw [h3, h27], fun k hk => absurd hk (by rw [h27]; omega)⟩
theorem NX_nil {T : SS} (h27 : gi T 192 27 = 0) : NX T := fun k hk => absurd hk (by rw [h27]; omega)
theorem pcl_is (S : SS) : gi (f_Pile_clear S) 10 3 = 0 ∧ ∀ r k, r ≠ 10 → gi (f_Pile_clear S) r k = gi S r k := by
  refine ⟨?_, fun r k a => ?_⟩
  · show gi (si (si (si S 10 3 0) 10 4 0) 10 5 0) 10 3 = 0
    rw [gi_off (by omega), gi_off (by omega), gi_at]
  · show gi (si (si (si S 10 3 0) 10 4 0) 10 5 0) r k = _
    rw [gi_off (by omega), gi_off (by omega), gi_off (by omega)]
theorem CD_nil {S T : SS} (h27 : gi T 192 27 = 0) (h5 : gi S 10 5 = 0) : CD S T := ⟨fun j hj => absurd hj (by rw [h27]; omega), by rw [h5, h27]; rfl, fun j hj => absurd hj (by rw [h27]; omega)⟩
theorem RM_first {S T S1 T1 : SS} {r t : Int} (hC : CX 0 S) (hM : MX 0 T) (h : RM S T) (h1 : f_MP_first S = some (r, S1)) (h2 : f_M_first T = some (t, T1)) : RM S1 T1 := by
  have hb := (RBX_first hC h.1 h1 h2).1
  unfold f_MP_first at h1
  unfold f_M_first at h2
  unfold w_lt at h1 h2
  obtain ⟨r2, S2, e2, h1⟩ := w_b2E h1
  have f2 := fx_SheetReader_readProof (X := XSR) (S0 := S) (x_3_0 := .inl rfl) (x_3_1 := .inl rfl) (x_175_1 := .inr rfl) S 60 (FX_refl _ S) _ e2
  have C2 : CX 0 S2 := (ok_true (ok_SheetReader_readProof S 60 hC (by decide)) _ e2).1
  have g11 : ∀ r k, ¬ (r = 1 ∧ k = 1) → gi (si S2 1 1 0) r k = gi S2 r k := fun r k a => gi_off a
  have C4 : CX 0 (si S2 1 1 0) := cs_1_1 C2 (by decide) (by decide)
  rcases w_b3E h2 with ⟨n, T2, e3, h2⟩ | ⟨T2, e3, h2⟩
  · have q := sim_readProof 60 (by decide) S T h.1.1 (cx_1_1 hC) r2 S2 (some n) T2 e2 e3
    have m2 := m_rp_is e3
    rcases q.2 with ⟨qr, qo, q0, q1, _⟩ | ⟨_, qo⟩
    · cases qo
      dsimp only at h1
      rw [if_neg (show ¬ r2 = 0 by omega)] at h1
      obtain ⟨S5, e5, h1⟩ := w_b1E h1
      obtain ⟨S9, e9, h1⟩ := w_b1E h1
      cases h1
      have k1 : gi (si S2 1 1 0) 175 1 = gi S2 175 1 := gi_off (by omega)
      have c4 : cap 4 = 60 := by decide
      have c175 : cap 175 = 150 := by decide
      have cp := sh_copy (by decide) (by decide) (by decide) e5 (by omega) (by omega) (by omega)
      have C5 : CX 0 S5 := (ok_true (ok_Sheet_copyFrom _ 4 175 C4 (by decide) (by decide)) _ e5).1
      have F := m_first_is FU T2 T1 (gi S2 175 1) 0 t h2 (Int.le_refl _)
      have z27 : gi T1 192 27 = 0 := F.2.2.2.1
      have pl := pcl_is S5
      have M1 : MX 0 T1 := (ok_true (ok_M_first T hM) (t, T1) (by unfold f_M_first w_lt; show w_b3 _ _ _ = _; rw [e3]; exact h2)).1
      have st := st_settle (S := f_Pile_clear S5) (T := T1) (cx_Pile_clear C5) M1 (NX_nil z27) (RK_nil pl.1 z27) (fun k => by
        rw [pl.2 12 k (by omega), cp.2.1 12 k (by omega), g11 12 k (by omega), f2.1 12 k (by omega), F.2.2.1 209 k (by omega), m2.2 209 k (by omega) (by omega)]
        exact h.1.2.2.2.1 k) S1 e9
      refine ⟨hb, fun k => ?_, ?_, RK_nil ?_ z27, st.2⟩
      · rw [F.2.2.1 197 k (by omega), m2.2 197 k (by omega) (by omega)]; exact h.2.1 k
      · refine FE_keep q.1 (fun k => ?_) (F.2.2.1 192 14 (by omega)) (F.2.2.1 192 15 (by omega))
        rw [st.1 3 k (by omega), pl.2 3 k (by omega), cp.2.1 3 k (by omega), g11 3 k (by omega)]
      · rw [st.1 10 3 (by omega)]; exact pl.1
    · cases qo
  · have q := sim_readProof 60 (by decide) S T h.1.1 (cx_1_1 hC) r2 S2 none T2 e2 e3
    have m2 := m_rp_is e3
    rcases q.2 with ⟨_, qo, _⟩ | ⟨qr, _⟩
    · cases qo
    · dsimp only at h1
      rw [if_pos qr] at h1
      cases h1
      cases h2
      exact RM_mk hM h hb (fun k => by rw [m2.2 197 k (by omega) (by omega)]; exact h.2.1 k) (FE_keep q.1 (fun k => g11 3 k (by omega)) rfl rfl) (fun r k p => by rw [g11 r k (by omega)]; exact f2.1 r k (by omega)) (fun r k p => m2.2 r k (by omega) (by omega))
theorem RM_second {S T S1 T1 : SS} {r t : Int} (hC : CX 0 S) (hM : MX 0 T) (h : RM S T) (h1 : f_MP_second S = some (r, S1)) (h2 : f_M_second T = some (t, T1)) : RM S1 T1 := by
  have hb := (RBX_second hC h.1 h1 h2).1
  unfold f_MP_second at h1
  unfold f_M_second at h2
  unfold w_lt at h1 h2
  obtain ⟨r2, S2, e2, h1⟩ := w_b2E h1
  have f2 := fx_SheetReader_readProof (X := XSR) (S0 := S) (x_3_0 := .inl rfl) (x_3_1 := .inl rfl) (x_175_1 := .inr rfl) S 150 (FX_refl _ S) _ e2
  have g11 : ∀ r k, ¬ (r = 1 ∧ k = 1) → gi (si S2 1 1 0) r k = gi S2 r k := fun r k a => gi_off a
  rcases w_b3E h2 with ⟨n, T2, e3, h2⟩ | ⟨T2, e3, h2⟩
  · have q := sim_readProof 150 (by decide) S T h.1.1 (cx_1_1 hC) r2 S2 (some n) T2 e2 e3
    have m2 := m_rp_is e3
    rcases q.2 with ⟨qr, qo, q0, q1, _⟩ | ⟨_, qo⟩
    · cases qo
      dsimp only at h1
      rw [if_neg (show ¬ r2 = 0 by omega)] at h1
      obtain ⟨S5, e5, h1⟩ := w_b1E h1
      cases h1
      have k1 : gi (si S2 1 1 0) 175 1 = gi S2 175 1 := gi_off (by omega)
      have c6 : cap 6 = 150 := by decide
      have c175 : cap 175 = 150 := by decide
      have cp := sh_copy (by decide) (by decide) (by decide) e5 (by omega) (by omega) (by omega)
      have F := m_second_is FU T2 T1 (gi S2 175 1) 0 t h2 (Int.le_refl _)
      refine RM_mk hM h hb (fun k => ?_) (FE_keep q.1 (fun k => ?_) (F.2.2.1 192 14 (by omega)) (F.2.2.1 192 15 (by omega))) (fun r k p => ?_) (fun r k p => ?_)
      · rw [F.2.2.1 197 k (by omega), m2.2 197 k (by omega) (by omega)]; exact h.2.1 k
      · rw [cp.2.1 3 k (by omega), g11 3 k (by omega)]
      · rw [cp.2.1 r k (by omega), g11 r k (by omega)]; exact f2.1 r k (by omega)
      · rw [F.2.2.1 r k (by omega)]; exact m2.2 r k (by omega) (by omega)
    · cases qo
  · have q := sim_readProof 150 (by decide) S T h.1.1 (cx_1_1 hC) r2 S2 none T2 e2 e3
    have m2 := m_rp_is e3
    rcases q.2 with ⟨_, qo, _⟩ | ⟨qr, _⟩
    · cases qo
    · dsimp only at h1
      rw [if_pos qr] at h1
      cases h1
      cases h2
      exact RM_mk hM h hb (fun k => by rw [m2.2 197 k (by omega) (by omega)]; exact h.2.1 k) (FE_keep q.1 (fun k => g11 3 k (by omega)) rfl rfl) (fun r k p => by rw [g11 r k (by omega)]; exact f2.1 r k (by omega)) (fun r k p => m2.2 r k (by omega) (by omega))
theorem RM_next {S T S1 T1 : SS} {r t : Int} (hC : CX 0 S) (hM : MX 0 T) (h : RM S T) (h1 : f_MP_next S = some (r, S1)) (h2 : f_M_next T = some (t, T1)) : RM S1 T1 := by
  have hb := (RBX_next hC h.1 h1 h2).1
  have e6 := h.1.2.2.1
  have M1 : MX 0 T1 := (ok_true (ok_M_next T hM) (t, T1) h2).1
  unfold f_MP_next at h1
  unfold f_M_next at h2
  have i1 := in01 T (gi T 192 4) 1 60
  have b6 := cx_sh hC (q := 6) (by decide)
  by_cases c : 1 ≤ gi T 192 4 ∧ gi T 192 4 ≤ 60
  · rw [if_neg (by omega), if_pos (by omega)] at h1
    rw [if_neg (by omega)] at h2
    obtain ⟨S3, e3, h1⟩ := w_b1E h1
    have h1 := w_ltX h1
    have h1 := w_ltX h1
    obtain ⟨S9, e9, h1⟩ := w_b1E h1
    cases h1
    have c4 : cap 4 = 60 := by decide
    have c6 : cap 6 = 150 := by decide
    have cp := sh_copy (by decide) (by decide) (by decide) e3 (by omega) (by omega) (by omega)
    have C3 : CX 0 S3 := (ok_true (ok_Sheet_copyFrom _ 4 6 hC (by decide) (by decide)) _ e3).1
    have C5 : CX 0 (f_Sheet_clear S3 6) := cs_sh C3 (by decide) (by decide) (by decide)
    have g5 : ∀ r k, ¬ (r = 6 ∧ k = 1) → gi (f_Sheet_clear S3 6) r k = gi S3 r k := fun r k a => gi_off a
    have F := m_next_is FU T T1 0 t h2 (Int.le_refl _)
    have z27 : gi T1 192 27 = 0 := F.2.2.2.1
    have pl := pcl_is (f_Sheet_clear S3 6)
    have st := st_settle (S := f_Pile_clear (f_Sheet_clear S3 6)) (T := T1) (cx_Pile_clear C5) M1 (NX_nil z27) (RK_nil pl.1 z27) (fun k => by
      rw [pl.2 12 k (by omega), g5 12 k (by omega), cp.2.1 12 k (by omega), F.2.2.2.2.1 209 k (by omega)]
      exact h.1.2.2.2.1 k) S1 e9
    refine ⟨hb, fun k => ?_, ?_, RK_nil ?_ z27, st.2⟩
    · rw [F.2.2.2.2.1 197 k (by omega)]; exact h.2.1 k
    · refine FE_keep h.2.2.1 (fun k => ?_) (F.2.2.2.2.1 192 14 (by omega)) (F.2.2.2.2.1 192 15 (by omega))
      rw [st.1 3 k (by omega), pl.2 3 k (by omega), g5 3 k (by omega), cp.2.1 3 k (by omega)]
    · rw [st.1 10 3 (by omega)]; exact pl.1
  · rw [if_pos (by omega)] at h2
    cases h2
    by_cases d : gi S 6 1 = 0
    · rw [if_pos d] at h1; cases h1; exact h
    · rw [if_neg d, if_neg (by omega)] at h1; cases h1; exact h
theorem RM_rank {S T S1 T1 : SS} {a1 a2 r t : Int} (hC : CX 0 S) (hM : MX 0 T) (hN : NX T) (h : RM S T) (h1 : f_MP_rank S a1 a2 = some (r, S1)) (h2 : f_M_rank T a1 a2 = some (t, T1)) : RM S1 T1 := by
  have hb := (RBX_rank h.1 h1 h2).1
  have M1 : MX 0 T1 := (ok_true (ok_M_rank T a1 a2 hM) (t, T1) h2).1
  have i1 := in01 T a1 0 2
  have i2 := in01 T a2 0 9
  have b27 := mx_192_27 hM
  unfold f_MP_rank at h1
  unfold f_M_rank at h2
  by_cases c : 0 ≤ a1 ∧ a1 ≤ 2 ∧ 0 ≤ a2 ∧ a2 ≤ 9
  · rw [if_neg (by omega), if_neg (by omega), if_neg (by omega), if_pos (by omega)] at h1
    rw [if_neg (by omega), if_neg (by omega)] at h2
    obtain ⟨_, h2⟩ := w_chkE h2
    obtain ⟨_, h2⟩ := w_chkE h2
    have h2 := w_ltX h2
    cases h2
    obtain ⟨r1, er, h1⟩ := w_b1E h1
    obtain ⟨_, h1⟩ := w_chkE h1
    have h1 := w_ltX h1
    obtain ⟨S4, e4, h1⟩ := w_b1E h1
    cases h1
    have gS : ∀ r k, r ≠ 12 → gi (si S 12 a1.toNat a2) r k = gi S r k := fun r k a => gi_off (fun q => a q.1)
    have gT : ∀ r k, r ≠ 209 → gi (si T 209 a1.toNat a2) r k = gi T r k := fun r k a => gi_off (fun q => a q.1)
    have K1 : RK (si S 12 a1.toNat a2) (si T 209 a1.toNat a2) := by
      refine ⟨by rw [gS 10 3 (by omega), gT 192 27 (by omega)]; exact h.2.2.2.1.1, fun k hk => ?_⟩
      rw [gT 192 27 (by omega)] at hk
      obtain ⟨m, v⟩ := h.2.2.2.1.2 k hk
      refine ⟨MN_keep m (fun r j a => gS r j (by omega)) (fun r a => gT r k (by omega)), ?_⟩
      unfold VW at v ⊢
      have ov : m_ov (si T 209 a1.toNat a2) k ↔ m_ov T k := by
        constructor
        · rintro ⟨s, x1, x2, x3, x4⟩
          exact ⟨s, x1, by rw [← gT 192 27 (by omega)]; exact x2, by rw [← gT 199 s (by omega)]; exact x3, by rw [← gT 201 s (by omega)]; exact x4⟩
        · rintro ⟨s, x1, x2, x3, x4⟩
          exact ⟨s, x1, by rw [gT 192 27 (by omega)]; exact x2, by rw [gT 199 s (by omega)]; exact x3, by rw [gT 201 s (by omega)]; exact x4⟩
      rw [gS _ 7 (by omega), gS _ 8 (by omega), gT 207 k (by omega), gT 205 k (by omega), propext ov]
      exact v
    have N1 : NX (si T 209 a1.toNat a2) := fun k hk => by
      rw [gT 192 27 (by omega)] at hk
      have := hN k hk
      unfold m_val at this ⊢
      rw [gT 199 k (by omega), gT 201 k (by omega), gT 202 k (by omega), gT 203 k (by omega), gT 192 3 (by omega)]
      exact this
    have st := st_settle (S := si S 12 a1.toNat a2) (T := si T 209 a1.toNat a2) (cs_12 hC (by omega) (by omega)) M1 N1 K1 (fun k => by
      rw [gi_si, gi_si]
      by_cases e : k = a1.toNat
      · left; rw [if_pos ⟨rfl, e⟩, if_pos ⟨rfl, e⟩]
      · rw [if_neg (fun q => e q.2), if_neg (fun q => e q.2)]; exact h.1.2.2.2.1 k) S1 e4
    refine ⟨hb, fun k => by rw [gT 197 k (by omega)]; exact h.2.1 k, FE_keep h.2.2.1 (fun k => by rw [st.1 3 k (by omega)]; exact gS 3 k (by omega)) (gT 192 14 (by omega)) (gT 192 15 (by omega)), ⟨by rw [st.1 10 3 (by omega)]; exact K1.1, fun k hk => ?_⟩, st.2⟩
    rw [gT 192 27 (by omega)] at hk
    obtain ⟨m, v⟩ := K1.2 k (by rw [gT 192 27 (by omega)]; exact hk)
    refine ⟨MN_keep m (fun r j a => st.1 r j (by omega)) (fun r a => rfl), ?_⟩
    unfold VW at v ⊢
    rw [st.1 _ 7 (by omega), st.1 _ 8 (by omega)]
    exact v
  · have q2 : T1 = T := by
      by_cases d : 0 ≤ a1 ∧ a1 ≤ 2
      · rw [if_neg (by omega), if_pos (by omega)] at h2; cases h2; rfl
      · rw [if_pos (by omega)] at h2; cases h2; rfl
    have q1 : S1 = S := by
      by_cases d1 : a1 < 0
      · rw [if_pos d1] at h1; cases h1; rfl
      rw [if_neg d1] at h1
      by_cases d2 : 3 ≤ a1
      · rw [if_pos d2] at h1; cases h1; rfl
      rw [if_neg d2] at h1
      by_cases d3 : a2 < 0
      · rw [if_pos d3] at h1; cases h1; rfl
      rw [if_neg d3, if_neg (by omega)] at h1; cases h1; rfl
    rw [q1, q2]; exact h
/-- what reading a text of marks gives, from the states ahead of the call -/
def RD (S T : SS) (n0 : Nat) (r : Int) (S2 : SS) (t : Int) (T1 : SS) : Prop :=
  FE S2 T1 ∧ (∀ r k, ¬ (r = 3 ∨ r = 177 ∨ (r = 10 ∧ k = 4) ∨ (14 + 4 * n0 ≤ r ∧ r ≤ 176)) → gi S2 r k = gi S r k) ∧ (∀ r k, ¬ ((r = 192 ∧ ((8 ≤ k ∧ k ≤ 15) ∨ k = 27)) ∨ (199 ≤ r ∧ r ≤ 208 ∧ n0 ≤ k)) → gi T1 r k = gi T r k) ∧ LNC n0 S S2 ∧ LNR n0 T T1 ∧
  ((r = 0 ∧ t = -1 ∧ gi T1 192 27 = (n0 : Int)) ∨ (∃ m' : Nat, n0 ≤ m' ∧ m' ≤ 40 ∧ r = 1 ∧ t = (m' : Int) - (n0 : Int) ∧ gi S2 10 4 = (m' : Int) - (n0 : Int) ∧ gi T1 192 27 = (m' : Int) ∧ (∀ k, n0 ≤ k → k < m' → MK S2 T1 k) ∧ ∀ k, n0 ≤ k → k < m' → MF S2 T1 k))
theorem rd_sim {S T S2 T1 : SS} {r t : Int} {n0 : Nat} (hC : CX 0 S) (hM : MX 0 T) (h : RM S T) (hn : gi T 192 27 = (n0 : Int)) (h1 : f_MarkReader_readMarks S (gi S 4 1) = some (r, S2)) (h2 : f_M_marks T = some (t, T1)) : RD S T n0 r S2 t T1 := by
  have b27 := mx_192_27 hM
  have b8 := mx_192_8 hM
  have b4 := cx_sh hC (q := 4) (by decide)
  have c4 : cap 4 = 60 := by decide
  obtain ⟨hR, hy, hf, hK, hD⟩ := h
  unfold f_MarkReader_readMarks at h1
  have h1 := w_ltX h1
  have h1 := w_ltX h1
  have h1 := w_ltX h1
  have h1 := w_ltX h1
  have h1 := w_ltX h1
  obtain ⟨_, h1⟩ := w_chkE h1
  have h1 := w_ltX h1
  obtain ⟨_, h1⟩ := w_chkE h1
  have h1 := w_ltX h1
  -- the class's state ahead of the first line
  obtain ⟨S8, e8⟩ : ∃ S8, S8 = si (f_Fault_clear (si (si (sq (sq (sq S 177 0 (some 1)) 177 1 (some 10)) 177 2 (some 3)) 177 3 (gi S 4 1)) 177 4 0)) 10 4 0 := ⟨_, rfl⟩
  rw [← e8] at h1
  have ef : S8 = si (si (si (si (si (sq (sq (sq S 177 0 (some 1)) 177 1 (some 10)) 177 2 (some 3)) 177 3 (gi S 4 1)) 177 4 0) 3 0 0) 3 1 (-1)) 10 4 0 := e8
  have gq0 : ∀ r k, gi (sq (sq (sq S 177 0 (some 1)) 177 1 (some 10)) 177 2 (some 3)) r k = gi S r k := fun r k => rfl
  have g8 : ∀ r k, ¬ (r = 3 ∨ (r = 177 ∧ (k = 3 ∨ k = 4)) ∨ (r = 10 ∧ k = 4)) ∨ (r = 3 ∧ 2 ≤ k) → gi S8 r k = gi S r k := fun r k a => by
    rw [ef, gi_off (by omega), gi_off (by omega), gi_off (by omega), gi_off (by omega), gi_off (by omega), gq0]
  have v30 : gi S8 3 0 = 0 := by rw [ef, gi_off (by omega), gi_off (by omega), gi_at]
  have v31 : gi S8 3 1 = -1 := by rw [ef, gi_off (by omega), gi_at]
  have v73 : gi S8 177 3 = gi S 4 1 := by rw [ef, gi_off (by omega), gi_off (by omega), gi_off (by omega), gi_off (by omega), gi_at]
  have v74 : gi S8 177 4 = 0 := by rw [ef, gi_off (by omega), gi_off (by omega), gi_off (by omega), gi_at]
  have v4 : gi S8 10 4 = 0 := by rw [ef, gi_at]
  have l8 : ∀ r k, gl S8 r k = gl S r k := fun r k => by rw [ef]; rfl
  have s3 : gi S8 10 3 = (n0 : Int) := by rw [g8 10 3 (by omega), hK.1, hn]
  have C8 : CX (n0 + 2) S8 := by
    have x1 : CX 0 (sq (sq (sq S 177 0 (some 1)) 177 1 (some 10)) 177 2 (some 3)) := cs_q177 (cs_q177 (cs_q177 hC (by decide)) (by decide)) (by decide)
    have x2 : CX 0 S8 := by
      rw [e8]
      exact cs_10_4 (cx_Fault_clear (cs_177_4 (cs_177_3 x1 (by omega) (by omega)) (by decide) (by decide))) (by decide) (by decide) (by decide)
    refine CX.two x2 ?_ (by omega)
    rw [ef]
    refine ⟨?_, ?_, ?_⟩
    · show gq (sq (sq (sq S 177 0 (some 1)) 177 1 (some 10)) 177 2 (some 3)) 177 0 = some 1
      rw [gq_off (by omega), gq_off (by omega), gq_at]
    · show gq (sq (sq (sq S 177 0 (some 1)) 177 1 (some 10)) 177 2 (some 3)) 177 1 = some 10
      rw [gq_off (by omega), gq_at]
    · show gq (sq (sq (sq S 177 0 (some 1)) 177 1 (some 10)) 177 2 (some 3)) 177 2 = some 3
      rw [gq_at]
  -- the reference's
  unfold f_M_marks at h2
  have h2 := w_ltX h2
  have mb := m_begin_is T
  have m9 : gi (f_M_begin T) 192 9 = gi T 192 8 := by
    show gi (si (si (si (si (si T 192 9 (gi T 192 8)) 192 8 0) 192 11 0) 192 14 0) 192 15 (-1)) 192 9 = _
    rw [gi_off (by omega), gi_off (by omega), gi_off (by omega), gi_off (by omega), gi_at]
  have m11 : gi (f_M_begin T) 192 11 = 0 := by
    show gi (si (si (si (si (si T 192 9 (gi T 192 8)) 192 8 0) 192 11 0) 192 14 0) 192 15 (-1)) 192 11 = _
    rw [gi_off (by omega), gi_off (by omega), gi_at]
  have m14 : gi (f_M_begin T) 192 14 = 0 := by
    show gi (si (si (si (si (si T 192 9 (gi T 192 8)) 192 8 0) 192 11 0) 192 14 0) 192 15 (-1)) 192 14 = _
    rw [gi_off (by omega), gi_at]
  have m15 : gi (f_M_begin T) 192 15 = -1 := by
    show gi (si (si (si (si (si T 192 9 (gi T 192 8)) 192 8 0) 192 11 0) 192 14 0) 192 15 (-1)) 192 15 = _
    rw [gi_at]
  have lb : (f_M_begin T).2 = T.2 := rfl
  have Mb := mx_M_begin hM
  have m27 : gi (f_M_begin T) 192 27 = (n0 : Int) := by rw [mb.2 192 27 (by omega) (by omega)]; exact hn
  rw [m27] at h2
  generalize f_M_begin T = Tb at h2 mb m9 m11 m14 m15 lb Mb m27
  obtain ⟨T4, e4, h2⟩ := w_b1E h2
  obtain ⟨f4, t4, w4⟩ := mk_scan Tb ⟨by omega, by omega⟩ (by omega) T4 e4
  have l4 := lq_scan Tb T4 e4
  have M4 : MX 1 T4 := (ok_true (ok_M_scan Tb Mb) T4 e4).1
  have e9 : gi T4 192 9 = gi T 192 8 := by rw [f4 192 9 (by omega)]; exact m9
  have eb : mby_ T4 = mby_ Tb := by funext j; unfold mby_; rw [f4 197 _ (by omega)]
  have gT : ∀ r k, ¬ (r = 192 ∧ 8 ≤ k ∧ k ≤ 15) → gi T4 r k = gi T r k := fun r k a => by rw [f4 r k (by omega)]; exact mb.2 r k (by omega) (by omega)
  have B8 : BF S8 T4 := by
    refine ⟨by rw [g8 1 1 (by omega), e9]; exact hR.1.1, by rw [g8 1 1 (by omega)]; exact (cx_1_1 hC).1, by rw [g8 1 1 (by omega)]; exact (cx_1_1 hC).2, fun k hk => ?_⟩
    rw [g8 1 1 (by omega)] at hk
    rw [g8 2 k (by omega), gT 197 k (by omega)]
    exact ⟨hR.1.2 k hk, hy k⟩
  have A8 : AH S8 T4 := by
    unfold AH
    rw [v74, e9, eb]
    rw [m9, m11] at t4
    rw [m9] at w4
    exact ⟨Int.le_refl _, by omega, t4, w4⟩
  have R := rm_sim (gi S 4 1) n0 FU FU n0 S8 T4 0 r S2 t T1 (Nat.le_refl _) (by omega) (by omega) C8 M4 B8 A8 (by rw [v73, gT 192 3 (by omega)]; exact hR.2.1) s3 (by rw [gT 192 27 (by omega)]; exact hn) ⟨by rw [v30, f4 192 14 (by omega), m14], by rw [v31, f4 192 15 (by omega), m15]⟩ (fun k hk => by rw [g8 _ 2 (by omega), gT 199 k (by omega)]; exact (hK.2 k (by omega)).1.1) (fun k a b => by omega) (fun k a b => by omega) h1 h2
  obtain ⟨z1, z2, z3, z4, z5, z6⟩ := R
  refine ⟨z1, fun r k a => ?_, fun r k a => ?_, fun r k a => by rw [z4 r k a]; exact l8 r k, fun r k a => by rw [z5 r k a, gl_2 l4, gl_2 lb], z6⟩
  · rw [z2 r k (by omega)]; exact g8 r k (by omega)
  · rw [z3 r k (by omega)]; exact gT r k (by omega)
theorem ov_cg2 {T T1 : SS} (hn : gi T1 192 27 = gi T 192 27) (ht : ∀ r k : Nat, (199 ≤ r ∧ r ≤ 208) → (k : Int) < gi T 192 27 → gi T1 r k = gi T r k) (k : Nat) : m_ov T1 k ↔ m_ov T k := by
  constructor
  · rintro ⟨s, a, b, c, d⟩
    rw [hn] at b
    exact ⟨s, a, b, by rw [← ht 199 s (by omega) b]; exact c, by rw [← ht 201 s (by omega) b]; exact d⟩
  · rintro ⟨s, a, b, c, d⟩
    exact ⟨s, a, by rw [hn]; exact b, by rw [ht 199 s (by omega) b]; exact c, by rw [ht 201 s (by omega) b]; exact d⟩
theorem mst_cg2 {T T1 : SS} (hn : gi T1 192 27 = gi T 192 27) (ht : ∀ r k : Nat, (199 ≤ r ∧ r ≤ 208) → (k : Int) < gi T 192 27 → gi T1 r k = gi T r k) (hr : ∀ k, gi T1 209 k = gi T 209 k) : ∀ k : Nat, (k : Int) < gi T 192 27 → m_st T1 k = m_st T k := by
  intro k hk
  unfold m_st
  rw [hn]
  have e : ∀ j : Nat, (j : Int) < gi T 192 27 → q_kd (q_md T1) j = q_kd (q_md T) j ∧ q_lo (q_md T1) j = q_lo (q_md T) j ∧ q_hi (q_md T1) j = q_hi (q_md T) j ∧ q_mi (q_md T1) j = q_mi (q_md T) j ∧ q_gp (q_md T1) j = q_gp (q_md T) j := by
    intro j hj
    refine ⟨?_, ?_, ?_, ?_, ?_⟩
    · rw [md_kd, md_kd]; exact ht 199 j (by omega) hj
    · rw [md_lo, md_lo, ht 199 j (by omega) hj, ht 201 j (by omega) hj]
    · rw [md_hi, md_hi, ht 199 j (by omega) hj, ht 202 j (by omega) hj, ht 203 j (by omega) hj]
    · rw [md_mi, md_mi]; exact ht 202 j (by omega) hj
    · rw [md_gp, md_gp, ht 199 j (by omega) hj, ht 201 j (by omega) hj, ht 203 j (by omega) hj]
  refine j_r_cg (bad := fun _ => False) (fun a b ha hb _ _ => (wi_eq (e a (by omega)) (e b (by omega))).2) (fun j hj => ?_) 10 0 _ _ (fun j hj => ?_) (fun j hj q w => w) k (by omega)
  · show gi T1 209 (gi T1 200 j).toNat = gi T 209 (gi T 200 j).toNat
    rw [ht 200 j (by omega) (by omega), hr]
  · unfold m_s0
    rw [ht 199 j (by omega) (by omega), ht 205 j (by omega) (by omega), ht 207 j (by omega) (by omega), propext (ov_cg2 hn ht j)]
theorem RM_marks {S T S1 T1 : SS} {r t : Int} (hC : CX 0 S) (hM : MX 0 T) (hN : NX T) (h : RM S T) (h1 : f_MP_marks S = some (r, S1)) (h2 : f_M_marks T = some (t, T1)) : RM S1 T1 ∧ r = t := by
  have b27 := mx_192_27 hM
  have hb := RBX_marks hM h.1 h1 h2
  have M1 : MX 0 T1 := (ok_true (ok_M_marks T hM) (t, T1) h2).1
  have N1 : NX T1 := nx_marks T hM hN (t, T1) h2
  obtain ⟨n0, hn⟩ : ∃ n0 : Nat, gi T 192 27 = (n0 : Int) := ⟨(gi T 192 27).toNat, by omega⟩
  unfold f_MP_marks at h1
  obtain ⟨r3, S2, e2, h1⟩ := w_b2E h1
  obtain ⟨y1, y2, y3, y4, y5, y6⟩ := rd_sim hC hM h hn e2 h2
  have b4 := cx_sh hC (q := 4) (by decide)
  have c4 : cap 4 = 60 := by decide
  have C2 := ok_true (ok_MarkReader_readMarks S (gi S 4 1) hC (cx_10_3 hC).2 (by omega)) _ e2
  have h1 := w_ltX h1
  have g11 : ∀ r k, ¬ (r = 1 ∧ k = 1) → gi (si S2 1 1 0) r k = gi S2 r k := fun r k a => gi_off a
  have C5 : CX 0 (si S2 1 1 0) := cs_1_1 C2.1 (by decide) (by decide)
  have l5 : ∀ r k, gl (si S2 1 1 0) r k = gl S2 r k := fun _ _ => rfl
  generalize si S2 1 1 0 = S5 at h1 g11 C5 l5
  have gS : ∀ r k, ¬ (r = 3 ∨ r = 177 ∨ (r = 10 ∧ k = 4) ∨ (r = 1 ∧ k = 1) ∨ (14 + 4 * n0 ≤ r ∧ r ≤ 176)) → gi S5 r k = gi S r k := fun r k a => by rw [g11 r k (by omega)]; exact y2 r k (by omega)
  have fe : FE S5 T1 := FE_keep y1 (fun k => g11 3 k (by omega)) rfl rfl
  have by1 : BY T1 := fun k => by rw [y3 197 k (by omega)]; exact h.2.1 k
  obtain ⟨hR, hy, hf, hK, hD⟩ := h
  -- the marks that were there
  have old : ∀ k : Nat, k < n0 → MN S5 T1 k := fun k hk => MN_keep (hK.2 k (by omega)).1 (fun r j a => gS r j (by omega)) (fun r a => y3 r k (by omega))
  rcases y6 with ⟨q1, q2, q3⟩ | ⟨m', q1, q2, q3, q4, q5, q6, q7, q8⟩
  · rw [if_pos q1] at h1
    cases h1
    have en : gi T1 192 27 = gi T 192 27 := by rw [q3, hn]
    have ht : ∀ r k : Nat, (199 ≤ r ∧ r ≤ 208) → (k : Int) < gi T 192 27 → gi T1 r k = gi T r k := fun r k a b => y3 r k (by omega)
    refine ⟨⟨hb, by1, fe, ⟨by rw [gS 10 3 (by omega), en]; exact hK.1, fun k hk => ?_⟩, CD_cg hD en (mst_cg2 en ht (fun k => y3 209 k (by omega))) (fun j hj => gS _ 11 (by omega)) (gS 10 5 (by omega)) (fun k => gS 13 k (by omega))⟩, q2.symm⟩
    rw [en] at hk
    refine ⟨old k (by omega), ?_⟩
    have v := (hK.2 k hk).2
    unfold VW at v ⊢
    rw [gS _ 7 (by omega), gS _ 8 (by omega), ht 207 k (by omega) hk, ht 205 k (by omega) hk, propext (ov_cg2 en ht k)]
    exact v
  · rw [if_neg (by omega)] at h1
    obtain ⟨r7, S6, e6, h1⟩ := w_b2E h1
    obtain ⟨S9, e9, h1⟩ := w_b1E h1
    cases h1
    have new : ∀ k, n0 ≤ k → k < m' → MN S5 T1 k := fun k a b => MN_keep (MK_MN (q7 k a b)) (fun r j w => g11 r j (by omega)) (fun _ _ => rfl)
    have all : ∀ k, k < m' → MN S5 T1 k := fun k a => by
      by_cases c : k < n0
      · exact old k c
      · exact new k (by omega) a
    have hv : ∀ k, k < m' → gi T1 199 k = 5 → 0 ≤ gi T1 201 k ∧ gi T1 201 k < (k : Int) := fun k a c => by
      have := N1 k (by omega)
      unfold m_val at this
      omega
    have A := ac_is (S0 := S5) (T := T1) q2 q1 C5.2.1 (by rw [gS 10 3 (by omega), hK.1, hn]) (by rw [g11 10 4 (by omega)]; exact q5) (fun k hk => ⟨(all k hk).1, (all k hk).2.2.1⟩) hv _ e6
    obtain ⟨a1, a2, a3, a4, a5, a6⟩ := A
    have C6 : CX 0 S6 := (ok_true (ok_Pile_accept S5 C5 (by rw [g11 10 3 (by omega), g11 10 4 (by omega)]; exact C2.2.1)) _ e6).1
    have K6 : RK S6 T1 := by
      refine ⟨by rw [a4, q6], fun k hk => ?_⟩
      have hk' : k < m' := by omega
      refine ⟨MN_keep (all k hk') (fun r j w => a3 r j (by omega)) (fun _ _ => rfl), ?_⟩
      have e8 := a6 k hk'
      have e7 : gi S6 (14 + 4 * k) 7 = gi S5 (14 + 4 * k) 7 := a3 _ 7 (by omega)
      unfold VW
      rw [e7, e8]
      by_cases c : k < n0
      · have v := (hK.2 k (by omega)).2
        unfold VW at v
        rw [gS _ 7 (by omega), gS _ 8 (by omega), y3 207 k (by omega), y3 205 k (by omega)]
        refine ⟨v.1, ?_⟩
        have ov : m_ov T1 k ↔ (m_ov T k ∨ sv T1 n0 m' k) := by
          constructor
          · rintro ⟨s, x1, x2, x3, x4⟩
            by_cases d : s < n0
            · left
              exact ⟨s, x1, by omega, by rw [← y3 199 s (by omega)]; exact x3, by rw [← y3 201 s (by omega)]; exact x4⟩
            · right
              exact ⟨s, by omega, by omega, x3, x4⟩
          · rintro (⟨s, x1, x2, x3, x4⟩ | ⟨s, x1, x2, x3, x4⟩)
            · exact ⟨s, x1, by omega, by rw [y3 199 s (by omega)]; exact x3, by rw [y3 201 s (by omega)]; exact x4⟩
            · exact ⟨s, by omega, by omega, x3, x4⟩
        rw [v.2, ov]
        constructor
        · rintro ((x | x) | x)
          · exact .inl (.inl x)
          · exact .inr x
          · exact .inl (.inr x)
        · rintro ((x | x) | x)
          · exact .inl (.inl x)
          · exact .inr x
          · exact .inl (.inr x)
      · obtain ⟨f1, f2, f3⟩ := q8 k (by omega) hk'
        rw [g11 _ 7 (by omega), g11 _ 8 (by omega), f1, f2, f3]
        refine ⟨⟨fun x => ⟨x, rfl⟩, fun x => x.1⟩, ?_⟩
        constructor
        · rintro (x | ⟨s, x1, x2, x3, x4⟩)
          · exact absurd rfl x
          · have := hv s x2 x3
            exact .inl ⟨s, by omega, by omega, x3, x4⟩
        · rintro (⟨s, x1, x2, x3, x4⟩ | x)
          · exact .inr ⟨s, by omega, by omega, x3, x4⟩
          · exact absurd x.2 (by decide)
    have st := st_settle C6 M1 N1 K6 (fun k => by rw [a3 12 k (by omega), gS 12 k (by omega), y3 209 k (by omega)]; exact hR.2.2.2.1 k) S1 e9
    refine ⟨⟨hb, by1, FE_keep fe (fun k => by rw [st.1 3 k (by omega)]; exact a3 3 k (by omega)) rfl rfl, ⟨by rw [st.1 10 3 (by omega)]; exact K6.1, fun k hk => ?_⟩, st.2⟩, a1.trans q4.symm⟩
    obtain ⟨m, v⟩ := K6.2 k hk
    refine ⟨MN_keep m (fun r j w => st.1 r j (by omega)) (fun _ _ => rfl), ?_⟩
    unfold VW at v ⊢
    rw [st.1 _ 7 (by omega), st.1 _ 8 (by omega)]
    exact v
theorem im_is {T : SS} {v r : Int} (e : f_M_isMark T v = some r) : (r = 0 ∧ ¬ (0 ≤ v ∧ v < gi T 192 27)) ∨ (r = 1 ∧ 0 ≤ v ∧ v < gi T 192 27) := by
  unfold f_M_isMark at e
  obtain ⟨_, e⟩ := w_chkE e
  obtain ⟨_, e⟩ := w_chkE e
  have e := Option.some.inj e
  have i := in01 T v 0 (gi T 192 27 - 1)
  omega
theorem fd_is {S : SS} (hC : CX 0 S) {v : Int} {o : Option Nat} (e : f_Pile_find S v = some o) : (o = none ∧ ¬ (0 ≤ v ∧ v < gi S 10 3)) ∨ (o = some v.toNat ∧ 0 ≤ v ∧ v < gi S 10 3) := by
  have b3 := cx_10_3 hC
  by_cases c : 0 ≤ v ∧ v < gi S 10 3
  · have := c_find hC.2.1 (k := v.toNat) (by omega) b3.2
    rw [show ((v.toNat : Nat) : Int) = v by omega, e] at this
    exact .inr ⟨Option.some.inj this, c⟩
  · left
    refine ⟨?_, c⟩
    unfold f_Pile_find at e
    by_cases c2 : v < gi S 10 3
    · rw [if_pos c2] at e
      unfold f_Pile_markAt at e
      rw [if_pos (by omega)] at e
      cases e; rfl
    · rw [if_neg c2] at e
      cases e; rfl
/-- the finding of a mark that is no STET -/
theorem fn_is {S T : SS} (hC : CX 0 S) (hK : RK S T) {v : Int} {o : Option Nat} (e : f_Pile_findNoStet S v = some o) : (o = none ∧ (¬ (0 ≤ v ∧ v < gi T 192 27) ∨ gi T 199 v.toNat = 5)) ∨ (o = some v.toNat ∧ 0 ≤ v ∧ v < gi T 192 27 ∧ gi T 199 v.toNat ≠ 5) := by
  unfold f_Pile_findNoStet at e
  obtain ⟨o1, e1, e⟩ := w_b1E e
  rcases fd_is hC e1 with ⟨q, q2⟩ | ⟨q, q2⟩
  · subst q
    have e := w_onN e
    cases e
    rw [hK.1] at q2
    exact .inl ⟨rfl, .inl q2⟩
  · subst q
    have e := w_onS e
    obtain ⟨_, e⟩ := w_chkE e
    rw [hK.1] at q2
    have k := (hK.2 v.toNat (by omega)).1.1
    rw [k] at e
    by_cases c : gi T 199 v.toNat = 5
    · rw [if_pos c] at e; cases e; exact .inl ⟨rfl, .inr c⟩
    · rw [if_neg c] at e; cases e; exact .inr ⟨rfl, q2.1, q2.2, c⟩
theorem RM_error {S T S1 T1 : SS} {a1 a2 r t : Int} (hC : CX 0 S) (hM : MX 0 T) (h : RM S T) (h1 : f_MP_error S a1 a2 = some (r, S1)) (h2 : f_M_error T a1 a2 = some (t, T1)) : RM S1 T1 ∧ r = t := by
  have hb := RBX_error h.1 h1 h2
  have b27 := mx_192_27 hM
  unfold f_MP_error at h1
  unfold f_M_error at h2
  obtain ⟨o, e1, h1⟩ := w_b1E h1
  obtain ⟨x, e2, h2⟩ := w_b1E h2
  have F := fn_is hC h.2.2.2.1 e1
  have I := im_is e2
  rcases F with ⟨q, q2⟩ | ⟨q, q2, q3, q4⟩
  · subst q
    have h1 := w_onN h1
    cases h1
    have : t = -2 ∧ T1 = T := by
      rcases I with i | i
      · rw [if_pos i.1] at h2; cases h2; exact ⟨rfl, rfl⟩
      · rw [if_neg (by omega)] at h2
        obtain ⟨_, h2⟩ := w_chkE h2
        rw [if_pos (by omega)] at h2
        cases h2; exact ⟨rfl, rfl⟩
    rw [this.1, this.2]; exact ⟨h, rfl⟩
  · subst q
    have h1 := w_onS h1
    obtain ⟨_, h1⟩ := w_chkE h1
    obtain ⟨_, h1⟩ := w_chkE h1
    have h1 := w_ltX h1
    rw [if_neg (by omega)] at h2
    obtain ⟨_, h2⟩ := w_chkE h2
    rw [if_neg q4] at h2
    obtain ⟨_, h2⟩ := w_chkE h2
    obtain ⟨_, h2⟩ := w_chkE h2
    obtain ⟨_, h2⟩ := w_chkE h2
    have h2 := w_ltX h2
    have e9 := (h.2.2.2.1.2 a1.toNat (by omega)).1.2.2.2.2.2.2.2
    rw [e9] at h1
    have gS : ∀ r k, ¬ (r = 14 + 4 * a1.toNat ∧ k = 9) → gi (si S (14 + 4 * a1.toNat) 9 a2) r k = gi S r k := fun r k a => gi_off a
    have gT : ∀ r k, ¬ (r = 208 ∧ k = a1.toNat) → gi (si T 208 a1.toNat a2) r k = gi T r k := fun r k a => gi_off a
    have q1 : S1 = si S (14 + 4 * a1.toNat) 9 a2 ∧ T1 = si T 208 a1.toNat a2 ∧ r = t := by
      by_cases c : gi T 208 a1.toNat = a2
      · rw [if_pos c] at h1 h2
        cases h1; cases h2; exact ⟨rfl, rfl, rfl⟩
      · rw [if_neg c] at h1 h2
        cases h1; cases h2; exact ⟨rfl, rfl, rfl⟩
    refine ⟨?_, q1.2.2⟩
    rw [q1.1, q1.2.1] at hb ⊢
    obtain ⟨hR, hy, hf, hK, hD⟩ := h
    have en : gi (si T 208 a1.toNat a2) 192 27 = gi T 192 27 := gT 192 27 (by omega)
    refine ⟨hb, fun k => by rw [gT 197 k (by omega)]; exact hy k, FE_keep hf (fun k => gS 3 k (by omega)) (gT 192 14 (by omega)) (gT 192 15 (by omega)), ⟨by rw [gS 10 3 (by omega), en]; exact hK.1, fun k hk => ?_⟩, CD_cg hD en (mst_cg en (fun r k a => gT r k (by omega))) (fun j hj => gS _ 11 (by omega)) (gS 10 5 (by omega)) (fun k => gS 13 k (by omega))⟩
    rw [en] at hk
    obtain ⟨m, v⟩ := hK.2 k hk
    constructor
    · by_cases c : k = a1.toNat
      · obtain ⟨x1, x2, x3, x4, x5, x6, x7, x8⟩ := m
        refine ⟨?_, ?_, ?_, ?_, ?_, ?_, ?_, ?_⟩
        · rw [gS _ 2 (by omega), gT 199 k (by omega)]; exact x1
        · rw [gS _ 3 (by omega), gT 200 k (by omega)]; exact x2
        · rw [gS _ 0 (by omega), gT 201 k (by omega)]; exact x3
        · rw [gS _ 1 (by omega), gT 202 k (by omega)]; exact x4
        · rw [gS _ 2 (by omega), gT 203 k (by omega)]; exact x5
        · rw [gS _ 1 (by omega), gT 204 k (by omega)]; exact x6
        · unfold PLC at x7 ⊢
          rw [gS (14 + 4 * k) 4 (by omega), gS (14 + 4 * k) 5 (by omega), gS (14 + 4 * k) 6 (by omega), gS (14 + 4 * k) 2 (by omega), gS (14 + 4 * k + 1) 0 (by omega), gS (14 + 4 * k + 1) 1 (by omega), gS (14 + 4 * k + 1) 2 (by omega)]
          exact x7
        · rw [c, gi_at, gi_at]
      · exact MN_keep m (fun r j a => gS r j (by omega)) (fun r a => gT r k (by omega))
    · unfold VW at v ⊢
      rw [gS _ 7 (by omega), gS _ 8 (by omega), gT 207 k (by omega), gT 205 k (by omega), propext (ov_cg en (fun r k a => gT r k (by omega)) k)]
      exact v
theorem nx_keep {T T1 : SS} (h : NX T) (ht : ∀ r k, (199 ≤ r ∧ r ≤ 203) ∨ (r = 192 ∧ (k = 3 ∨ k = 27)) → gi T1 r k = gi T r k) : NX T1 := fun k hk => by
  rw [ht 192 27 (by omega)] at hk
  have := h k hk
  unfold m_val at this ⊢
  rw [ht 199 k (by omega), ht 201 k (by omega), ht 202 k (by omega), ht 203 k (by omega), ht 192 3 (by omega)]
  exact this
theorem st_3 {T : SS} {k : Nat} (hk : (k : Int) < gi T 192 27) : m_st T k = 3 ↔ m_s0 T k = 3 := by
  have inv : ∀ (c : Nat) (r : Int) (st : Nat → Int), (∀ j, st j = m_s0 T j ∨ (st j = 0 ∧ m_s0 T j = 1)) → ∀ j, j_r (q_nm (q_md T)) (gi T 192 27).toNat (m_rk T) c r st j = m_s0 T j ∨ (j_r (q_nm (q_md T)) (gi T 192 27).toNat (m_rk T) c r st j = 0 ∧ m_s0 T j = 1) := by
    have ik : ∀ (r : Int) (c k : Nat) (st : Nat → Int), (∀ j, st j = m_s0 T j ∨ (st j = 0 ∧ m_s0 T j = 1)) → ∀ j, j_k (q_nm (q_md T)) (gi T 192 27).toNat (m_rk T) r c k st j = m_s0 T j ∨ (j_k (q_nm (q_md T)) (gi T 192 27).toNat (m_rk T) r c k st j = 0 ∧ m_s0 T j = 1) := by
      intro r c
      induction c with
      | zero => intro k st h; exact h
      | succ c ih =>
        intro k st h
        rw [j_k]
        refine ih (k + 1) _ ?_
        by_cases d : st k = 1 ∧ m_rk T k = r
        · rw [cif_pos d]
          intro j
          unfold j_one
          by_cases e : j = k ∧ ∀ o, o < (gi T 192 27).toNat → st o = 0 → q_nm (q_md T) k o
          · rw [cif_pos e]
            right
            refine ⟨rfl, ?_⟩
            rw [e.1]
            rcases h k with q | q
            · rw [← q]; exact d.1
            · exact q.2
          · rw [cif_neg e]; exact h j
        · rw [cif_neg d]; exact h
    intro c
    induction c with
    | zero => intro r st h; exact h
    | succ c ih => intro r st h; rw [j_r]; exact ih (r + 1) _ (ik r _ 0 st h)
  have := inv 10 0 (m_s0 T) (fun j => .inl rfl) k
  unfold m_st
  rcases this with q | q
  · rw [q]
  · rw [q.1, q.2]; decide
theorem RM_answer {S T S1 T1 : SS} {a1 a2 r t : Int} (hC : CX 0 S) (hM : MX 0 T) (hN : NX T) (h : RM S T) (h1 : f_MP_answer S a1 a2 = some (r, S1)) (h2 : f_M_answer T a1 a2 = some (t, T1)) : RM S1 T1 ∧ r = t := by
  have hb := RBX_answer hM h.1 h1 h2
  have b27 := mx_192_27 hM
  have M1 : MX 0 T1 := (ok_true (ok_M_answer T a1 a2 hM) (t, T1) h2).1
  unfold f_MP_answer at h1
  unfold f_M_answer at h2
  obtain ⟨o, e1, h1⟩ := w_b1E h1
  obtain ⟨x, e2, h2⟩ := w_b1E h2
  have F := fd_is hC e1
  have I := im_is e2
  rw [h.2.2.2.1.1] at F
  rcases F with ⟨q, q2⟩ | ⟨q, q2, q3⟩
  · subst q
    have h1 := w_onN h1
    cases h1
    rw [if_pos (by omega)] at h2
    cases h2
    exact ⟨h, rfl⟩
  · subst q
    have h1 := w_onS h1
    obtain ⟨_, h1⟩ := w_chkE h1
    rw [if_neg (by omega)] at h2
    obtain ⟨T3, e3, h2⟩ := w_b1E h2
    obtain ⟨j1, j2⟩ := pc_judge T hM T3 e3
    obtain ⟨_, h2⟩ := w_chkE h2
    have f3 : fr XH T T3 := fun r k a => j1.2 r k (by omega) (by omega)
    rw [j2 a1.toNat (by omega)] at h2
    rw [h.2.2.2.2.1 a1.toNat (by omega)] at h1
    have R3 : RM S T3 := RM_ref hM h f3
    by_cases c : m_st T a1.toNat = 3
    · rw [if_pos c] at h1 h2
      have c0 := (st_3 (k := a1.toNat) (by omega)).1 c
      have w0 : gi T 199 a1.toNat ≠ 5 ∧ ¬ m_ov T a1.toNat ∧ gi T 207 a1.toNat ≠ 0 ∧ gi T 205 a1.toNat = 0 := by
        unfold m_s0 at c0
        by_cases d5 : gi T 199 a1.toNat = 5
        · rw [if_pos d5] at c0; exact absurd c0 (by decide)
        · rw [if_neg d5] at c0
          by_cases dv : m_ov T a1.toNat ∨ (gi T 207 a1.toNat ≠ 0 ∧ gi T 205 a1.toNat = 2)
          · rw [cif_pos dv] at c0; exact absurd c0 (by decide)
          · rw [cif_neg dv] at c0
            by_cases dw : gi T 207 a1.toNat ≠ 0 ∧ gi T 205 a1.toNat = 0
            · exact ⟨d5, fun q => dv (.inl q), dw⟩
            · rw [if_neg dw] at c0; exact absurd c0 (by decide)
      have h1 := w_ltX h1
      obtain ⟨bv, av, hv, h1, h2⟩ : ∃ bv av : Int, ((bv = 1 ∧ av = 2) ∨ (bv = 0 ∧ av = 1)) ∧ f_MP_answer_42 a1 a2 (si S (14 + 4 * a1.toNat) 7 0) bv a1.toNat = some (r, S1) ∧ f_M_answer_42 a1 a2 T3 av a1 = some (t, T1) := by
        by_cases d : a2 = 0
        · rw [if_pos d] at h1 h2; exact ⟨1, 2, .inl ⟨rfl, rfl⟩, h1, h2⟩
        · rw [if_neg d] at h1 h2; exact ⟨0, 1, .inr ⟨rfl, rfl⟩, h1, h2⟩
      unfold f_MP_answer_42 at h1
      unfold f_M_answer_42 at h2
      obtain ⟨_, h1⟩ := w_chkE h1
      have h1 := w_ltX h1
      obtain ⟨S3, e9, h1⟩ := w_b1E h1
      obtain ⟨_, h2⟩ := w_chkE h2
      have h2 := w_ltX h2
      cases h1
      cases h2
      refine ⟨?_, rfl⟩
      have gS : ∀ r k, ¬ (r = 14 + 4 * a1.toNat ∧ (k = 7 ∨ k = 8)) → gi (si (si S (14 + 4 * a1.toNat) 7 0) (14 + 4 * a1.toNat) 8 bv) r k = gi S r k := fun r k a => by rw [gi_off (by omega), gi_off (by omega)]
      have s7 : gi (si (si S (14 + 4 * a1.toNat) 7 0) (14 + 4 * a1.toNat) 8 bv) (14 + 4 * a1.toNat) 7 = 0 := by rw [gi_off (by omega), gi_at]
      have s8 : gi (si (si S (14 + 4 * a1.toNat) 7 0) (14 + 4 * a1.toNat) 8 bv) (14 + 4 * a1.toNat) 8 = bv := gi_at _ _ _ _
      have C8 : CX 0 (si (si S (14 + 4 * a1.toNat) 7 0) (14 + 4 * a1.toNat) 8 bv) := cs_mk_8 (cs_mk_7 hC (by omega) (by decide) (by decide)) (by omega) (by omega) (by omega)
      generalize si (si S (14 + 4 * a1.toNat) 7 0) (14 + 4 * a1.toNat) 8 bv = S8 at e9 gS s7 s8 C8
      have gT : ∀ r k, ¬ (r = 205 ∧ k = a1.toNat) → gi (si T3 205 a1.toNat av) r k = gi T3 r k := fun r k a => gi_off a
      have t5 : gi (si T3 205 a1.toNat av) 205 a1.toNat = av := gi_at _ _ _ _
      generalize si T3 205 a1.toNat av = T5 at hb M1 gT t5
      obtain ⟨hR, hy, hf, hK, hD⟩ := R3
      have en : gi T5 192 27 = gi T3 192 27 := gT 192 27 (by omega)
      have e27 : gi T3 192 27 = gi T 192 27 := f3 192 27 (by omega)
      have N5 : NX T5 := nx_keep hN (fun r k a => by rw [gT r k (by omega)]; exact f3 r k (by omega))
      have ov : ∀ k, m_ov T5 k ↔ m_ov T3 k := fun k => by
        constructor
        · rintro ⟨s, x1, x2, x3, x4⟩
          exact ⟨s, x1, by rw [← en]; exact x2, by rw [← gT 199 s (by omega)]; exact x3, by rw [← gT 201 s (by omega)]; exact x4⟩
        · rintro ⟨s, x1, x2, x3, x4⟩
          exact ⟨s, x1, by rw [en]; exact x2, by rw [gT 199 s (by omega)]; exact x3, by rw [gT 201 s (by omega)]; exact x4⟩
      have ov3 : m_ov T3 a1.toNat ↔ m_ov T a1.toNat := ov_cg e27 (fun r k a => f3 r k (by omega)) _
      have K5 : RK S8 T5 := by
        refine ⟨by rw [gS 10 3 (by omega), en]; exact hK.1, fun k hk => ?_⟩
        rw [en] at hk
        obtain ⟨m, v⟩ := hK.2 k hk
        refine ⟨MN_keep m (fun r j a => gS r j (by omega)) (fun r a => gT r k (by omega)), ?_⟩
        unfold VW at v ⊢
        rw [propext (ov k), gT 207 k (by omega)]
        by_cases d : k = a1.toNat
        · subst d
          rw [s7, s8, t5, f3 207 _ (by omega)]
          constructor
          · constructor
            · intro w; exact absurd rfl w
            · intro w; omega
          · constructor
            · intro w; right; exact ⟨w0.2.2.1, by omega⟩
            · rintro (w | w)
              · exact absurd (ov3.1 w) w0.2.1
              · omega
        · rw [gS _ 7 (by omega), gS _ 8 (by omega), gT 205 k (by omega)]; exact v
      have st := st_settle C8 M1 N5 K5 (fun k => by rw [gS 12 k (by omega), gT 209 k (by omega)]; exact hR.2.2.2.1 k) S1 e9
      refine ⟨hb, fun k => by rw [gT 197 k (by omega)]; exact hy k, FE_keep hf (fun k => by rw [st.1 3 k (by omega)]; exact gS 3 k (by omega)) (gT 192 14 (by omega)) (gT 192 15 (by omega)), ⟨by rw [st.1 10 3 (by omega)]; exact K5.1, fun k hk => ?_⟩, st.2⟩
      obtain ⟨m, v⟩ := K5.2 k hk
      have hk' : (k : Int) < gi T 192 27 := by rw [en, e27] at hk; exact hk
      refine ⟨MN_keep m (fun r j w => st.1 r j (by omega)) (fun _ _ => rfl), ?_⟩
      unfold VW at v ⊢
      rw [st.1 _ 7 (by omega), st.1 _ 8 (by omega)]
      exact v
    · rw [if_neg c] at h1 h2
      cases h1
      cases h2
      exact ⟨R3, rfl⟩
theorem RM_meet {S T : SS} {a1 a2 r t : Int} (hC : CX 0 S) (hM : MX 0 T) (hN : NX T) (h : RM S T) (h1 : f_MP_meet S a1 a2 = some r) (h2 : f_M_meet T a1 a2 = some t) : r = t := by
  have b27 := mx_192_27 hM
  have hK := h.2.2.2.1
  unfold f_MP_meet at h1
  unfold f_M_meet at h2
  obtain ⟨o1, e1, h1⟩ := w_b1E h1
  obtain ⟨o2, e2, h1⟩ := w_b1E h1
  obtain ⟨x1, i1, h2⟩ := w_b1E h2
  have F1 := fn_is hC hK e1
  have F2 := fn_is hC hK e2
  have I1 := im_is i1
  have no : ¬ (0 ≤ a1 ∧ a1 < gi T 192 27 ∧ gi T 199 a1.toNat ≠ 5 ∧ 0 ≤ a2 ∧ a2 < gi T 192 27 ∧ gi T 199 a2.toNat ≠ 5 ∧ a1 ≠ a2) → t = -2 := by
    intro c
    by_cases c1 : x1 = 0
    · rw [if_pos c1] at h2; cases h2; rfl
    rw [if_neg c1] at h2
    obtain ⟨x2, i2, h2⟩ := w_b1E h2
    have I2 := im_is i2
    by_cases c2 : x2 = 0
    · rw [if_pos c2] at h2; cases h2; rfl
    rw [if_neg c2] at h2
    by_cases c3 : a1 = a2
    · rw [if_pos c3] at h2; cases h2; rfl
    rw [if_neg c3] at h2
    obtain ⟨_, h2⟩ := w_chkE h2
    by_cases c4 : gi T 199 a1.toNat = 5
    · rw [if_pos c4] at h2; cases h2; rfl
    rw [if_neg c4] at h2
    obtain ⟨_, h2⟩ := w_chkE h2
    by_cases c5 : gi T 199 a2.toNat = 5
    · rw [if_pos c5] at h2; cases h2; rfl
    exact absurd ⟨by omega, by omega, c4, by omega, by omega, c5, c3⟩ c
  rcases F1 with ⟨q, q1⟩ | ⟨q, q1, q2, q3⟩
  · subst q
    have h1 := w_onN h1
    cases h1
    exact (no (fun w => q1.elim (fun z => z ⟨w.1, w.2.1⟩) (fun z => w.2.2.1 z))).symm
  subst q
  have h1 := w_onS h1
  obtain ⟨_, h1⟩ := w_chkE h1
  rcases F2 with ⟨q, p1⟩ | ⟨q, p1, p2, p3⟩
  · subst q
    have h1 := w_onN h1
    cases h1
    exact (no (fun w => p1.elim (fun z => z ⟨w.2.2.2.1, w.2.2.2.2.1⟩) (fun z => w.2.2.2.2.2.1 z))).symm
  subst q
  have h1 := w_onS h1
  obtain ⟨_, h1⟩ := w_chkE h1
  by_cases c : a1 = a2
  · rw [if_pos c] at h1; cases h1
    exact (no (fun w => w.2.2.2.2.2.2 c)).symm
  rw [if_neg c] at h1
  rw [if_neg (by omega)] at h2
  obtain ⟨x2, i2, h2⟩ := w_b1E h2
  have I2 := im_is i2
  rw [if_neg (by omega), if_neg c] at h2
  obtain ⟨_, h2⟩ := w_chkE h2
  rw [if_neg q3] at h2
  obtain ⟨_, h2⟩ := w_chkE h2
  rw [if_neg p3] at h2
  obtain ⟨y, ey, h1⟩ := w_b1E h1
  obtain ⟨z, ez, h2⟩ := w_b1E h2
  have k1 : ((a1.toNat : Nat) : Int) = a1 := by omega
  have k2 : ((a2.toNat : Nat) : Int) = a2 := by omega
  have l1 : ((a1.toNat : Nat) : Int) < gi T 192 27 := by omega
  have l2 : ((a2.toNat : Nat) : Int) < gi T 192 27 := by omega
  have m1 := (hK.2 a1.toNat l1).1
  have m2 := (hK.2 a2.toNat l2).1
  have A := c_meets S a1.toNat a2.toNat (sh_of m1 (hN _ l1) q3) (sh_of m2 (hN _ l2) p3) y ey
  have B := pc_doMeet T a1.toNat a2.toNat z (by rw [k1, k2]; exact ez)
  have E := (wi_eq (md_eq m1 q3) (md_eq m2 p3)).2
  clear no
  rcases A with ⟨u1, u2⟩ | ⟨u1, u2⟩
  · rcases B with ⟨w1, w2⟩ | ⟨w1, w2⟩
    · rw [if_pos u1] at h1; rw [if_pos w1] at h2; cases h1; cases h2; rfl
    · exact absurd (E.1 u2) w2
  · rcases B with ⟨w1, w2⟩ | ⟨w1, w2⟩
    · exact absurd (E.2 w2) u2
    · rw [if_neg (by rw [u1]; decide)] at h1; rw [if_neg (by rw [w1]; decide)] at h2; cases h1; cases h2; rfl
theorem RM_within {S T : SS} {a1 a2 r t : Int} (hC : CX 0 S) (hM : MX 0 T) (hN : NX T) (h : RM S T) (h1 : f_MP_within S a1 a2 = some r) (h2 : f_M_within T a1 a2 = some t) : r = t := by
  have b27 := mx_192_27 hM
  have hK := h.2.2.2.1
  unfold f_MP_within at h1
  unfold f_M_within at h2
  obtain ⟨o1, e1, h1⟩ := w_b1E h1
  obtain ⟨o2, e2, h1⟩ := w_b1E h1
  obtain ⟨x1, i1, h2⟩ := w_b1E h2
  have F1 := fn_is hC hK e1
  have F2 := fn_is hC hK e2
  have I1 := im_is i1
  have no : ¬ (0 ≤ a1 ∧ a1 < gi T 192 27 ∧ gi T 199 a1.toNat ≠ 5 ∧ 0 ≤ a2 ∧ a2 < gi T 192 27 ∧ gi T 199 a2.toNat ≠ 5 ∧ a1 ≠ a2) → t = -2 := by
    intro c
    by_cases c1 : x1 = 0
    · rw [if_pos c1] at h2; cases h2; rfl
    rw [if_neg c1] at h2
    obtain ⟨x2, i2, h2⟩ := w_b1E h2
    have I2 := im_is i2
    by_cases c2 : x2 = 0
    · rw [if_pos c2] at h2; cases h2; rfl
    rw [if_neg c2] at h2
    by_cases c3 : a1 = a2
    · rw [if_pos c3] at h2; cases h2; rfl
    rw [if_neg c3] at h2
    obtain ⟨_, h2⟩ := w_chkE h2
    by_cases c4 : gi T 199 a1.toNat = 5
    · rw [if_pos c4] at h2; cases h2; rfl
    rw [if_neg c4] at h2
    obtain ⟨_, h2⟩ := w_chkE h2
    by_cases c5 : gi T 199 a2.toNat = 5
    · rw [if_pos c5] at h2; cases h2; rfl
    exact absurd ⟨by omega, by omega, c4, by omega, by omega, c5, c3⟩ c
  rcases F1 with ⟨q, q1⟩ | ⟨q, q1, q2, q3⟩
  · subst q
    have h1 := w_onN h1
    cases h1
    exact (no (fun w => q1.elim (fun z => z ⟨w.1, w.2.1⟩) (fun z => w.2.2.1 z))).symm
  subst q
  have h1 := w_onS h1
  obtain ⟨_, h1⟩ := w_chkE h1
  rcases F2 with ⟨q, p1⟩ | ⟨q, p1, p2, p3⟩
  · subst q
    have h1 := w_onN h1
    cases h1
    exact (no (fun w => p1.elim (fun z => z ⟨w.2.2.2.1, w.2.2.2.2.1⟩) (fun z => w.2.2.2.2.2.1 z))).symm
  subst q
  have h1 := w_onS h1
  obtain ⟨_, h1⟩ := w_chkE h1
  by_cases c : a1 = a2
  · rw [if_pos c] at h1; cases h1
    exact (no (fun w => w.2.2.2.2.2.2 c)).symm
  rw [if_neg c] at h1
  rw [if_neg (by omega)] at h2
  obtain ⟨x2, i2, h2⟩ := w_b1E h2
  have I2 := im_is i2
  rw [if_neg (by omega), if_neg c] at h2
  obtain ⟨_, h2⟩ := w_chkE h2
  rw [if_neg q3] at h2
  obtain ⟨_, h2⟩ := w_chkE h2
  rw [if_neg p3] at h2
  obtain ⟨y, ey, h1⟩ := w_b1E h1
  obtain ⟨z, ez, h2⟩ := w_b1E h2
  have k1 : ((a1.toNat : Nat) : Int) = a1 := by omega
  have k2 : ((a2.toNat : Nat) : Int) = a2 := by omega
  have l1 : ((a1.toNat : Nat) : Int) < gi T 192 27 := by omega
  have l2 : ((a2.toNat : Nat) : Int) < gi T 192 27 := by omega
  have m1 := (hK.2 a1.toNat l1).1
  have m2 := (hK.2 a2.toNat l2).1
  have A := c_within S a1.toNat a2.toNat (sh_of m1 (hN _ l1) q3) y ey
  have B := pc_isWithin T a1.toNat a2.toNat z (by rw [k1, k2]; exact ez)
  have E := (wi_eq (md_eq m1 q3) (md_eq m2 p3)).1
  clear no
  rcases A with ⟨u1, u2⟩ | ⟨u1, u2⟩
  · rcases B with ⟨w1, w2⟩ | ⟨w1, w2⟩
    · rw [if_pos u1] at h1; rw [if_pos w1] at h2; cases h1; cases h2; rfl
    · exact absurd (E.2 w2) u2
  · rcases B with ⟨w1, w2⟩ | ⟨w1, w2⟩
    · exact absurd (E.1 u2) w2
    · rw [if_neg (by rw [u1]; decide)] at h1; rw [if_neg (by rw [w1]; decide)] at h2; cases h1; cases h2; rfl
theorem RM_fault {S T : SS} (h : RM S T) (a : Int) : f_MP_fault S a = f_M_fault T a := by
  unfold f_MP_fault f_M_fault
  rw [h.2.2.1.1, h.2.2.1.2]
/-- whose a mark is: 1 the printer's, 0 the author's -/
def cnd (T : SS) (k : Nat) : Int := if gi T 200 k = 2 then 1 else if gi T 208 k = 0 then 0 else 1
/-- what the first k marks come to -/
noncomputable def ps (T : SS) (w : Int) : Nat → Int
  | 0 => 0
  | k + 1 => ps T w k + (if m_st T k = 0 then (if cnd T k = w then gi T 210 (gi T 199 k).toNat else 0) else 0)
theorem pr_ref (T S3 : SS) (w a1 : Int) (hw : (a1 = 1 ∧ w = 1) ∨ (a1 ≠ 1 ∧ w = 0)) (f3 : fr XH T S3) (h0 : 0 ≤ gi T 192 27) (hj : ∀ j : Nat, (j : Int) < gi T 192 27 → gi S3 212 j = m_st T j) : ∀ (n : Nat) (k : Nat), (k : Int) ≤ gi T 192 27 → pc (f_M_pays_21 a1 n S3 (ps T w k) (k : Int)) (fun u => u.1 = ps T w (gi T 192 27).toNat) := by
  intro n
  induction n with
  | zero => intro k _ r e; exact absurd e (by simp [f_M_pays_21])
  | succ n ih =>
    intro k hk
    show pc (f_M_pays_21_b a1 (f_M_pays_21 a1 n) S3 (ps T w k) (k : Int)) _
    unfold f_M_pays_21_b
    rw [f3 192 27 (by omega), Int.toNat_natCast]
    refine pc_if (fun c => pc_some ?_) (fun c => pc_chk (fun _ => ?_))
    · show ps T w k = _
      rw [show (gi T 192 27).toNat = k by omega]
    rw [hj k (by omega), f3 200 k (by omega), f3 208 k (by omega)]
    have go : ∀ d v : Int, ps T w (k + 1) = v + d → pc (f_M_pays_91 a1 (f_M_pays_21 a1 n) S3 (k : Int) d v) (fun u => u.1 = ps T w (gi T 192 27).toNat) := by
      intro d v e
      unfold f_M_pays_91
      refine pc_chk (fun _ => pc_chk (fun _ => ?_))
      rw [← e, show (k : Int) + 1 = ((k + 1 : Nat) : Int) by omega]
      exact ih (k + 1) (by omega)
    have st : ∀ c : Int, cnd T k = c → m_st T k = 0 → pc (f_M_pays_63 a1 (f_M_pays_21 a1 n) S3 (k : Int) c (ps T w k)) (fun u => u.1 = ps T w (gi T 192 27).toNat) := by
      intro c ec es
      unfold f_M_pays_63
      have x73 : pc (f_M_pays_73 a1 (f_M_pays_21 a1 n) S3 (k : Int) w c (ps T w k)) (fun u => u.1 = ps T w (gi T 192 27).toNat) := by
        unfold f_M_pays_73 f_M_pays_90
        rw [Int.toNat_natCast]
        refine pc_if (fun c1 => pc_chk (fun _ => pc_chk (fun _ => go _ _ ?_))) (fun c1 => go _ _ ?_)
        · rw [ps, if_pos es, if_pos (ec.trans c1), f3 199 k (by omega), f3 210 _ (by omega)]
        · rw [ps, if_pos es, if_neg (fun q => c1 (ec.symm.trans q))]
      refine pc_if (fun c1 => ?_) (fun c1 => ?_)
      · have : w = 1 := by omega
        rw [this] at x73 ⊢; exact x73
      · have : w = 0 := by omega
        rw [this] at x73 ⊢; exact x73
    refine pc_if (fun cs => pc_chk (fun _ => pc_if (fun c2 => ?_) (fun c2 => pc_chk (fun _ => pc_if (fun c8 => st 0 ?_ cs) (fun c8 => ?_))))) (fun cs => ?_)
    · unfold f_M_pays_58
      exact st 1 (by unfold cnd; rw [if_pos c2]) cs
    · unfold cnd; rw [if_neg c2, if_pos c8]
    · unfold f_M_pays_58
      exact st 1 (by unfold cnd; rw [if_neg c2, if_neg c8]) cs
    · unfold f_M_pays_90
      exact go 0 _ (by rw [ps, if_neg cs])
theorem dn_le (st : Nat → Int) : ∀ k : Nat, m_dn st k ≤ k := by
  intro k
  induction k with
  | zero => exact Nat.le_refl _
  | succ k ih => rw [m_dn]; split <;> omega
theorem dn_mono (st : Nat → Int) (k : Nat) : ∀ c : Nat, m_dn st k ≤ m_dn st (k + c) := by
  intro c
  induction c with
  | zero => exact Nat.le_refl _
  | succ c ih => rw [show k + (c + 1) = (k + c) + 1 by omega, m_dn]; omega
theorem pr_cls {S T : SS} (hC : CX 0 S) (hM : MX 0 T) (hN : NX T) (h : RM S T) (w : Int) : ∀ (c k fuel : Nat), k + c = (gi T 192 27).toNat → pc (f_Bill_sum_5 S w fuel (ps T w k) (m_dn (m_st T) k : Int)) (fun r => r = ps T w (gi T 192 27).toNat) := by
  have b27 := mx_192_27 hM
  obtain ⟨hR, hy, hf, hK, hD⟩ := h
  intro c
  induction c with
  | zero =>
    intro k fuel hk
    have ek : k = (gi T 192 27).toNat := by omega
    cases fuel with
    | zero => intro r e; exact absurd e (by simp [f_Bill_sum_5])
    | succ fuel =>
      show pc (f_Bill_sum_5_b S w (f_Bill_sum_5 S w fuel) (ps T w k) (m_dn (m_st T) k : Int)) _
      unfold f_Bill_sum_5_b
      rw [if_pos (by rw [hD.2.1, ek]; exact Int.le_refl _)]
      exact pc_some (by rw [ek])
  | succ c ih =>
    intro k fuel hk
    by_cases cs : m_st T k = 0
    · cases fuel with
      | zero => intro r e; exact absurd e (by simp [f_Bill_sum_5])
      | succ fuel =>
        have dk := dn_le (m_st T) k
        have d1 : m_dn (m_st T) (k + 1) = m_dn (m_st T) k + 1 := by rw [m_dn, if_pos cs]
        have dm := dn_mono (m_st T) (k + 1) c
        rw [show k + 1 + c = (gi T 192 27).toNat by omega] at dm
        have hcnt := hD.2.1
        have h13 := hD.2.2 k (by omega) cs
        show pc (f_Bill_sum_5_b S w (f_Bill_sum_5 S w fuel) (ps T w k) (m_dn (m_st T) k : Int)) _
        unfold f_Bill_sum_5_b
        rw [if_neg (by omega)]
        have en : f_Pile_doneNumber S (m_dn (m_st T) k : Int) = some (k : Int) := by
          unfold f_Pile_doneNumber
          rw [if_neg (by omega), if_neg (by omega), if_pos (by omega), w_chkP (by omega), Int.toNat_natCast, h13]
        rw [w_b1_is en, w_b1_is (c_find hC.2.1 (k := k) (by rw [hK.1]; omega) (cx_10_3 hC).2)]
        show pc (w_chk (k < 40) _) _
        refine pc_chk (fun _ => ?_)
        obtain ⟨x1, x2, x3, x4, x5, x6, x7, x8⟩ := (hK.2 k (by omega)).1
        have k5 : gi T 199 k ≠ 5 := (m_st_ok T k (by omega) (.inl cs)).1
        have kv := hN k (by omega)
        have kr : 0 ≤ gi T 199 k ∧ gi T 199 k < 5 := by unfold m_val at kv; omega
        have go : ∀ v : Int, ps T w (k + 1) = v → pc (f_Bill_sum_69 S w (f_Bill_sum_5 S w fuel) v (m_dn (m_st T) k : Int)) (fun r => r = ps T w (gi T 192 27).toNat) := by
          intro v e
          unfold f_Bill_sum_69
          refine pc_chk (fun _ => ?_)
          rw [← e, show (m_dn (m_st T) k : Int) + 1 = (m_dn (m_st T) (k + 1) : Int) by omega]
          exact ih (k + 1) fuel (by omega)
        have st : ∀ d : Int, cnd T k = d → pc (f_Bill_sum_53 S w (f_Bill_sum_5 S w fuel) (ps T w k) (m_dn (m_st T) k : Int) k d) (fun r => r = ps T w (gi T 192 27).toNat) := by
          intro d ed
          unfold f_Bill_sum_53
          refine pc_if (fun c1 => ?_) (fun c1 => go _ ?_)
          · have ep : f_Bill_priceOf S (gi S (14 + 4 * k) 2) = some (gi T 210 (gi T 199 k).toNat) := by
              unfold f_Bill_priceOf
              rw [x1, if_neg (by omega), if_pos (by omega), w_chkP (by omega)]
              rcases hR.2.2.2.2.1 (gi T 199 k).toNat with z | z
              · rw [z]
              · omega
            rw [w_b1_is ep]
            refine pc_chk (fun _ => go _ ?_)
            rw [ps, if_pos cs, if_pos (ed.trans c1)]
          · rw [ps, if_pos cs, if_neg (fun q => c1 (ed.symm.trans q))]; omega
        rw [x2, x8]
        unfold f_Bill_sum_48
        refine pc_if (fun c2 => st 1 ?_) (fun c2 => pc_if (fun c8 => st 0 ?_) (fun c8 => st 1 ?_))
        · unfold cnd; rw [if_pos c2]
        · unfold cnd; rw [if_neg c2, if_pos c8]
        · unfold cnd; rw [if_neg c2, if_neg c8]
    · have d1 : m_dn (m_st T) (k + 1) = m_dn (m_st T) k := by rw [m_dn, if_neg cs]; rfl
      have p1 : ps T w (k + 1) = ps T w k := by rw [ps, if_neg cs]; omega
      have := ih (k + 1) fuel (by omega)
      rw [d1, p1] at this
      exact this
theorem RM_pays {S T T1 : SS} {a1 r t : Int} (hC : CX 0 S) (hM : MX 0 T) (hN : NX T) (h : RM S T) (h1 : f_MP_pays S a1 = some r) (h2 : f_M_pays T a1 = some (t, T1)) : r = t := by
  have b27 := mx_192_27 hM
  have i := in01 T a1 0 1
  unfold f_MP_pays at h1
  unfold f_M_pays at h2
  by_cases c : a1 = 0 ∨ a1 = 1
  · rw [if_neg (by omega)] at h2
    obtain ⟨T3, e3, h2⟩ := w_b1E h2
    obtain ⟨j1, j2⟩ := pc_judge T hM T3 e3
    have f3 : fr XH T T3 := fun r k a => j1.2 r k (by omega) (by omega)
    have h1 : f_MP_pays_12 S a1 = some r := by
      by_cases d : a1 = 0
      · rw [if_pos d] at h1; exact h1
      · rw [if_neg d, if_pos (by omega)] at h1; exact h1
    have fin : ∀ w, ((a1 = 1 ∧ w = 1) ∨ (a1 ≠ 1 ∧ w = 0)) → f_MP_pays_30 S a1 w = some r → r = t := by
      intro w hw q
      unfold f_MP_pays_30 f_Bill_sum at q
      obtain ⟨y, ey, q⟩ := w_b1E q
      cases q
      have A := pr_cls hC hM hN h w (gi T 192 27).toNat 0 FU (by omega) r ey
      have B := pr_ref T T3 w a1 hw f3 b27.1 j2 FU 0 (by omega) (t, T1) h2
      exact A.trans B.symm
    unfold f_MP_pays_12 at h1
    by_cases d : a1 = 1
    · rw [if_pos d] at h1; exact fin 1 (.inl ⟨d, rfl⟩) h1
    · rw [if_neg d] at h1; exact fin 0 (.inr ⟨d, rfl⟩) h1
  · rw [if_pos (by omega)] at h2
    rw [if_neg (by omega), if_neg (by omega)] at h1
    cases h1
    cases h2
    rfl
/-- pure: which marks are open while a region is set -/
def q_op (M : q_MK) (low high mv : Int) (k : Nat) : Prop := (k : Int) = mv ∨ (q_kd M k ≠ 1 ∧ q_anc M low high mv k)
theorem q_op_in {M : q_MK} {n : Nat} {F low high mv : Int} (G : q_good M n F) (R : q_reg M n F low high mv) {k : Nat} (hk : k < n) (uk : q_us M k = 1) (rk : q_kd M k ≠ 1) (ik : q_in M low high mv k) : ¬ q_op M low high mv k := by
  have v := G.1 k hk uk
  unfold q_val at v
  intro q
  rcases q with q | ⟨_, a1, a2, a3⟩
  · exact ik.1 q
  · rcases a3 with a3 | a3
    · rcases R.2.2.2.2 with r5 | ⟨m', m1, m2, m3, m4, m5, m6⟩
      · omega
      · have a4 := a3.2.2
        rw [m2, Int.toNat_natCast] at a4
        omega
    · omega
theorem q_op_cand {M : q_MK} {n : Nat} {F low high mv i : Int} (G : q_good M n F) (R : q_reg M n F low high mv) (hl : low ≤ i) (hh : i ≤ high) {k : Nat} (hk : k < n) (uk : q_us M k = 1) : (¬ q_op M low high mv k ∧ q_kd M k ≠ 1 ∧ q_lo M k = i) ↔ q_cand M high mv i k := by
  constructor
  · rintro ⟨h1, h2, h3⟩
    have v := G.1 k hk uk
    unfold q_val at v
    rcases R.2.2.1 k hk uk h2 (by omega) (by omega) with q | q | q
    · exact absurd (.inl q) h1
    · exact ⟨uk, h2, q.1, h3, q.2.2⟩
    · exact absurd (.inr ⟨h2, q⟩) h1
  · rintro ⟨_, h2, h3, h4, h5⟩
    exact ⟨q_op_in G R hk uk h2 ⟨h3, by omega, h5⟩, h2, h4⟩
theorem q_op_move {M : q_MK} {n : Nat} {F low high mv : Int} (G : q_good M n F) (R : q_reg M n F low high mv) {m : Nat} (hm : m < n) (um : q_us M m = 1) (km : q_kd M m = 4) (im : q_in M low high mv m) (B : q_bd M n low high mv (q_gp M m)) {k : Nat} (hk : k < n) (uk : q_us M k = 1) (ne : k ≠ m) : q_op M low high mv k ↔ q_op M (q_lo M m) (q_hi M m) (m : Int) k := by
  have vm := G.1 m hm um
  unfold q_val at vm
  have vm : 0 ≤ q_lo M m ∧ q_lo M m ≤ q_hi M m ∧ q_hi M m < F ∧ q_gp M m ≠ -1 := by omega
  have vk := G.1 k hk uk
  unfold q_val at vk
  obtain ⟨r1, r2, r3, r4, r5⟩ := R
  have mvl : ∀ m' : Nat, m' < n → mv = (m' : Int) → q_us M m' = 1 → q_kd M m' = 4 → q_lo M m' ≤ low → high ≤ q_hi M m' → q_hi M m - q_lo M m < q_hi M m' - q_lo M m' := by
    intro m' m1 m2 m3 m4 m5 m6
    by_cases c : q_hi M m' - q_lo M m' ≤ q_hi M m - q_lo M m
    · exact absurd (q_same_row G hm m1 (fun q => im.1 (by rw [m2, ← q])) um m3 km m4 (by omega) (by omega) c) (fun q => q)
    · omega
  unfold q_op
  constructor
  · intro q
    right
    rcases q with q | ⟨q0, a1, a2, a3⟩
    · rcases r5 with r5 | ⟨m', m1, m2, m3, m4, m5, m6⟩
      · omega
      · have e : m' = k := by omega
        subst e
        have l := mvl m' m1 m2 m3 m4 m5 m6
        refine ⟨by omega, by omega, by omega, .inl ⟨m4, by omega, ?_⟩⟩
        rw [Int.toNat_natCast]; exact l
    · refine ⟨q0, by omega, by omega, ?_⟩
      rcases a3 with a3 | a3
      · left
        rcases r5 with r5 | ⟨m', m1, m2, m3, m4, m5, m6⟩
        · omega
        · have l := mvl m' m1 m2 m3 m4 m5 m6
          have a4 := a3.2.2
          rw [m2, Int.toNat_natCast] at a4
          refine ⟨a3.1, by omega, ?_⟩
          rw [Int.toNat_natCast]; omega
      · exact .inr ⟨a3.1, by omega⟩
  · intro q
    rcases q with q | ⟨q0, a1, a2, a3⟩
    · omega
    · rw [Int.toNat_natCast] at a3
      rcases r3 k hk uk q0 (by omega) (by omega) with w | w | w
      · exact .inl w
      · exfalso
        have b := B k hk uk q0 w
        rcases G.2 k m hk hm ne uk um with p | p | p
        · omega
        · omega
        · exact p.1 ⟨q0, by omega, by omega, by omega⟩
      · exact .inr ⟨q0, w⟩
theorem q_op_turn {M : q_MK} {n : Nat} {F low high mv i : Int} (G : q_good M n F) (R : q_reg M n F low high mv) (hl : low ≤ i) (B : q_bd M n low high mv i) {t : Nat} (ht : t < n) (c : q_cand M high mv i t) (kt : q_kd M t = 3) (cm : ∀ k, k < n → q_cand M high mv i k → q_hi M k < q_hi M t ∨ (q_hi M k = q_hi M t ∧ (q_kd M k ≠ 4 ∨ q_kd M t = 4))) {a b : Int} (hab : (a = q_lo M t ∧ b = q_mi M t - 1) ∨ (a = q_mi M t ∧ b = q_hi M t)) {k : Nat} (hk : k < n) (uk : q_us M k = 1) (ne : k ≠ t) : q_op M low high mv k ↔ q_op M a b mv k := by
  have vt := G.1 t ht c.1
  unfold q_val at vt
  have vt : 0 ≤ q_lo M t ∧ q_lo M t < q_mi M t ∧ q_mi M t ≤ q_hi M t ∧ q_hi M t < F ∧ q_gp M t = -1 := by omega
  have vk := G.1 k hk uk
  unfold q_val at vk
  have mvk := q_in_mv hl B ht c kt cm
  obtain ⟨r1, r2, r3, r4, r5⟩ := R
  unfold q_op
  constructor
  · intro q
    rcases q with q | ⟨q0, a1, a2, a3⟩
    · exact .inl q
    · exact .inr ⟨q0, by omega, by omega, by omega⟩
  · intro q
    rcases q with q | ⟨q0, a1, a2, a3⟩
    · exact .inl q
    · rcases r3 k hk uk q0 (by omega) (by omega) with w | w | w
      · exact .inl w
      · exfalso
        have bk := B k hk uk q0 w
        rcases G.2 k t hk ht ne uk c.1 with p | p | p
        · rcases a3 with a3 | a3
          · rcases r5 with r5 | ⟨m', m1, m2, m3, m4, m5, m6⟩
            · omega
            · have a4 := a3.2.2
              rw [m2, Int.toNat_natCast] at a4
              omega
          · omega
        · rcases p with p | p
          · exact mvk k hk uk p.1 w (by omega) ⟨by omega, by omega⟩
          · have ck := cm k hk ⟨uk, q0, w.1, by omega, w.2.2⟩
            omega
        · exact p.1 ⟨q0, by omega, by omega, by omega⟩
      · exact .inr ⟨q0, w⟩
theorem q_op_top {M : q_MK} {n : Nat} {F : Int} (G : q_good M n F) {k : Nat} (hk : k < n) (uk : q_us M k = 1) : ¬ q_op M 0 (F - 1) (-1) k := by
  intro q
  have v := G.1 k hk uk
  unfold q_val at v
  rcases q with q | ⟨q0, a1, a2, a3⟩
  · omega
  · omega
theorem si_comm {S : SS} {r k r' k' : Nat} {v v' : Int} (h : r ≠ r') : si (si S r k v) r' k' v' = si (si S r' k' v') r k v := by
  unfold si
  refine Prod.ext ?_ rfl
  funext a c
  show up2 (up2 S.1 r k v) r' k' v' a c = up2 (up2 S.1 r' k' v') r k v a c
  unfold up2
  by_cases e : a = r'
  · subst e
    by_cases e2 : a = r
    · exact absurd e2.symm h
    · simp [e2, h, Ne.symm h]
  · by_cases e2 : a = r
    · subst e2
      simp [e, h]
    · simp [e, e2]
theorem si_twice {S : SS} {r k : Nat} {v v' : Int} (h : gi S r k = v') : si (si S r k v) r k v' = S := by
  unfold gi at h
  unfold si
  refine Prod.ext ?_ rfl
  funext a c
  show up2 (up2 S.1 r k v) r k v' a c = S.1 a c
  unfold up2
  by_cases e : a = r
  · subst e
    by_cases e2 : c = k
    · subst e2; simp [h]
    · simp [e2]
  · simp [e]
def c_put (q : Nat) (S : SS) (w : Int64) : SS := si (sl S (q + 1) (gi S q 1).toNat w) q 1 (gi S q 1 + 1)
def c_pws (q j : Nat) : Nat → Nat → SS → SS
  | 0, _, S => S
  | c + 1, i, S => c_pws q j c (i + 1) (c_put q S (gl S (14 + 4 * j + 3) i))
def c_tok (q : Nat) (S : SS) (t : Nat) : SS := if t < 60 then c_put q S (gl S 5 t) else c_pws q (t - 60) (gi S (14 + 4 * (t - 60) + 2) 1).toNat 0 S
def c_toks (q : Nat) (S : SS) : List Nat → SS
  | [] => S
  | t :: L => c_toks q (c_tok q S t) L
theorem c_toks_append (q : Nat) (A B : List Nat) : ∀ S, c_toks q S (A ++ B) = c_toks q (c_toks q S A) B := by
  induction A with
  | nil => intro S; rfl
  | cons a A ih => intro S; exact ih (c_tok q S a)
/-- all stays but the sheet q -/
def c_fp (q : Nat) (S S1 : SS) : Prop := (∀ r k, ¬ (r = q ∧ k = 1) → gi S1 r k = gi S r k) ∧ (∀ r k, r ≠ q + 1 → gl S1 r k = gl S r k) ∧ S1.2.2 = S.2.2
theorem c_fp_refl (q : Nat) (S : SS) : c_fp q S S := ⟨fun _ _ _ => rfl, fun _ _ _ => rfl, rfl⟩
theorem c_fp_trans {q : Nat} {S S1 S2 : SS} (h : c_fp q S S1) (h2 : c_fp q S1 S2) : c_fp q S S2 := ⟨fun r k a => (h2.1 r k a).trans (h.1 r k a), fun r k a => (h2.2.1 r k a).trans (h.2.1 r k a), h2.2.2.trans h.2.2⟩
theorem c_put_fp (q : Nat) (S : SS) (w : Int64) : c_fp q S (c_put q S w) := by
  refine ⟨fun r k h => ?_, fun r k h => ?_, rfl⟩
  · unfold c_put; rw [gi_si, if_neg h]; rfl
  · show gl (sl S (q + 1) _ w) r k = _
    rw [gl_slN, if_neg (fun z => h z.1)]
theorem c_pws_fp (q j : Nat) : ∀ (c i : Nat) (S : SS), c_fp q S (c_pws q j c i S) ∧ gi (c_pws q j c i S) q 1 = gi S q 1 + (c : Int) := by
  intro c
  induction c with
  | zero => intro i S; exact ⟨c_fp_refl q S, by show gi S q 1 = gi S q 1 + 0; omega⟩
  | succ c ih =>
    intro i S
    have I := ih (i + 1) (c_put q S (gl S (14 + 4 * j + 3) i))
    refine ⟨c_fp_trans (c_put_fp q S _) I.1, ?_⟩
    show gi (c_pws q j c (i + 1) (c_put q S (gl S (14 + 4 * j + 3) i))) q 1 = _
    rw [I.2]
    have : gi (c_put q S (gl S (14 + 4 * j + 3) i)) q 1 = gi S q 1 + 1 := by unfold c_put; rw [gi_at]
    rw [this]; omega
def c_W (S : SS) (t : Nat) : Nat := if t < 60 then 1 else (gi S (14 + 4 * (t - 60) + 2) 1).toNat
theorem c_tok_fp (q : Nat) (S : SS) (t : Nat) : c_fp q S (c_tok q S t) ∧ gi (c_tok q S t) q 1 = gi S q 1 + (c_W S t : Int) := by
  unfold c_tok c_W
  by_cases e : t < 60
  · rw [if_pos e, if_pos e]
    exact ⟨c_put_fp q S _, by unfold c_put; rw [gi_at]; omega⟩
  · rw [if_neg e, if_neg e]
    exact c_pws_fp q (t - 60) _ 0 S
abbrev qok (q : Nat) : Prop := q = 8 ∨ q = 184
theorem c_W_fp {q : Nat} (hq : qok q) {S S1 : SS} (h : c_fp q S S1) {t : Nat} (ht : t < 101) : c_W S1 t = c_W S t := by
  unfold c_W
  by_cases e : t < 60
  · rw [if_pos e, if_pos e]
  · rw [if_neg e, if_neg e, h.1 _ 1 (by omega)]
theorem c_wt_fp {q : Nat} (hq : qok q) {S S1 : SS} (h : c_fp q S S1) : ∀ (L : List Nat), q_lt L → q_wt (c_W S1) L = q_wt (c_W S) L := by
  intro L
  induction L with
  | nil => intro _; rfl
  | cons t L ih => intro hL; rw [q_wt, q_wt, c_W_fp hq h (hL t List.mem_cons_self), ih (fun x hx => hL x (List.mem_cons_of_mem _ hx))]
theorem c_toks_fp {q : Nat} (hq : qok q) : ∀ (L : List Nat) (S : SS), q_lt L → c_fp q S (c_toks q S L) ∧ gi (c_toks q S L) q 1 = gi S q 1 + (q_wt (c_W S) L : Int) := by
  intro L
  induction L with
  | nil => intro S _; exact ⟨c_fp_refl q S, by show gi S q 1 = gi S q 1 + 0; omega⟩
  | cons t L ih =>
    intro S hL
    have T := c_tok_fp q S t
    have hL' : q_lt L := fun x hx => hL x (List.mem_cons_of_mem _ hx)
    have I := ih (c_tok q S t) hL'
    refine ⟨c_fp_trans T.1 I.1, ?_⟩
    show gi (c_toks q (c_tok q S t) L) q 1 = _
    rw [I.2, T.2, c_wt_fp hq T.1 L hL', q_wt]; omega
/-- the open flags and the sheet don't touch one another -/
theorem c_put_op {q : Nat} (hq : qok q) (S : SS) (w : Int64) (i : Nat) (v : Int) : c_put q (si S 180 i v) w = si (c_put q S w) 180 i v := by
  unfold c_put
  have e : gi (si S 180 i v) q 1 = gi S q 1 := gi_off (by omega)
  rw [e]
  exact si_comm (S := sl S (q + 1) (gi S q 1).toNat w) (by omega)
theorem c_pws_op {q : Nat} (hq : qok q) (j : Nat) (i : Nat) (v : Int) : ∀ (c k : Nat) (S : SS), c_pws q j c k (si S 180 i v) = si (c_pws q j c k S) 180 i v := by
  intro c
  induction c with
  | zero => intro k S; rfl
  | succ c ih =>
    intro k S
    show c_pws q j c (k + 1) (c_put q (si S 180 i v) (gl S (14 + 4 * j + 3) k)) = _
    rw [c_put_op hq, ih]
    rfl
theorem c_tok_op {q : Nat} (hq : qok q) (S : SS) (t i : Nat) (v : Int) (ht : t < 101) : c_tok q (si S 180 i v) t = si (c_tok q S t) 180 i v := by
  unfold c_tok
  by_cases e : t < 60
  · rw [if_pos e, if_pos e]; exact c_put_op hq S _ i v
  · rw [if_neg e, if_neg e]
    have e2 : gi (si S 180 i v) (14 + 4 * (t - 60) + 2) 1 = gi S (14 + 4 * (t - 60) + 2) 1 := gi_off (by omega)
    rw [e2]
    exact c_pws_op hq _ i v _ 0 S
theorem c_toks_op {q : Nat} (hq : qok q) (i : Nat) (v : Int) : ∀ (L : List Nat) (S : SS), q_lt L → c_toks q (si S 180 i v) L = si (c_toks q S L) 180 i v := by
  intro L
  induction L with
  | nil => intro S _; rfl
  | cons t L ih =>
    intro S hL
    show c_toks q (c_tok q (si S 180 i v) t) L = _
    rw [c_tok_op hq S t i v (hL t List.mem_cons_self), ih _ (fun x hx => hL x (List.mem_cons_of_mem _ hx))]
    rfl
theorem c_add {S S1 : SS} {q : Nat} {w : Int64} (h : f_Sheet_add S q w = some S1) (h0 : 0 ≤ gi S q 1) (h1 : gi S q 1 < cap q) : S1 = c_put q S w := sh_add h h0 h1
theorem c_addAll_loop {q j : Nat} (hq : qok q) (hj : j < 40) : ∀ (n c i : Nat) (S S1 : SS), f_Sheet_addAll_2 q (14 + 4 * j + 2) n S (i : Int) = some S1 → gi S (14 + 4 * j + 2) 1 = (i : Int) + (c : Int) → gi S (14 + 4 * j + 2) 1 ≤ 6 → 0 ≤ gi S q 1 → gi S q 1 + (c : Int) ≤ cap q → S1 = c_pws q j c i S := by
  intro n
  induction n with
  | zero => intro c i S S1 h; exact absurd h (by simp [f_Sheet_addAll_2])
  | succ n ih =>
    intro c i S S1 h h1 h6 h0 hc
    have h : f_Sheet_addAll_2_b q (14 + 4 * j + 2) (f_Sheet_addAll_2 q (14 + 4 * j + 2) n) S (i : Int) = some S1 := h
    unfold f_Sheet_addAll_2_b at h
    by_cases e : gi S (14 + 4 * j + 2) 1 ≤ (i : Int)
    · rw [if_pos e] at h
      have : c = 0 := by omega
      subst this
      exact (Option.some.inj h).symm
    · rw [if_neg e] at h
      obtain ⟨c, rfl⟩ : ∃ c', c = c' + 1 := ⟨c - 1, by omega⟩
      have cp : cap (14 + 4 * j + 2) = 6 := by
        unfold cap
        rw [if_neg (by omega), if_neg (by omega), if_neg (by omega), if_neg (by omega), if_neg (by omega)]
      obtain ⟨w, ew, h⟩ := w_b1E h
      obtain ⟨S4, e4, h⟩ := w_b1E h
      obtain ⟨_, h⟩ := w_chkE h
      unfold f_Sheet_wordAt at ew
      rw [if_neg (by omega), if_neg (by omega), if_pos (by omega), w_chkP (by omega), Int.toNat_natCast] at ew
      have ew := Option.some.inj ew
      rw [← ew] at e4
      have e4 := c_add e4 h0 (by omega)
      rw [show (i : Int) + 1 = ((i + 1 : Nat) : Int) by omega] at h
      have fp := c_put_fp q S (gl S (14 + 4 * j + 3) i)
      have s5 : gi (c_put q S (gl S (14 + 4 * j + 3) i)) q 1 = gi S q 1 + 1 := by unfold c_put; rw [gi_at]
      rw [e4] at h
      have z : gi (c_put q S (gl S (14 + 4 * j + 3) i)) (14 + 4 * j + 2) 1 = gi S (14 + 4 * j + 2) 1 := fp.1 _ 1 (by omega)
      exact ih c (i + 1) _ S1 h (by rw [z]; omega) (by omega) (by omega) (by omega)
theorem c_addAll {S S1 : SS} {q j : Nat} (hq : qok q) (hj : j < 40) (h : f_Sheet_addAll S q (14 + 4 * j + 2) = some S1) (h6 : 0 ≤ gi S (14 + 4 * j + 2) 1 ∧ gi S (14 + 4 * j + 2) 1 ≤ 6) (h0 : 0 ≤ gi S q 1) (hc : gi S q 1 + gi S (14 + 4 * j + 2) 1 ≤ cap q) : S1 = c_tok q S (60 + j) := by
  have := c_addAll_loop hq hj FU (gi S (14 + 4 * j + 2) 1).toNat 0 S S1 h (by omega) h6.2 h0 (by omega)
  rw [this]
  unfold c_tok
  rw [if_neg (by omega), show 60 + j - 60 = j by omega]
def cu (S : SS) (u : Nat → Int) : q_MK := fun j k => if j = 5 then u k else c_md S j k
def c_dn (u : Nat → Int) (k : Nat) : Nat := m_dn (fun k => if u k = 1 then 0 else 1) k
theorem c_dn_1 {u : Nat → Int} {k : Nat} (h : u k = 1) : c_dn u (k + 1) = c_dn u k + 1 := by unfold c_dn; rw [m_dn, if_pos (by show (if u k = 1 then (0 : Int) else 1) = 0; rw [if_pos h])]
theorem c_dn_0 {u : Nat → Int} {k : Nat} (h : u k ≠ 1) : c_dn u (k + 1) = c_dn u k := by unfold c_dn; rw [m_dn, if_neg (by show ¬ (if u k = 1 then (0 : Int) else 1) = 0; rw [if_neg h]; decide)]; rfl
theorem c_dn_lt {u : Nat → Int} {k n : Nat} (h : u k = 1) (hk : k < n) : c_dn u k < c_dn u n := m_dn_lt _ k (by show (if u k = 1 then (0 : Int) else 1) = 0; rw [if_pos h]) n hk
theorem c_dn_le (u : Nat → Int) : ∀ k, c_dn u k ≤ k := by
  intro k
  induction k with
  | zero => exact Nat.le_refl _
  | succ k ih =>
    by_cases h : u k = 1
    · rw [c_dn_1 h]; omega
    · rw [c_dn_0 h]; omega
theorem c_dn_inj {u : Nat → Int} {k o n : Nat} (hk : u k = 1) (ho : u o = 1) (e : c_dn u k = c_dn u o) : k = o := by
  by_cases c : k < o
  · have := c_dn_lt hk c; omega
  · by_cases c2 : o < k
    · have := c_dn_lt ho c2; omega
    · omega
/-- the setter's standing: marks taken, sheets set -/
def CSET (q : Nat) (S0 : SS) (u : Nat → Int) (n : Nat) (F : Int) : Prop := q_good (cu S0 u) n F ∧ n ≤ 40 ∧ 0 ≤ F ∧ F ≤ 60 ∧ gi S0 4 1 = F ∧ gi S0 178 2 = (c_dn u n : Int) ∧ (∀ k, k < n → u k = 1 → gq S0 179 (c_dn u k) = some k) ∧ gq S0 178 4 = some q ∧ gq S0 178 3 = some 4 ∧ qok q ∧ (∀ k, k < 40 → 0 ≤ gi S0 (14 + 4 * k + 2) 1 ∧ gi S0 (14 + 4 * k + 2) 1 ≤ 6)
def CT (q : Nat) (S0 S : SS) : Prop := (∀ r k, r ≠ 180 → ¬ (r = q ∧ k = 1) → gi S r k = gi S0 r k) ∧ (∀ r k, r ≠ q + 1 → gl S r k = gl S0 r k) ∧ S.2.2 = S0.2.2
def OPS (S0 S : SS) (u : Nat → Int) (n : Nat) (low high mv : Int) : Prop := ∀ k, k < n → u k = 1 → (gi S 180 (c_dn u k) = 0 ∨ gi S 180 (c_dn u k) = 1) ∧ (gi S 180 (c_dn u k) = 1 ↔ q_op (cu S0 u) low high mv k)
def c_lays (q : Nat) (S0 : SS) (u : Nat → Int) (n : Nat) (low high mv : Int) (f : SS → Option SS) (L : List Nat) : Prop := ∀ S, CT q S0 S → OPS S0 S u n low high mv → 0 ≤ gi S q 1 → gi S q 1 + (q_wt (c_W S0) L : Int) ≤ cap q → pc (f S) (fun S1 => S1 = c_toks q S L)
theorem CT_toks {q : Nat} (hq : qok q) {S0 S : SS} (h : CT q S0 S) {L : List Nat} (hL : q_lt L) : CT q S0 (c_toks q S L) ∧ gi (c_toks q S L) q 1 = gi S q 1 + (q_wt (c_W S0) L : Int) ∧ ∀ k, gi (c_toks q S L) 180 k = gi S 180 k := by
  have T := c_toks_fp hq L S hL
  have ew : q_wt (c_W S) L = q_wt (c_W S0) L := by
    have : ∀ L : List Nat, q_lt L → q_wt (c_W S) L = q_wt (c_W S0) L := by
      intro L
      induction L with
      | nil => intro _; rfl
      | cons t L ih =>
        intro hL
        have e : c_W S t = c_W S0 t := by
          unfold c_W
          have := hL t List.mem_cons_self
          by_cases e : t < 60
          · rw [if_pos e, if_pos e]
          · rw [if_neg e, if_neg e, h.1 _ 1 (by omega) (by omega)]
        rw [q_wt, q_wt, e, ih (fun x hx => hL x (List.mem_cons_of_mem _ hx))]
    exact this L hL
  refine ⟨⟨fun r k a c => (T.1.1 r k c).trans (h.1 r k a c), fun r k a => (T.1.2.1 r k a).trans (h.2.1 r k a), T.1.2.2.trans h.2.2⟩, by rw [T.2, ew], fun k => T.1.1 180 k (by omega)⟩
theorem OPS_toks {q : Nat} (hq : qok q) {S0 S : SS} {u : Nat → Int} {n : Nat} {low high mv : Int} {L : List Nat} (hL : q_lt L) (h : OPS S0 S u n low high mv) : OPS S0 (c_toks q S L) u n low high mv := by
  intro k hk uk
  have e := (c_toks_fp hq L S hL).1.1 180 (c_dn u k) (by omega)
  rw [e]; exact h k hk uk
theorem c_taken {q : Nat} {S0 S : SS} {u : Nat → Int} {n : Nat} {F : Int} (H : CSET q S0 u n F) (hT : CT q S0 S) {k : Nat} (hk : k < n) (uk : u k = 1) : f_Setter_takenAt S (c_dn u k : Int) = some (some k) ∧ (c_dn u k : Int) < gi S 178 2 := by
  obtain ⟨h1, h2, h3, h4, h5, h6, h7, h8, h9, h10, h11⟩ := H
  have e : gi S 178 2 = (c_dn u n : Int) := by rw [hT.1 178 2 (by omega) (by omega)]; exact h6
  have l := c_dn_lt uk hk
  have l2 := c_dn_le u n
  refine ⟨?_, by omega⟩
  unfold f_Setter_takenAt
  rw [if_neg (by omega), if_neg (by omega), if_pos (by omega), w_chkP (by omega)]
  show some (gq S 179 (c_dn u k : Int).toNat) = _
  rw [Int.toNat_natCast]
  have : gq S 179 (c_dn u k) = gq S0 179 (c_dn u k) := by unfold gq; rw [hT.2.2]
  rw [this, h7 k hk uk]
theorem c_isOpen {S0 S : SS} {u : Nat → Int} {n : Nat} {low high mv : Int} (hn : n ≤ 40) (hO : OPS S0 S u n low high mv) {k : Nat} (hk : k < n) (uk : u k = 1) : ∃ r, f_Setter_isOpen S (c_dn u k : Int) = some r ∧ (r = 0 ↔ ¬ q_op (cu S0 u) low high mv k) := by
  have l2 := c_dn_le u k
  have o := hO k hk uk
  unfold f_Setter_isOpen
  rw [if_neg (by omega), if_neg (by omega), w_chkP (by omega), Int.toNat_natCast]
  by_cases c : gi S 180 (c_dn u k) = 0
  · rw [if_pos c]
    exact ⟨0, rfl, fun _ q => by have := o.2.2 q; omega, fun _ => rfl⟩
  · rw [if_neg c]
    exact ⟨1, rfl, fun q => absurd q (by decide), fun q => absurd (o.2.1 (by rcases o.1 with w | w; exact absurd w c; exact w)) q⟩
theorem c_mind {S : SS} {i : Nat} {v : Int} (hi : i < 40) (hv : v = 0 ∨ v = 1) : f_Setter_mind S (i : Int) v = some (si S 180 i v) := by
  unfold f_Setter_mind
  rw [if_neg (by omega), if_neg (by omega), w_chkP hv, w_chkP (by omega), Int.toNat_natCast]
  rfl
theorem cset_gap {q : Nat} {S0 : SS} {u : Nat → Int} {n : Nat} {F low high mv g : Int} (H : CSET q S0 u n F) (R : q_reg (cu S0 u) n F low high mv) (B : q_bd (cu S0 u) n low high mv g) (hg : 0 ≤ g) (hin : ∀ k, k < n → u k = 1 → q_gp (cu S0 u) k = g → q_kd (cu S0 u) k = 1 ∨ (q_kd (cu S0 u) k = 4 ∧ q_in (cu S0 u) low high mv k)) (rk : SS → Int → Int → Int → Option SS) (rp : Int → Int → Int → List Nat) (depth : Int)
    (hrk : ∀ k, k < n → u k = 1 → q_gp (cu S0 u) k = g → q_kd (cu S0 u) k = 4 → c_lays q S0 u n (q_lo (cu S0 u) k) (q_hi (cu S0 u) k) (k : Int) (fun S => rk S (q_lo (cu S0 u) k) (q_hi (cu S0 u) k) (depth + 1)) (rp (q_lo (cu S0 u) k) (q_hi (cu S0 u) k) (k : Int)) ∧ q_lt (rp (q_lo (cu S0 u) k) (q_hi (cu S0 u) k) (k : Int))) :
    ∀ (c k n2 : Nat), k + c = n → c_lays q S0 u n low high mv (fun S => f_Setter_setGap_2 rk g depth n2 S (c_dn u k : Int)) (q_gap (cu S0 u) rp g c k) := by
  obtain ⟨G, hn, hF0, hF, h4, h6, h7, h8, h9, hq, hW⟩ := id H
  intro c
  induction c with
  | zero =>
    intro k n2 hk S hT hO h0 hc
    cases n2 with
    | zero => intro r e; exact absurd e (by simp [f_Setter_setGap_2])
    | succ n2 =>
      have e : gi S 178 2 = (c_dn u n : Int) := by rw [hT.1 178 2 (by omega) (by omega)]; exact h6
      have hk : k = n := by omega
      show pc (f_Setter_setGap_2_b rk g depth (f_Setter_setGap_2 rk g depth n2) S (c_dn u k : Int)) _
      unfold f_Setter_setGap_2_b
      rw [if_pos (by rw [e, hk]; exact Int.le_refl _)]
      exact pc_some rfl
  | succ c ih =>
    intro k n2 hk S hT hO h0 hc
    by_cases uk : u k = 1
    · cases n2 with
      | zero => intro r e; exact absurd e (by simp [f_Setter_setGap_2])
      | succ n2 =>
        have tk := c_taken H hT (show k < n by omega) uk
        have l40 : c_dn u k < 40 := by have := c_dn_le u k; omega
        have us1 : q_us (cu S0 u) k = 1 := uk
        have next : ∀ S', CT q S0 S' → OPS S0 S' u n low high mv → 0 ≤ gi S' q 1 → gi S' q 1 + (q_wt (c_W S0) (q_gap (cu S0 u) rp g c (k + 1)) : Int) ≤ cap q → pc (f_Setter_setGap_95 rk g depth (f_Setter_setGap_2 rk g depth n2) S' (c_dn u k : Int)) (fun S1 => S1 = c_toks q S' (q_gap (cu S0 u) rp g c (k + 1))) := by
          intro S' a b d e
          unfold f_Setter_setGap_95
          refine pc_chk (fun _ => ?_)
          rw [show (c_dn u k : Int) + 1 = ((c_dn u (k + 1) : Nat) : Int) by rw [c_dn_1 uk]; omega]
          exact ih (k + 1) n2 (by omega) S' a b d e
        have eg : gi S (14 + 4 * k) 6 = q_gp (cu S0 u) k := hT.1 _ 6 (by omega) (by omega)
        have ek : gi S (14 + 4 * k) 2 = q_kd (cu S0 u) k := hT.1 _ 2 (by omega) (by omega)
        have hk40 : k < 40 := by omega
        have code : ∀ L, (if q_gp (cu S0 u) k = g then w_b1 (f_Setter_isOpen S (c_dn u k : Int)) (fun r6_z => (if r6_z = 0 then (if q_kd (cu S0 u) k = 1 then w_on (gq S 178 4) none (fun q18_z => w_chk (shOk q18_z) (w_b1 (f_Sheet_addAll S q18_z (14 + 4 * k + 2)) (fun S19_z => f_Setter_setGap_95 rk g depth (f_Setter_setGap_2 rk g depth n2) S19_z (c_dn u k : Int)))) else w_b1 (f_Setter_mind S (c_dn u k : Int) 1) (fun S9_z => w_chk (i32 (depth + 1)) (w_b1 (rk S9_z (gi S9_z (14 + 4 * k) 4) (gi S9_z (14 + 4 * k) 5) (depth + 1)) (fun S14_z => w_b1 (f_Setter_mind S14_z (c_dn u k : Int) 0) (fun S16_z => f_Setter_setGap_95 rk g depth (f_Setter_setGap_2 rk g depth n2) S16_z (c_dn u k : Int)))))) else f_Setter_setGap_95 rk g depth (f_Setter_setGap_2 rk g depth n2) S (c_dn u k : Int))) else f_Setter_setGap_95 rk g depth (f_Setter_setGap_2 rk g depth n2) S (c_dn u k : Int)) = L → pc L (fun S1 => S1 = c_toks q S (q_gap (cu S0 u) rp g (c + 1) k)) → pc (f_Setter_setGap_2 rk g depth (n2 + 1) S (c_dn u k : Int)) (fun S1 => S1 = c_toks q S (q_gap (cu S0 u) rp g (c + 1) k)) := by
          intro L eL hL
          rw [← eL, ← eg, ← ek] at hL
          show pc (f_Setter_setGap_2_b rk g depth (f_Setter_setGap_2 rk g depth n2) S (c_dn u k : Int)) _
          unfold f_Setter_setGap_2_b
          rw [if_neg (show ¬ gi S 178 2 ≤ (c_dn u k : Int) by omega), w_b1_is tk.1]
          show pc (w_chk (k < 40) _) _
          exact pc_chk (fun _ => hL)
        by_cases cg : q_gp (cu S0 u) k = g
        · refine code _ (if_pos cg) ?_
          have no : ¬ q_op (cu S0 u) low high mv k := by
            rcases hin k (by omega) uk cg with w | w
            · intro z
              rcases z with z | z
              · exact q_mv_turn R (by rw [w]; decide) z
              · exact z.1 w
            · exact q_op_in G R (by omega) us1 (by rw [w.1]; decide) w.2
          obtain ⟨r6, e6, h6'⟩ := c_isOpen hn hO (show k < n by omega) uk
          rw [w_b1_is e6, if_pos (h6'.2 no)]
          by_cases c1 : q_kd (cu S0 u) k = 1
          · rw [if_pos c1]
            have eL : q_gap (cu S0 u) rp g (c + 1) k = [60 + k] ++ q_gap (cu S0 u) rp g c (k + 1) := by
              rw [q_gap, if_pos (show q_us (cu S0 u) k = 1 ∧ q_gp (cu S0 u) k = g from ⟨us1, cg⟩), if_pos c1]
            rw [eL, q_wt_append] at hc
            rw [eL]
            have gq4 : gq S 178 4 = some q := by unfold gq; rw [hT.2.2]; exact h8
            rw [gq4]
            show pc (w_chk (shOk q) _) _
            refine pc_chk (fun _ => ?_)
            have ew : gi S (14 + 4 * k + 2) 1 = gi S0 (14 + 4 * k + 2) 1 := hT.1 _ 1 (by omega) (by omega)
            have w1 : q_wt (c_W S0) [60 + k] = (gi S0 (14 + 4 * k + 2) 1).toNat := by
              show c_W S0 (60 + k) + 0 = _
              unfold c_W
              rw [if_neg (by omega), show 60 + k - 60 = k by omega]; rfl
            have wk := hW k hk40
            have l1 : q_lt [60 + k] := fun t ht => by simp at ht; omega
            have X := CT_toks hq hT l1
            have X2 := OPS_toks hq l1 hO
            refine pc_b1 (R := fun S1 => S1 = c_toks q S [60 + k]) (fun S1 e1 => ?_) (fun S19 h19 => ?_)
            · exact c_addAll hq hk40 e1 (by rw [ew]; exact wk) h0 (by rw [ew]; omega)
            · rw [h19, c_toks_append]
              exact next _ X.1 X2 (by omega) (by omega)
          · rw [if_neg c1]
            have eL : q_gap (cu S0 u) rp g (c + 1) k = rp (q_lo (cu S0 u) k) (q_hi (cu S0 u) k) (k : Int) ++ q_gap (cu S0 u) rp g c (k + 1) := by
              rw [q_gap, if_pos (show q_us (cu S0 u) k = 1 ∧ q_gp (cu S0 u) k = g from ⟨us1, cg⟩), if_neg c1]
            rw [eL, q_wt_append] at hc
            rw [eL]
            have k4 : q_kd (cu S0 u) k = 4 := by
              rcases hin k (by omega) uk cg with w | w
              · exact absurd w c1
              · exact w.1
            have ik : q_in (cu S0 u) low high mv k := by
              rcases hin k (by omega) uk cg with w | w
              · exact absurd w c1
              · exact w.2
            obtain ⟨hl, hlt⟩ := hrk k (by omega) uk cg k4
            have f0 : gi S 180 (c_dn u k) = 0 := by
              have o := hO k (by omega) uk
              rcases o.1 with w | w
              · exact w
              · exact absurd (o.2.1 w) no
            rw [w_b1_is (c_mind l40 (.inr rfl))]
            have T9 : CT q S0 (si S 180 (c_dn u k) 1) := ⟨fun r i a d => by rw [gi_off (by omega)]; exact hT.1 r i a d, hT.2.1, hT.2.2⟩
            have O9 : OPS S0 (si S 180 (c_dn u k) 1) u n (q_lo (cu S0 u) k) (q_hi (cu S0 u) k) (k : Int) := by
              intro o ho uo
              by_cases e : o = k
              · rw [e, gi_at]
                exact ⟨.inr rfl, fun _ => .inl rfl, fun _ => rfl⟩
              · have ne : c_dn u o ≠ c_dn u k := fun w => e (c_dn_inj (n := n) uo uk w)
                rw [gi_off (by omega)]
                have w := hO o ho uo
                rw [← q_op_move G R (show k < n by omega) us1 k4 ik (by rw [cg]; exact B) ho uo e]
                exact w
            have eq9 : gi (si S 180 (c_dn u k) 1) q 1 = gi S q 1 := gi_off (by omega)
            refine pc_chk (fun _ => ?_)
            have el : gi (si S 180 (c_dn u k) 1) (14 + 4 * k) 4 = q_lo (cu S0 u) k := T9.1 _ 4 (by omega) (by omega)
            have eh : gi (si S 180 (c_dn u k) 1) (14 + 4 * k) 5 = q_hi (cu S0 u) k := T9.1 _ 5 (by omega) (by omega)
            rw [el, eh]
            refine pc_b1 (hl _ T9 O9 (by omega) (by omega)) (fun S14 h14 => ?_)
            rw [w_b1_is (c_mind l40 (.inl rfl))]
            have back : si S14 180 (c_dn u k) 0 = c_toks q S (rp (q_lo (cu S0 u) k) (q_hi (cu S0 u) k) (k : Int)) := by
              rw [h14, c_toks_op hq _ _ _ _ hlt]
              exact si_twice (by rw [(c_toks_fp hq _ S hlt).1.1 180 _ (by omega)]; exact f0)
            rw [back, c_toks_append]
            have X := CT_toks hq hT hlt
            exact next _ X.1 (OPS_toks hq hlt hO) (by omega) (by omega)
        · refine code _ (if_neg cg) ?_
          have eL : q_gap (cu S0 u) rp g (c + 1) k = q_gap (cu S0 u) rp g c (k + 1) := by
            rw [q_gap, if_neg (show ¬ (q_us (cu S0 u) k = 1 ∧ q_gp (cu S0 u) k = g) from fun w => cg w.2), List.nil_append]
          rw [eL] at hc ⊢
          exact next S hT hO h0 hc
    · have e : q_gap (cu S0 u) rp g (c + 1) k = q_gap (cu S0 u) rp g c (k + 1) := by
        rw [q_gap, if_neg (show ¬ (q_us (cu S0 u) k = 1 ∧ q_gp (cu S0 u) k = g) from fun w => uk w.1), List.nil_append]
      rw [e] at hc ⊢
      have := ih (k + 1) n2 (by omega) S hT hO h0 hc
      rw [c_dn_0 uk] at this
      exact this
/-- what outermostAt has found among the marks below k -/
def c_bst (M : q_MK) (u : Nat → Int) (high mv i : Int) (k : Nat) (best far : Int) : Prop := (q_om M high mv i k = -1 ∧ best = -1 ∧ far = -1) ∨ (∃ m, m < k ∧ u m = 1 ∧ q_om M high mv i k = (m : Int) ∧ best = (c_dn u m : Int) ∧ far = q_hi M m)
theorem cset_om {q : Nat} {S0 S : SS} {u : Nat → Int} {n : Nat} {F low high mv i : Int} (H : CSET q S0 u n F) (R : q_reg (cu S0 u) n F low high mv) (hl : low ≤ i) (hh : i ≤ high) (hT : CT q S0 S) (hO : OPS S0 S u n low high mv) : ∀ (c k n2 : Nat) (best far : Int), k + c = n → c_bst (cu S0 u) u high mv i k best far → pc (f_Setter_outermostAt_7 S i n2 best far (c_dn u k : Int)) (fun r => (q_om (cu S0 u) high mv i n = -1 ∧ r = -1) ∨ (∃ m, m < n ∧ u m = 1 ∧ q_om (cu S0 u) high mv i n = (m : Int) ∧ r = (c_dn u m : Int))) := by
  obtain ⟨G, hn, hF0, hF, h4, h6, h7, h8, h9, hq, hW⟩ := id H
  intro c
  induction c with
  | zero =>
    intro k n2 best far hk hb
    cases n2 with
    | zero => intro r e; exact absurd e (by simp [f_Setter_outermostAt_7])
    | succ n2 =>
      have e : gi S 178 2 = (c_dn u n : Int) := by rw [hT.1 178 2 (by omega) (by omega)]; exact h6
      have hk : k = n := by omega
      subst hk
      show pc (f_Setter_outermostAt_7_b S i (f_Setter_outermostAt_7 S i n2) best far (c_dn u k : Int)) _
      unfold f_Setter_outermostAt_7_b
      rw [if_pos (by rw [e]; exact Int.le_refl _)]
      refine pc_some ?_
      rcases hb with w | ⟨m, m1, m2, m3, m4, m5⟩
      · exact .inl ⟨w.1, w.2.1⟩
      · exact .inr ⟨m, m1, m2, m3, m4⟩
  | succ c ih =>
    intro k n2 best far hk hb
    have us : q_us (cu S0 u) k = u k := rfl
    by_cases uk : u k = 1
    · cases n2 with
      | zero => intro r e; exact absurd e (by simp [f_Setter_outermostAt_7])
      | succ n2 =>
        have tk := c_taken H hT (show k < n by omega) uk
        have vk := G.1 k (by omega) uk
        unfold q_val at vk
        have cd := q_op_cand G R hl hh (show k < n by omega) uk
        have ek : gi S (14 + 4 * k) 2 = q_kd (cu S0 u) k := hT.1 _ 2 (by omega) (by omega)
        have el : gi S (14 + 4 * k) 4 = q_lo (cu S0 u) k := hT.1 _ 4 (by omega) (by omega)
        have eh : gi S (14 + 4 * k) 5 = q_hi (cu S0 u) k := hT.1 _ 5 (by omega) (by omega)
        have go : ∀ best' far', c_bst (cu S0 u) u high mv i (k + 1) best' far' → pc (f_Setter_outermostAt_95 S i (f_Setter_outermostAt_7 S i n2) best' far' (c_dn u k : Int)) (fun r => (q_om (cu S0 u) high mv i n = -1 ∧ r = -1) ∨ (∃ m, m < n ∧ u m = 1 ∧ q_om (cu S0 u) high mv i n = (m : Int) ∧ r = (c_dn u m : Int))) := by
          intro best' far' h'
          unfold f_Setter_outermostAt_95
          refine pc_chk (fun _ => ?_)
          rw [show (c_dn u k : Int) + 1 = ((c_dn u (k + 1) : Nat) : Int) by rw [c_dn_1 uk]; omega]
          exact ih (k + 1) n2 best' far' (by omega) h'
        have keep : ¬ (q_cand (cu S0 u) high mv i k ∧ (q_om (cu S0 u) high mv i k = -1 ∨ q_hi (cu S0 u) (q_om (cu S0 u) high mv i k).toNat < q_hi (cu S0 u) k ∨ (q_hi (cu S0 u) (q_om (cu S0 u) high mv i k).toNat = q_hi (cu S0 u) k ∧ q_kd (cu S0 u) k = 4))) → c_bst (cu S0 u) u high mv i (k + 1) best far := by
          intro hno
          unfold c_bst
          rw [q_om_succ, if_neg hno]
          rcases hb with w | ⟨m, m1, m2, m3, m4, m5⟩
          · exact .inl w
          · exact .inr ⟨m, by omega, m2, m3, m4, m5⟩
        have take : (q_cand (cu S0 u) high mv i k ∧ (q_om (cu S0 u) high mv i k = -1 ∨ q_hi (cu S0 u) (q_om (cu S0 u) high mv i k).toNat < q_hi (cu S0 u) k ∨ (q_hi (cu S0 u) (q_om (cu S0 u) high mv i k).toNat = q_hi (cu S0 u) k ∧ q_kd (cu S0 u) k = 4))) → c_bst (cu S0 u) u high mv i (k + 1) (c_dn u k : Int) (q_hi (cu S0 u) k) := by
          intro hyes
          unfold c_bst
          rw [q_om_succ, if_pos hyes]
          exact .inr ⟨k, by omega, uk, rfl, rfl, rfl⟩
        show pc (f_Setter_outermostAt_7_b S i (f_Setter_outermostAt_7 S i n2) best far (c_dn u k : Int)) _
        unfold f_Setter_outermostAt_7_b
        rw [if_neg (by omega), w_b1_is tk.1]
        show pc (w_chk (k < 40) _) _
        refine pc_chk (fun _ => ?_)
        obtain ⟨r5, e5, h5⟩ := c_isOpen hn hO (show k < n by omega) uk
        rw [w_b1_is e5, ek, el, eh]
        refine pc_if (fun c1 => pc_if (fun c2 => go _ _ (keep (fun w => w.1.2.1 c2))) (fun c2 => pc_if (fun c3 => ?_) (fun c3 => go _ _ (keep (fun w => c3 w.1.2.2.2.1))))) (fun c1 => go _ _ (keep (fun w => c1 (h5.2 (cd.2 w.1).1))))
        have cn : q_cand (cu S0 u) high mv i k := cd.1 ⟨h5.1 c1, c2, c3⟩
        have fr0 : (q_om (cu S0 u) high mv i k = -1 ∧ far = -1) ∨ (q_om (cu S0 u) high mv i k ≠ -1 ∧ far = q_hi (cu S0 u) (q_om (cu S0 u) high mv i k).toNat) := by
          rcases hb with w | ⟨m, m1, m2, m3, m4, m5⟩
          · exact .inl ⟨w.1, w.2.2⟩
          · right
            rw [m3, Int.toNat_natCast]
            exact ⟨by omega, m5⟩
        unfold f_Setter_outermostAt_86
        rw [eh]
        refine pc_if (fun c4 => go _ _ (take ⟨cn, ?_⟩)) (fun c4 => pc_if (fun c5 => pc_if (fun c6 => go _ _ (take ⟨cn, ?_⟩)) (fun c6 => go _ _ (keep (fun w => ?_)))) (fun c5 => go _ _ (keep (fun w => ?_))))
        · rcases fr0 with w | w
          · exact .inl w.1
          · exact .inr (.inl (by omega))
        · rcases fr0 with w | w
          · exact .inl w.1
          · exact .inr (.inr ⟨by omega, c6⟩)
        · rcases fr0 with z | z
          · omega
          · rcases w.2 with y | y | y
            · exact z.1 y
            · omega
            · exact c6 y.2
        · rcases fr0 with z | z
          · omega
          · rcases w.2 with y | y | y
            · exact z.1 y
            · omega
            · omega
    · have hb' : c_bst (cu S0 u) u high mv i (k + 1) best far := by
        unfold c_bst
        rw [q_om_succ, if_neg (fun w => uk w.1.1)]
        rcases hb with w | ⟨m, m1, m2, m3, m4, m5⟩
        · exact .inl w
        · exact .inr ⟨m, by omega, m2, m3, m4, m5⟩
      have := ih (k + 1) n2 best far (by omega) hb'
      rw [c_dn_0 uk] at this
      exact this
