theorem MK_keep {S T S1 T1 : SS} {k : Nat} (h : MK S T k) (hs : ∀ r j, (r = 14 + 4 * k ∧ ((2 ≤ j ∧ j ≤ 6) ∨ j = 9)) ∨ r = 14 + 4 * k + 1 ∨ (r = 14 + 4 * k + 2 ∧ j = 1) → gi S1 r j = gi S r j) (ht : ∀ r, (199 ≤ r ∧ r ≤ 204) ∨ r = 208 → gi T1 r k = gi T r k) (gs : ∀ j, gl S1 (14 + 4 * k + 2 + 1) j = gl S (14 + 4 * k + 2 + 1) j) (gt : ∀ j, j < 6 → gl T1 206 (6 * k + j) = gl T 206 (6 * k + j)) : MK S1 T1 k := by
  obtain ⟨a1, a2, a3, a4, a5, a6, a7, a8⟩ := h
  refine ⟨?_, ?_, ?_, ?_, ?_, ?_, ?_, ?_⟩
  · rw [hs _ 2 (by omega), ht 199 (by omega)]; exact a1
  · rw [hs _ 3 (by omega), ht 200 (by omega)]; exact a2
  · rw [hs _ 0 (by omega), ht 201 (by omega)]; exact a3
  · rw [hs _ 1 (by omega), ht 202 (by omega)]; exact a4
  · rw [hs _ 2 (by omega), ht 203 (by omega)]; exact a5
  · unfold WL at a6 ⊢
    rw [hs _ 1 (by omega), ht 204 (by omega)]
    exact ⟨a6.1, a6.2.1, a6.2.2.1, fun j hj => by rw [gs, gt j (by omega)]; exact a6.2.2.2 j hj⟩
  · unfold PLC at a7 ⊢
    rw [hs (14 + 4 * k) 4 (by omega), hs (14 + 4 * k) 5 (by omega), hs (14 + 4 * k) 6 (by omega), hs (14 + 4 * k) 2 (by omega), hs (14 + 4 * k + 1) 0 (by omega), hs (14 + 4 * k + 1) 1 (by omega), hs (14 + 4 * k + 1) 2 (by omega)]
    exact a7
  · rw [hs _ 9 (by omega), ht 208 (by omega)]; exact a8
/-- what a text of marks may change, from mark n on -/
abbrev XRC (n r k : Nat) : Prop := r = 3 ∨ (r = 177 ∧ 4 ≤ k) ∨ (r = 10 ∧ k = 4) ∨ (14 + 4 * n ≤ r ∧ r ≤ 176)
abbrev XRR (n r k : Nat) : Prop := (r = 192 ∧ ((10 ≤ k ∧ k ≤ 15) ∨ k = 27)) ∨ (199 ≤ r ∧ r ≤ 208 ∧ n ≤ k)
def LNC (n : Nat) (S S1 : SS) : Prop := ∀ r k, (r < 14 + 4 * n ∨ 178 ≤ r) → gl S1 r k = gl S r k
def LNR (n : Nat) (T T1 : SS) : Prop := ∀ r k, ¬ (r = 206 ∧ 6 * n ≤ k) → gl T1 r k = gl T r k
/-- a text of marks: both fault alike, or both have them -/
def RQ (S T : SS) (n0 m : Nat) (r : Int) (S' : SS) (t : Int) (T1 : SS) : Prop :=
  FE S' T1 ∧ fr (XRC m) S S' ∧ fr (XRR m) T T1 ∧ LNC m S S' ∧ LNR m T T1 ∧
  ((r = 0 ∧ t = -1 ∧ gi T1 192 27 = (n0 : Int)) ∨ (∃ m' : Nat, m ≤ m' ∧ m' ≤ 40 ∧ r = 1 ∧ t = (m' : Int) - (n0 : Int) ∧ gi S' 10 4 = (m' : Int) - (n0 : Int) ∧ gi T1 192 27 = (m' : Int) ∧ (∀ k, n0 ≤ k → k < m' → MK S' T1 k) ∧ ∀ k, n0 ≤ k → k < m' → MF S' T1 k))
theorem rm_sim (v3 : Int) (n0 : Nat) : ∀ (n1 n2 m : Nat) (S T : SS) (v r : Int) (S' : SS) (t : Int) (T1 : SS), n0 ≤ m → m ≤ 40 → v = (m : Int) - (n0 : Int) → CX (m + 2) S → MX 1 T → BF S T → AH S T → gi S 177 3 = gi T 192 3 → gi S 10 3 = (n0 : Int) → gi T 192 27 = (n0 : Int) → FE S T → (∀ k, k < m → gi S (14 + 4 * k) 2 = gi T 199 k) → (∀ k, n0 ≤ k → k < m → MK S T k) → (∀ k, n0 ≤ k → k < m → MF S T k) → f_MarkReader_readMarks_44 v3 n1 S v = some (r, S') → f_M_marks_13 n2 T (m : Int) = some (t, T1) → RQ S T n0 m r S' t T1 := by
  intro n1
  induction n1 with
  | zero => intro n2 m S T v r S' t T1 _ _ _ _ _ _ _ _ _ _ _ _ _ _ h1; exact absurd h1 (by simp [f_MarkReader_readMarks_44])
  | succ n1 ih =>
    intro n2 m S T v r S' t T1 hn hm hv hC hM hB hA hF h3 h27 hE hkk hK hMF h1 h2
    cases n2 with
    | zero => exact absurd h2 (by simp [f_M_marks_13])
    | succ n2 =>
      have h1 : f_MarkReader_readMarks_44_b v3 (f_MarkReader_readMarks_44 v3 n1) S v = some (r, S') := h1
      have h2 : f_M_marks_13_b (f_M_marks_13 n2) T (m : Int) = some (t, T1) := h2
      unfold f_MarkReader_readMarks_44_b at h1
      unfold f_M_marks_13_b at h2
      rw [if_neg (by omega)] at h1
      obtain ⟨S1, e1, h1⟩ := w_b1E h1
      obtain ⟨K1, g1⟩ := AH_read hB hA e1
      have l1 := lq_token S S1 e1
      have C1 : CX (m + 2) S1 := (ok_true (ok_MarkReader_readToken S hC (by omega)) S1 e1).1
      have B1 : BF S1 T := BF_keep hB (fun k => ⟨g1.1 1 1 (by omega), g1.1 2 k (by omega)⟩) (fun _ => ⟨rfl, rfl⟩)
      obtain ⟨_, h1⟩ := w_chkE h1
      have e11 : gi S1 1 1 = gi T 192 9 := B1.1
      have sm := (hC.2.2.2.2.2 (by omega)).2
      have M1 : ∀ k, n0 ≤ k → k < m → MK S1 T k := fun k hk0 hk => MK_keep (hK k hk0 hk) (fun r j a => g1.1 r j (by omega)) (fun _ _ => rfl) (fun j => gl_2 l1 _ j) (fun _ _ => rfl)
      have F1 : ∀ k, n0 ≤ k → k < m → MF S1 T k := fun k a b => by
        have := hMF k a b
        unfold MF at this ⊢
        rw [g1.1 (14 + 4 * k) 7 (by omega), g1.1 (14 + 4 * k) 8 (by omega)]; exact this
      have E1 : FE S1 T := by
        unfold FE at hE ⊢
        rw [g1.1 3 0 (by omega), g1.1 3 1 (by omega)]; exact hE
      by_cases c : gi T 192 10 = gi T 192 9
      · -- the text's end
        have hd := K1.2.2.2.2.2.2.2.1 c
        rw [if_pos hd] at h2
        obtain ⟨_, h2⟩ := w_chkE h2
        have h2 := w_ltX h2
        rw [if_neg (by rw [K1.1, e11]; omega)] at h1
        cases h1
        cases h2
        have gT : ∀ r k, ¬ (r = 192 ∧ k = 27) → gi (si T 192 27 (m : Int)) r k = gi T r k := fun r k a => gi_off a
        refine ⟨?_, fun r k a => g1.1 r k (by omega), fun r k a => gT r k (by omega), fun r k _ => gl_2 l1 r k, fun r k _ => rfl, .inr ⟨m, Nat.le_refl _, hm, rfl, by rw [h27], ?_, gi_at _ _ _ _, fun k hk0 hk => MK_keep (M1 k hk0 hk) (fun _ _ _ => rfl) (fun r a => gT r k (by omega)) (fun _ => rfl) (fun _ _ => rfl), fun k a b => ?_⟩⟩
        · unfold FE at E1 ⊢
          rw [gT 192 14 (by omega), gT 192 15 (by omega)]; exact E1
        · rw [g1.1 10 4 (by omega)]; omega
        · have := F1 k a b
          unfold MF at this ⊢
          rw [gT 207 k (by omega), gT 205 k (by omega)]; exact this
      · have lt : gi T 192 10 < gi T 192 9 := by have := K1.2.2.2.1; have := K1.2.2.2.2.1; omega
        have hd : gi T 192 12 ≠ 0 := by
          obtain ⟨x1, x2, x3⟩ := K1.2.2.2.2.2.2.2.2 lt
          have cl : t_cls (mby_ T (gi T 192 10)) = 1 ∨ t_cls (mby_ T (gi T 192 10)) = 2 ∨ t_cls (mby_ T (gi T 192 10)) = 0 := by
            unfold t_cls
            repeat' split
            all_goals omega
          rcases cl with w | w | w
          · have := x1 w; omega
          · rcases (x2 w).1 with z | z <;> omega
          · rcases x3 w with z | z <;> omega
        rw [if_neg hd] at h2
        rw [if_pos (by rw [K1.1, e11]; omega)] at h1
        obtain ⟨rl, S5, e5, h1⟩ := w_b2E h1
        have F3 : gi S1 177 3 = gi T 192 3 := by rw [g1.1 177 3 (by omega)]; exact hF
        have ln : ∀ (o : Option Unit) (T6 : SS), f_M_readLine T (m : Int) = some (o, T6) → LQ S1 T m rl S5 o T6 := fun o T6 e6 => rl_sim hm C1 hM B1 K1 F3 (fun k hk => by rw [g1.1 (14 + 4 * k) 2 (by omega)]; exact hkk k hk) e5 e6
        rcases w_b3E h2 with ⟨u, T6, e6, h2⟩ | ⟨T6, e6, h2⟩
        · obtain ⟨L, y1, y2, y3, y4⟩ := ln _ _ e6
          rcases L with ⟨_, q, _⟩ | ⟨q1, _, q3, q4, q5, q6⟩
          · cases q
          · rw [if_neg (by omega)] at h1
            obtain ⟨_, h1⟩ := w_chkE h1
            obtain ⟨_, h1⟩ := w_chkE h1
            have h1 := w_ltX h1
            obtain ⟨_, h1⟩ := w_chkE h1
            obtain ⟨_, h2⟩ := w_chkE h2
            have C5 : CX (m + 2) S5 := (ok_true (ok_MarkReader_readLine S1 C1 (by omega)) _ e5).1
            have s5 := C5.2.2.2.2.2 (by omega)
            have c10 : gi S5 10 3 = (n0 : Int) := by rw [y1 10 3 (by omega), g1.1 10 3 (by omega)]; exact h3
            have gS : ∀ r k, ¬ (r = 10 ∧ k = 4) → gi (si S5 10 4 (gi S5 10 4 + 1)) r k = gi S5 r k := fun r k a => gi_off a
            have s4 : gi (si S5 10 4 (gi S5 10 4 + 1)) 10 4 = gi S5 10 4 + 1 := gi_at _ _ _ _
            have CC : CX (m + 1 + 2) (si S5 10 4 (gi S5 10 4 + 1)) := by
              refine CX.two (CX.set (CX.weak C5) ?_ ?_ (.inl (by decide))) s5.1 (by rw [s4, gS 10 3 (by omega)]; omega)
              · show (0 : Int) ≤ _
                omega
              · show _ ≤ (40 : Int)
                omega
            have lS : (si S5 10 4 (gi S5 10 4 + 1)).2 = S5.2 := rfl
            generalize si S5 10 4 (gi S5 10 4 + 1) = S6 at h1 gS s4 CC lS
            have M6 : MX 1 T6 := (ok_true (ok_M_readLine T (m : Int) hM (by omega)) _ e6).1
            have nofl := fl_line e5 (by omega)
            have nofm := fl_mline e6
            rw [show (m : Int) + 1 = ((m + 1 : Nat) : Int) by omega] at h2
            have R := ih n2 (m + 1) S6 T6 (v + 1) r S' t T1 (by omega) (by omega) (by omega) CC M6 (BF_keep B1 (fun k => ⟨by rw [gS 1 1 (by omega)]; exact y1 1 1 (by omega), by rw [gS 2 k (by omega)]; exact y1 2 k (by omega)⟩) (fun k => ⟨y2 192 9 (by omega), y2 197 k (by omega)⟩)) (by unfold AH at q4 ⊢; rw [gS 177 4 (by omega)]; exact q4) (by rw [gS 177 3 (by omega), y1 177 3 (by omega), y2 192 3 (by omega)]; exact F3) (by rw [gS 10 3 (by omega)]; exact c10) (by rw [y2 192 27 (by omega)]; exact h27) ?_ (fun k hk => ?_) (fun k hk0 hk => ?_) (fun k a b => ?_) h1 h2
            · obtain ⟨z1, z2, z3, z4, z5, z6⟩ := R
              refine ⟨z1, fun r k a => ?_, fun r k a => ?_, fun r k a => ?_, fun r k a => ?_, ?_⟩
              · rw [z2 r k (by omega), gS r k (by omega), y1 r k (by omega)]; exact g1.1 r k (by omega)
              · rw [z3 r k (by omega)]; exact y2 r k (by omega)
              · rw [z4 r k (by omega), gl_2 lS, y3 r k (by omega)]; exact gl_2 l1 r k
              · rw [z5 r k (by omega)]; exact y4 r k (by omega)
              · rcases z6 with q | ⟨m', w1, w2⟩
                · exact .inl q
                · exact .inr ⟨m', by omega, w2⟩
            · unfold FE at E1 ⊢
              rw [gS 3 0 (by omega), gS 3 1 (by omega), nofl 0, nofl 1, nofm.1, nofm.2]; exact E1
            · by_cases e : k = m
              · rw [e, gS (14 + 4 * m) 2 (by omega)]; exact q5.1
              · rw [gS (14 + 4 * k) 2 (by omega), y1 (14 + 4 * k) 2 (by omega), y2 199 k (by omega), g1.1 (14 + 4 * k) 2 (by omega)]; exact hkk k (by omega)
            · by_cases e : k = m
              · rw [e]; exact MK_keep q5 (fun r j a => gS r j (by omega)) (fun _ _ => rfl) (fun _ => gl_2 lS _ _) (fun _ _ => rfl)
              · exact MK_keep (M1 k hk0 (by omega)) (fun r j a => by rw [gS r j (by omega)]; exact y1 r j (by omega)) (fun r a => y2 r k (by omega)) (fun j => by rw [gl_2 lS]; exact y3 _ j (by omega)) (fun j hj => y4 _ _ (by omega))
            · by_cases e : k = m
              · rw [e]
                unfold MF at q6 ⊢
                rw [gS (14 + 4 * m) 7 (by omega), gS (14 + 4 * m) 8 (by omega)]; exact q6
              · have := F1 k a (by omega)
                unfold MF at this ⊢
                rw [gS (14 + 4 * k) 7 (by omega), gS (14 + 4 * k) 8 (by omega), y1 (14 + 4 * k) 7 (by omega), y1 (14 + 4 * k) 8 (by omega), y2 207 k (by omega), y2 205 k (by omega)]; exact this
        · obtain ⟨L, y1, y2, y3, y4⟩ := ln _ _ e6
          rcases L with ⟨q1, _, q3⟩ | ⟨_, q, _⟩
          · rw [if_pos q1] at h1
            cases h1
            cases h2
            refine ⟨q3, fun r k a => ?_, fun r k a => y2 r k (by omega), fun r k a => ?_, fun r k a => y4 r k (by omega), .inl ⟨rfl, rfl, by rw [y2 192 27 (by omega)]; exact h27⟩⟩
            · rw [y1 r k (by omega)]; exact g1.1 r k (by omega)
            · rw [y3 r k (by omega)]; exact gl_2 l1 r k
          · cases q
