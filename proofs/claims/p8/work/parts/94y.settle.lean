theorem lq_listDone (S0 : SS) : ∀ (n : Nat) (S : SS) (v : Int), S.2 = S0.2 → pc (f_Pile_listDone_7 n S v) (fun S1 => S1.2 = S0.2) := by
  intro n
  induction n with
  | zero => intro S v _ r e; exact absurd e (by simp [f_Pile_listDone_7])
  | succ n ih =>
    intro S v h
    show pc (f_Pile_listDone_7_b (f_Pile_listDone_7 n) S v) _
    unfold f_Pile_listDone_7_b
    repeat' first | with_reducible exact ih _ _ (by assumption) | with_reducible exact pc_some (by assumption) | unfold f_Pile_listDone_64 | with_reducible refine pc_chk (fun _ => ?_) | with_reducible refine pc_if (fun _ => ?_) (fun _ => ?_) | with_reducible refine pc_on ?_ (fun _ _ => ?_) | with_reducible refine lq_lt (by assumption) (fun _ _ => ?_) | with_reducible refine pf_b1 (fun _ => ?_)
theorem lq_d49 (S0 : SS) (kf : SS → Int → Option SS) (hk : ∀ S v, S.2 = S0.2 → pc (kf S v) (fun S1 => S1.2 = S0.2)) : ∀ (n : Nat) (S : SS) (a b : Int), S.2 = S0.2 → pc (f_Pile_decide_49 kf n S a b) (fun S1 => S1.2 = S0.2) := by
  intro n
  induction n with
  | zero => intro S a b _ r e; exact absurd e (by simp [f_Pile_decide_49])
  | succ n ih =>
    intro S a b h
    show pc (f_Pile_decide_49_b kf (f_Pile_decide_49 kf n) S a b) _
    unfold f_Pile_decide_49_b
    repeat' first | with_reducible exact ih _ _ _ (by assumption) | with_reducible exact hk _ _ (by assumption) | unfold f_Pile_decide_109 | unfold f_Pile_decide_112 | with_reducible refine pc_chk (fun _ => ?_) | with_reducible refine pc_if (fun _ => ?_) (fun _ => ?_) | with_reducible refine pc_on ?_ (fun _ _ => ?_) | with_reducible refine lq_lt (by assumption) (fun _ _ => ?_) | with_reducible refine pf_b1 (fun _ => ?_)
theorem lq_d41 (S0 : SS) : ∀ (n : Nat) (S : SS) (a : Int), S.2 = S0.2 → pc (f_Pile_decide_41 n S a) (fun S1 => S1.2 = S0.2) := by
  intro n
  induction n with
  | zero => intro S a _ r e; exact absurd e (by simp [f_Pile_decide_41])
  | succ n ih =>
    intro S a h
    show pc (f_Pile_decide_41_b (f_Pile_decide_41 n) S a) _
    unfold f_Pile_decide_41_b f_Pile_listDone
    exact pc_if (fun _ => pc_b1 (lq_lt h (fun S1 h1 => lq_listDone S0 FU S1 0 h1)) (fun S1 h1 => pc_some h1)) (fun _ => lq_d49 S0 _ ih FU S a 0 h)
theorem lq_d2 (S0 : SS) : ∀ (n : Nat) (S : SS) (a : Int), S.2 = S0.2 → pc (f_Pile_decide_2 n S a) (fun S1 => S1.2 = S0.2) := by
  intro n
  induction n with
  | zero => intro S a _ r e; exact absurd e (by simp [f_Pile_decide_2])
  | succ n ih =>
    intro S a h
    show pc (f_Pile_decide_2_b (f_Pile_decide_2 n) S a) _
    unfold f_Pile_decide_2_b
    repeat' first | with_reducible exact ih _ _ (by assumption) | with_reducible exact lq_d41 S0 FU _ _ (by assumption) | unfold f_Pile_decide_33 | with_reducible refine pc_chk (fun _ => ?_) | with_reducible refine pc_if (fun _ => ?_) (fun _ => ?_) | with_reducible refine pc_on ?_ (fun _ _ => ?_) | with_reducible refine lq_lt (by assumption) (fun _ _ => ?_) | with_reducible refine pf_b1 (fun _ => ?_)
theorem lq_decide (S : SS) : pc (f_Pile_decide S) (fun S1 => S1.2 = S.2) := lq_d2 S FU S 0 rfl
theorem bit_hi : ∀ w : Fin 256, ∀ i : Fin 31, 8 ≤ i.val → ¬ andi (shri (w.val : Int) (i.val : Int)) 1 = 1 := by decide +kernel
/-- the class's left out and the reference's are the same -/
theorem us_eq {w : Int} (h0 : 0 ≤ w) (h1 : w < 256) {st st' : Nat → Int} {n : Nat} (hs : ∀ k, k < n → st k = st' k) {k : Nat} (hk : k < n) : c_us w st k = 1 ↔ m_us w st' k = 1 := by
  have dn : m_dn st k = m_dn st' k := m_dn_cg k (fun j hj => hs j (by omega))
  unfold c_us m_us
  rw [hs k hk, dn]
  have e : (st' k = 0 ∧ ¬ (m_dn st' k < 8 ∧ andi (shri w (m_dn st' k : Int)) 1 = 1)) ↔ (st' k = 0 ∧ ¬ (m_dn st' k < 31 ∧ andi (shri w (m_dn st' k : Int)) 1 = 1)) := by
    constructor
    · rintro ⟨a, b⟩
      refine ⟨a, fun z => b ⟨?_, z.2⟩⟩
      by_cases c : m_dn st' k < 8
      · exact c
      · have := bit_hi ⟨w.toNat, by omega⟩ ⟨m_dn st' k, z.1⟩ (by show 8 ≤ m_dn st' k; omega)
        rw [show (((⟨w.toNat, by omega⟩ : Fin 256).val : Nat) : Int) = w by show ((w.toNat : Nat) : Int) = w; omega] at this
        exact absurd z.2 this
    · rintro ⟨a, b⟩
      exact ⟨a, fun z => b ⟨by omega, z.2⟩⟩
  by_cases c : st' k = 0 ∧ ¬ (m_dn st' k < 8 ∧ andi (shri w (m_dn st' k : Int)) 1 = 1)
  · rw [if_pos c, if_pos (e.1 c)]
  · rw [if_neg c, if_neg (fun z => c (e.2 z))]
/-- taking and making: from what is decided to the text of the set w -/
theorem tx_tm {q : Nat} (hq : qok q) {S T : SS} {w : Int} (h0 : 0 ≤ w) (h1 : w < 256) (hg : ∀ k, k < 40 → gq S 11 k = some k) (hW : ∀ k, k < 40 → 0 ≤ gi S (14 + 4 * k + 2) 1 ∧ gi S (14 + 4 * k + 2) 1 ≤ 6) (hM : MX 0 T) (hN : NX T) (h3 : gi S 10 3 = gi T 192 27) (hK : ∀ k : Nat, (k : Int) < gi T 192 27 → MN S T k) (hD : CD S T) (h4 : gi S 4 1 = gi T 192 3) (hf : WF S T) (hm : WM S T) (hc : ((tx T w).length : Int) ≤ cap q) : pc (f_Setter_takeDone S w) (fun S3 => TKF S S3 ∧ pc (f_Setter_make S3 4 q) (fun S1 => HL (gl S1 (q + 1)) (gi S1 q 1) (tx T w) ∧ (∀ r k, r ≠ q + 1 → gl S1 r k = gl S r k) ∧ (∀ r k, r ≠ 178 → r ≠ 179 → gq S1 r k = gq S r k) ∧ ∀ r k, r ≠ 180 → ¬ (r = 178 ∧ k = 2) → ¬ (r = q ∧ k = 1) → gi S1 r k = gi S r k)) := by
  have b27 := mx_192_27 hM
  have tk := pc_take S w (m_st T) (q_n T) (by show (gi T 192 27).toNat ≤ 40; omega) hg (by rw [h3]; show gi T 192 27 = (((gi T 192 27).toNat : Nat) : Int); omega) hD.2.1 (fun j hj s => hD.2.2 j (by have hj : j < (gi T 192 27).toNat := hj; omega) s)
  refine pc_mono tk (fun S3 h => ⟨h.1, ?_⟩)
  obtain ⟨F, K⟩ := h
  have gl3 : ∀ r k, gl S3 r k = gl S r k := fun r k => by unfold gl; rw [F.2.1]
  have mk := tx_make hq (S := S3) (T := T) (u := c_us w (m_st T)) (w := w) (fun k hk => by rw [F.1 (14 + 4 * k + 2) 1 (by omega) (by omega)]; exact hW k hk) hM hN (fun k hk => MN_keep (hK k hk) (fun r j a => F.1 r j (by omega) (by omega)) (fun _ _ => rfl)) (by rw [F.1 4 1 (by omega) (by omega)]; exact h4) (fun k hk => us_eq h0 h1 (n := k + 1) (fun _ _ => rfl) (by omega)) K (fun i hi => by rw [gl3]; exact hf i hi) (fun k hk j hj => by rw [gl3]; exact hm k hk j hj) hc
  refine pc_mono mk (fun S1 h => ⟨h.1, fun r k a => by rw [h.2.1 r k a]; exact gl3 r k, fun r k a c => by rw [h.2.2.1 r k a]; exact F.2.2 r k c, fun r k a c d => by rw [h.2.2.2 r k d]; exact F.1 r k a c⟩)
/-- settling: the text is made anew -/
theorem tx_settle {S S1 T : SS} (hC : CX 0 S) (hM : MX 0 T) (hN : NX T) (h : RM S1 T) (e : f_MP_settle S = some S1) (hf : WF S T) (hm : WM S T) : (∀ r k, r ≠ 9 → gl S1 r k = gl S r k) ∧ HL (gl S1 9) (gi S1 8 1) (tx T 0) := by
  unfold f_MP_settle at e
  obtain ⟨S2, e2, e⟩ := w_b1E e
  obtain ⟨S3, e3, e⟩ := w_b1E e
  obtain ⟨S5, e5, e⟩ := w_b1E e
  cases e
  have l2 := lq_decide S S2 e2
  have f3 := fx_Setter_takeDone (X := fun r k => r = 180 ∨ (r = 178 ∧ k = 2)) (S0 := S2) (x_180 := fun k => .inl rfl) (x_178_2 := .inr ⟨rfl, rfl⟩) S2 _ (FX_refl _ S2) _ e3
  have f5 := fs_make (X := fun r k => r = 180 ∨ (r = 178 ∧ k = 2) ∨ (r = 8 ∧ k = 1)) (S0 := S2) (fun k => .inl rfl) (.inr (.inr ⟨rfl, rfl⟩)) S3 4 (fun r k a => f3.1 r k (by omega)) _ e5
  have f2 := fx_Pile_decide (X := XT) (S0 := S) (x_m_11 := fun j hj => by omega) (x_m_12 := fun j hj => by omega) (x_13 := fun k => by omega) (x_10_5 := by omega) S (FX_refl XT S) _ e2
  obtain ⟨hR, hy, hfe, hK, hD⟩ := h
  have en : gi S2 10 3 = gi T 192 27 := by rw [← hK.1]; exact (f5 10 3 (by omega)).symm
  have cd : CD S2 T := CD_cg hD rfl (fun _ _ => rfl) (fun j hj => (f5 _ 11 (by omega)).symm) (f5 10 5 (by omega)).symm (fun k => (f5 13 k (by omega)).symm)
  have b27 := mx_192_27 hM
  have L := tx_len hM hN 0
  have c8 : cap 8 = 300 := by decide
  have X := tx_tm (q := 8) (.inl rfl) (S := S2) (T := T) (w := 0) (by decide) (by decide) (fun k hk => by unfold gq; rw [l2]; exact hC.2.1 k hk) (fun k hk => by
    rw [f2.1 (14 + 4 * k + 2) 1 (by omega)]
    have := cx_sh hC (q := 14 + 4 * k + 2) (by omega)
    have cp : cap (14 + 4 * k + 2) = 6 := by
      unfold cap
      rw [if_neg (by omega), if_neg (by omega), if_neg (by omega), if_neg (by omega), if_neg (by omega)]
    omega) hM hN en (fun k hk => MN_keep (hK.2 k hk).1 (fun r j a => (f5 r j (by omega)).symm) (fun _ _ => rfl)) cd (by rw [← hR.2.1]; exact (f5 4 1 (by omega)).symm) (fun i hi => by rw [gl_2 l2]; exact hf i hi) (fun k hk j hj => by rw [gl_2 l2]; exact hm k hk j hj) (by omega) S3 e3
  have Y := X.2 S1 e5
  exact ⟨fun r k a => by rw [Y.2.1 r k a, gl_2 l2], Y.1⟩
