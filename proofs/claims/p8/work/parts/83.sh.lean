/-- all words of sheet q1 from i on put behind those of q0 -/
theorem sh_all {q0 q1 : Nat} (hne : q0 ≠ q1) (hn2 : q0 + 1 ≠ q1 + 1) : ∀ (n : Nat) (S S1 : SS) (i b0 : Int), f_Sheet_addAll_2 q0 q1 n S i = some S1 → 0 ≤ i → i ≤ gi S q1 1 → 0 ≤ b0 → gi S q0 1 = b0 + i → b0 + gi S q1 1 ≤ cap q0 → gi S q1 1 ≤ cap q1 → gi S1 q0 1 = b0 + gi S q1 1 ∧ (∀ r k, ¬ (r = q0 ∧ k = 1) → gi S1 r k = gi S r k) ∧ (∀ r k, r ≠ q0 + 1 → gl S1 r k = gl S r k) ∧ S1.2.2 = S.2.2 ∧ (∀ k : Nat, (k : Int) < b0 + i → gl S1 (q0 + 1) k = gl S (q0 + 1) k) ∧ (∀ k : Nat, i ≤ (k : Int) → (k : Int) < gi S q1 1 → gl S1 (q0 + 1) (b0.toNat + k) = gl S (q1 + 1) k) := by
  intro n
  induction n with
  | zero => intro S S1 i b0 h; exact absurd h (by simp [f_Sheet_addAll_2])
  | succ n ih =>
    intro S S1 i b0 h h0 h1 h2 h3 h4 h5
    have h : f_Sheet_addAll_2_b q0 q1 (f_Sheet_addAll_2 q0 q1 n) S i = some S1 := h
    unfold f_Sheet_addAll_2_b at h
    by_cases c : gi S q1 1 ≤ i
    · rw [if_pos c] at h
      cases h
      exact ⟨by omega, fun _ _ _ => rfl, fun _ _ _ => rfl, rfl, fun _ _ => rfl, fun k a d => by omega⟩
    · rw [if_neg c] at h
      obtain ⟨w, ew, h⟩ := w_b1E h
      obtain ⟨S4, e4, h⟩ := w_b1E h
      obtain ⟨_, h⟩ := w_chkE h
      unfold f_Sheet_wordAt at ew
      rw [if_neg (by omega), if_neg (by omega), if_pos (by omega), w_chkP (by omega)] at ew
      have ew := Option.some.inj ew
      rw [← ew] at e4
      have q := sh_add e4 (by omega) (by omega)
      have z1 : gi S4 q1 1 = gi S q1 1 := by rw [q, gi_off (fun w => hne w.1.symm)]; rfl
      have z0 : gi S4 q0 1 = b0 + (i + 1) := by rw [q, gi_at]; omega
      have I := ih S4 S1 (i + 1) b0 h (by omega) (by omega) h2 z0 (by omega) (by omega)
      have g4 : ∀ r k, gl S4 r k = if r = q0 + 1 ∧ k = (gi S q0 1).toNat then gl S (q1 + 1) i.toNat else gl S r k := by
        intro r k; rw [q]; show gl (sl S (q0 + 1) _ _) r k = _; rw [gl_slN]
      refine ⟨by rw [I.1, z1], fun r k a => ?_, fun r k a => ?_, ?_, fun k a => ?_, fun k a d => ?_⟩
      · rw [I.2.1 r k a, q, gi_off a]; rfl
      · rw [I.2.2.1 r k a, g4, if_neg (fun w => a w.1)]
      · rw [I.2.2.2.1, q]; rfl
      · rw [I.2.2.2.2.1 k (by omega), g4, if_neg (fun w => by omega)]
      · by_cases e : (k : Int) = i
        · rw [I.2.2.2.2.1 (b0.toNat + k) (by omega), g4, if_pos ⟨rfl, by omega⟩, show i.toNat = k by omega]
        · rw [I.2.2.2.2.2 k (by omega) (by omega), g4, if_neg (fun w => hn2 w.1.symm)]
theorem sh_copy {q0 q1 : Nat} (hne : q0 ≠ q1) (hn2 : q0 + 1 ≠ q1 + 1) (hn3 : q1 + 1 ≠ q0) {S S1 : SS} (h : f_Sheet_copyFrom S q0 q1 = some S1) (h0 : 0 ≤ gi S q1 1) (h1 : gi S q1 1 ≤ cap q0) (h2 : gi S q1 1 ≤ cap q1) : gi S1 q0 1 = gi S q1 1 ∧ (∀ r k, ¬ (r = q0 ∧ k = 1) → gi S1 r k = gi S r k) ∧ (∀ r k, r ≠ q0 + 1 → gl S1 r k = gl S r k) ∧ S1.2.2 = S.2.2 ∧ (∀ k : Nat, (k : Int) < gi S q1 1 → gl S1 (q0 + 1) k = gl S (q1 + 1) k) := by
  unfold f_Sheet_copyFrom f_Sheet_addAll at h
  unfold w_lt at h
  obtain ⟨S3, e3, h⟩ := w_b1E h
  cases h
  have z1 : gi (f_Sheet_clear S q0) q1 1 = gi S q1 1 := gi_off (fun w => hne w.1.symm)
  have z0 : gi (f_Sheet_clear S q0) q0 1 = 0 := gi_at S q0 1 0
  have A := sh_all hne hn2 FU (f_Sheet_clear S q0) S1 0 0 e3 (Int.le_refl _) (by omega) (Int.le_refl _) (by omega) (by omega) (by omega)
  refine ⟨by rw [A.1, z1]; omega, fun r k a => by rw [A.2.1 r k a]; exact gi_off a, fun r k a => by rw [A.2.2.1 r k a]; rfl, A.2.2.2.1, fun k hk => ?_⟩
  have := A.2.2.2.2.2 k (by omega) (by omega)
  rw [show (0 : Int).toNat + k = k by omega] at this
  rw [this]; rfl
