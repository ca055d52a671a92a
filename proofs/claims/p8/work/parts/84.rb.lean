/-- alike: tapes, sizes of both proofs, ranks, prices, costs -/
def RBX (S T : SS) : Prop := TR S T ∧ gi S 4 1 = gi T 192 3 ∧ gi S 6 1 = gi T 192 4 ∧ (∀ k, gi S 12 k = gi T 209 k ∨ 3 ≤ k) ∧ (∀ k, gi S 191 k = gi T 210 k ∨ 5 ≤ k) ∧ gi S 183 5 = gi T 211 0 ∧ gi S 183 6 = gi T 211 1
abbrev PCB (r k : Nat) : Prop := (r = 1 ∧ k = 1) ∨ r = 2 ∨ (r = 4 ∧ k = 1) ∨ (r = 6 ∧ k = 1) ∨ r = 12 ∨ r = 191 ∨ (r = 183 ∧ (k = 5 ∨ k = 6))
abbrev PRB (r k : Nat) : Prop := r = 197 ∨ r = 209 ∨ r = 210 ∨ r = 211 ∨ (r = 192 ∧ (k = 3 ∨ k = 4 ∨ k = 8))
theorem RBX_keep {S T S1 T1 : SS} (h : RBX S T) (hs : ∀ r k, PCB r k → gi S1 r k = gi S r k) (ht : ∀ r k, PRB r k → gi T1 r k = gi T r k) : RBX S1 T1 := by
  obtain ⟨⟨a1, a2⟩, b, c, d, e, f, g⟩ := h
  refine ⟨⟨by rw [hs 1 1 (by omega), ht 192 8 (by omega)]; exact a1, fun k hk => ?_⟩, by rw [hs 4 1 (by omega), ht 192 3 (by omega)]; exact b, by rw [hs 6 1 (by omega), ht 192 4 (by omega)]; exact c, fun k => by rw [hs 12 k (by omega), ht 209 k (by omega)]; exact d k, fun k => by rw [hs 191 k (by omega), ht 210 k (by omega)]; exact e k, by rw [hs 183 5 (by omega), ht 211 0 (by omega)]; exact f, by rw [hs 183 6 (by omega), ht 211 1 (by omega)]; exact g⟩
  rw [hs 1 1 (by omega)] at hk
  rw [hs 2 k (by omega), ht 197 k (by omega)]; exact a2 k hk
theorem RBX_0 : RBX SZ SZ := by
  refine ⟨⟨rfl, fun k hk => absurd hk (by show ¬ (k : Int) < 0; omega)⟩, rfl, rfl, fun k => ?_, fun k => ?_, rfl, rfl⟩
  · by_cases h : 3 ≤ k
    · exact .inr h
    · left
      have : k = 0 ∨ k = 1 ∨ k = 2 := by omega
      rcases this with e | e | e <;> subst e <;> rfl
  · by_cases h : 5 ≤ k
    · exact .inr h
    · left
      have : k = 0 ∨ k = 1 ∨ k = 2 ∨ k = 3 ∨ k = 4 := by omega
      rcases this with e | e | e | e | e <;> subst e <;> rfl
theorem keep_fr {X : Nat → Nat → Prop} {S S1 : SS} (h : fr X S S1) (P : Nat → Nat → Prop) (hd : ∀ r k, P r k → ¬ X r k) : ∀ r k, P r k → gi S1 r k = gi S r k := fun r k p => h r k (hd r k p)
theorem keep_refl {S : SS} (P : Nat → Nat → Prop) : ∀ r k, P r k → gi S r k = gi S r k := fun _ _ _ => rfl
/-- the reference: these commands keep all but what judging and making write -/
abbrev XM (r k : Nat) : Prop := XH r k ∨ r = 205 ∨ r = 208
theorem fm_word {T : SS} (hM : MX 0 T) (hN : NX T) (a1 a2 : Int) : pc (f_M_word T a1 a2) (fun u => fr XM T u.2) := by
  unfold f_M_word
  refine pc_b1 (ok_true (ok_M_isText T a1 hM)) (fun r1 h1 => pc_if (fun c => pc_some (fr_refl _ T)) (fun c => pc_b2 (ok_true (ok_M_wordsOf hM hN a1 (by omega))) (fun r5 S4 h4 => ?_)))
  have f4 : fr XM T S4 := fr_mono h4.2.1 (fun r k q => .inl q)
  exact pc_chk (fun _ => pc_if (fun _ => pc_some f4) (fun _ => pf_b1 (fun _ => pc_some f4)))
theorem fm_distance {T : SS} (hM : MX 0 T) (hN : NX T) (a1 a2 : Int) : pc (f_M_distance T a1 a2) (fun u => fr XM T u.2) := by
  unfold f_M_distance
  refine pc_b1 (ok_true (ok_M_isText T a1 hM)) (fun r1 h1 => pc_if (fun c => pc_some (fr_refl _ T)) (fun c => pc_b1 (ok_true (ok_M_isText T a2 hM)) (fun r3 h3 => pc_if (fun c2 => pc_some (fr_refl _ T)) (fun c2 => pc_b2 (ok_true (ok_M_wordsOf hM hN a1 (by omega))) (fun r6 S5 h5 => ?_)))))
  have n5 : NX S5 := nx_fr hN h5.2.1 (fun k => by omega) (by omega) (by omega)
  refine pc_b2 (ok_true (ok_M_wordsOf h5.1 n5 a2 (by omega))) (fun r9 S8 h8 => pc_b2 (ok_true (ok_M_apart S8 a1 r6 a2 r9 h8.1 h5.2.2.1 h8.2.2.1)) (fun r12 S11 h11 => pc_some ?_))
  exact fr_trans (fr_mono (fr_trans h5.2.1 h8.2.1) (fun r k q => .inl q)) (fun r k a => h11.2.1 r k (by omega))
theorem fm_mark {T : SS} (hM : MX 0 T) (a1 a2 : Int) : pc (f_M_mark T a1 a2) (fun u => fr XM T u.2) := by
  unfold f_M_mark
  have h0 := fr_refl XM T
  have hj : pc (f_M_judge T) (fr XM T) := pc_mono (pc_judge T hM) (fun S1 h r k a => h.1.2 r k (by omega) (by omega))
  repeat' first | with_reducible exact pc_some (by assumption) | with_reducible refine pc_b1 hj (fun _ _ => ?_) | with_reducible refine pc_chk (fun _ => ?_) | with_reducible refine pc_if (fun _ => ?_) (fun _ => ?_) | with_reducible refine pf_b1 (fun _ => ?_)
theorem fm_answer {T : SS} (hM : MX 0 T) (a1 a2 : Int) : pc (f_M_answer T a1 a2) (fun u => fr XM T u.2) := by
  unfold f_M_answer f_M_answer_42
  have h0 := fr_refl XM T
  have hj : pc (f_M_judge T) (fr XM T) := pc_mono (pc_judge T hM) (fun S1 h r k a => h.1.2 r k (by omega) (by omega))
  repeat' first | with_reducible exact pc_some (by assumption) | with_reducible refine pc_b1 hj (fun _ _ => ?_) | with_reducible refine pc_chk (fun _ => ?_) | with_reducible refine pc_if (fun _ => ?_) (fun _ => ?_) | with_reducible refine pf_lt (by assumption) (by omega) (fun _ _ => ?_) | with_reducible refine pf_b1 (fun _ => ?_)
theorem fm_error {T : SS} (a1 a2 : Int) : pc (f_M_error T a1 a2) (fun u => fr XM T u.2) := by
  unfold f_M_error
  have h0 := fr_refl XM T
  repeat' first | with_reducible exact pc_some (by assumption) | with_reducible refine pc_chk (fun _ => ?_) | with_reducible refine pc_if (fun _ => ?_) (fun _ => ?_) | with_reducible refine pf_lt (by assumption) (by omega) (fun _ _ => ?_) | with_reducible refine pf_b1 (fun _ => ?_)
theorem fm_hold {T : SS} (hM : MX 0 T) (hN : NX T) : pc (f_M_hold T) (fun u => fr XM T u.2) := by
  have b27 := mx_192_27 hM
  unfold f_M_hold
  exact pc_b1 (ok_true (HI_judge hM)) (fun S1 h1 => pc_mono (ok_true (okl_M_hold_8 T hN FU S1 0 h1 (by omega) (by unfold FU; omega))) (fun u hu => fr_mono hu.2 (fun r k q => .inl q)))
theorem fm_count {T : SS} (hM : MX 0 T) (hN : NX T) (a1 : Int) : pc (f_M_count T a1) (fun u => fr XM T u.2) := by
  have h0 := fr_refl XM T
  have i1 := in01 T a1 0 2
  have i3 := in01 T a1 4 8
  unfold f_M_count
  refine pc_if (fun c1 => pc_if (fun c2 => pc_if (fun _ => pc_some h0) (fun _ => pc_if (fun _ => pc_some h0) (fun _ => pc_if (fun _ => pc_some h0) (fun c3 => ?_)))) (fun c2 => pc_chk (fun _ => pc_chk (fun _ => pc_some h0)))) (fun c1 => pc_b2 (ok_true (ok_M_wordsOf hM hN a1 (by omega))) (fun r S13 h => pc_some (fr_mono h.2.1 (fun r k q => .inl q))))
  refine pc_b1 (ok_true (HI_judge hM)) (fun S7 h7 => pc_mono (ok_true (okl_M_count a1 (by omega) S7 h7.1 FU 0 0 (by omega) (by unfold FU; omega))) (fun u e => ?_))
  rw [e]; exact fr_mono h7.2.1 (fun r k q => .inl q)
theorem fm_pays {T : SS} (hM : MX 0 T) (hN : NX T) (a1 : Int) : pc (f_M_pays T a1) (fun u => fr XM T u.2) := by
  unfold f_M_pays
  refine pc_if (fun _ => pc_some (fr_refl _ T)) (fun _ => pc_b1 (ok_true (HI_judge hM)) (fun S3 h3 => pc_mono (ok_true (okl_M_pays a1 T S3 hN h3 FU 0 0 (by omega) (by omega) (by unfold FU; omega))) (fun u e => ?_)))
  rw [e]; exact fr_mono h3.2.1 (fun r k q => .inl q)
theorem XM_PRB : ∀ r k, PRB r k → ¬ XM r k := fun r k p => by omega
