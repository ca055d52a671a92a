/-- what a line's numbers may change: class, reference -/
abbrev XKC (m : Nat) (r k : Nat) : Prop := r = 3 ∨ (r = 177 ∧ 4 ≤ k) ∨ r = 14 + 4 * m + 1
abbrev XKR (m : Nat) (r k : Nat) : Prop := (r = 192 ∧ 10 ≤ k ∧ k ≤ 15) ∨ (201 ≤ r ∧ r ≤ 203 ∧ k = m)
/-- the numbers of line m: both fault alike, or both have them -/
def NQ (S T : SS) (b m : Nat) (r : Int) (S' : SS) (o : Option Unit) (T1 : SS) (g : SS → Option (Option Unit × SS)) : Prop :=
  (r = 0 ∧ o = none ∧ FE S' T1 ∧ fr (XKC m) S S' ∧ fr (XKR m) T T1 ∧ T1.2 = T.2) ∨
  (∃ T', r = 1 ∧ g T' = some (o, T1) ∧ CX b S' ∧ AH S' T' ∧ gi S' (14 + 4 * m + 1) 0 = gi T' 201 m ∧ gi S' (14 + 4 * m + 1) 1 = gi T' 202 m ∧ gi S' (14 + 4 * m + 1) 2 = gi T' 203 m ∧ fr (XKC m) S S' ∧ fr (XKR m) T T' ∧ T'.2 = T.2)
theorem BF_keep {S T S1 T1 : SS} (h : BF S T) (hs : ∀ k, gi S1 1 1 = gi S 1 1 ∧ gi S1 2 k = gi S 2 k) (ht : ∀ k, gi T1 192 9 = gi T 192 9 ∧ gi T1 197 k = gi T 197 k) : BF S1 T1 := by
  refine ⟨by rw [(hs 0).1, (ht 0).1]; exact h.1, by rw [(hs 0).1]; exact h.2.1, by rw [(hs 0).1]; exact h.2.2.1, fun k hk => ?_⟩
  rw [(hs 0).1] at hk
  rw [(hs k).2, (ht k).2]; exact h.2.2.2 k hk
theorem AH_keep {S T T1 : SS} (h : AH S T) (ht : ∀ r k, ¬ (199 ≤ r ∧ r ≤ 208) → gi T1 r k = gi T r k) : AH S T1 := by
  have eb : mby_ T1 = mby_ T := by funext j; unfold mby_; rw [ht 197 _ (by omega)]
  unfold AH at h ⊢
  rw [eb, ht 192 9 (by omega), ht 192 10 (by omega), ht 192 11 (by omega), ht 192 12 (by omega), ht 192 13 (by omega)]
  exact h
theorem rn_end {j n : Nat} {S S' : SS} {told r : Int} (h : f_MarkReader_readNumbers_33 j (n + 1) S told told = some (r, S')) : r = 1 ∧ S' = S := by
  have h : f_MarkReader_readNumbers_33_b j (f_MarkReader_readNumbers_33 j n) S told told = some (r, S') := h
  unfold f_MarkReader_readNumbers_33_b at h
  rw [if_pos (Int.le_refl _)] at h
  cases h
  exact ⟨rfl, rfl⟩
theorem fr_XFX {m : Nat} {i : Int} {S S1 : SS} (h : FX (fun r k => (r = 177 ∧ 4 ≤ k) ∨ (r = 14 + 4 * m + 1 ∧ k = i.toNat)) S S1) : fr (XKC m) S S1 := fun r k a => h.1 r k (by omega)
theorem num6_is : num6 0 = 2 ∧ num6 1 = 1 ∧ num6 2 = 2 ∧ num6 3 = 3 ∧ num6 4 = 3 ∧ num6 5 = 1 := by decide
