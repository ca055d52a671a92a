theorem okl_M_first (v1 : Int) (h1 : 0 ≤ v1 ∧ v1 ≤ 60) : ∀ (n : Nat) (S : SS) (v2_ : Int), MX 0 S → (0 ≤ v2_ ∧ v2_ ≤ v1) → v1 - v2_ < (n : Int) → okk (f_M_first_19 n S v1 v2_) (fun u => MX 0 u.2 ∧ True) := by
  intro n
  induction n with
  | zero => intro S v2_ hC hi hm; exfalso; omega
  | succ n ih =>
    intro S v2_ hC hi hm
    have hm : v1 - v2_ < (n : Int) + 1 := by omega
    show okk (f_M_first_19_b (f_M_first_19 n) S v1 v2_) _
    unfold f_M_first_19_b
    refine ok_if (fun _ => ok_lt (fun S1 e1 => ?_)) (fun c1 => ok_chk (by omega) (ok_chk (by omega) (ok_lt (fun S4 e4 => ok_chk (by omega) ?_))))
    · have m1 : MX 0 S1 := by rw [e1]; exact ms_192_3 hC (by omega) (by omega)
      refine ok_lt (fun S2 e2 => ok_some ⟨?_, trivial⟩)
      show MX 0 S2
      rw [e2]; exact ms_192_27 m1 (by omega) (by omega)
    · exact ih S4 (v2_ + 1) (by rw [e4]; exact ms_sl hC) (by omega) (by omega)
theorem ok_M_first (S : SS) (hC : MX 0 S) : okk (f_M_first S) (fun u => MX 0 u.2 ∧ True) := by
  have h1 := mx_M_begin hC
  unfold f_M_first
  refine ok_lt (fun S1 e1 => ok_b3 (ok_M_readProof S1 60 (show MX 1 S1 by rw [e1]; exact h1) (by omega)) (fun S5 h5 => ok_some ⟨h5.1.weak, trivial⟩) (fun r3 S4 h4 => ?_))
  have p4 := h4.2 _ rfl
  exact okl_M_first r3 (by omega) FU S4 0 h4.1.weak (by omega) (by unfold FU; omega)
theorem okl_M_second (v1 : Int) (h1 : 0 ≤ v1 ∧ v1 ≤ 150) : ∀ (n : Nat) (S : SS) (v2_ : Int), MX 0 S → (0 ≤ v2_ ∧ v2_ ≤ v1) → v1 - v2_ < (n : Int) → okk (f_M_second_20 n S v1 v2_) (fun u => MX 0 u.2 ∧ True) := by
  intro n
  induction n with
  | zero => intro S v2_ hC hi hm; exfalso; omega
  | succ n ih =>
    intro S v2_ hC hi hm
    have hm : v1 - v2_ < (n : Int) + 1 := by omega
    show okk (f_M_second_20_b (f_M_second_20 n) S v1 v2_) _
    unfold f_M_second_20_b
    refine ok_if (fun _ => ok_lt (fun S1 e1 => ?_)) (fun c1 => ok_chk (by omega) (ok_chk (by omega) (ok_lt (fun S4 e4 => ok_chk (by omega) ?_))))
    · have m1 : MX 0 S1 := by rw [e1]; exact ms_192_4 hC (by omega) (by omega)
      exact ok_some ⟨m1, trivial⟩
    · exact ih S4 (v2_ + 1) (by rw [e4]; exact ms_sl hC) (by omega) (by omega)
theorem ok_M_second (S : SS) (hC : MX 0 S) : okk (f_M_second S) (fun u => MX 0 u.2 ∧ True) := by
  have h1 := mx_M_begin hC
  unfold f_M_second
  refine ok_lt (fun S1 e1 => ok_b3 (ok_M_readProof S1 150 (show MX 1 S1 by rw [e1]; exact h1) (by omega)) (fun S5 h5 => ok_some ⟨h5.1.weak, trivial⟩) (fun r3 S4 h4 => ?_))
  have p4 := h4.2 _ rfl
  exact okl_M_second r3 (by omega) FU S4 0 h4.1.weak (by omega) (by unfold FU; omega)
