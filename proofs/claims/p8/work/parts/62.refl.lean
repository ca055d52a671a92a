def pc {α : Type} (x : Option α) (P : α → Prop) : Prop := ∀ r, x = some r → P r
theorem pc_some {α : Type} {P : α → Prop} {r : α} (h : P r) : pc (some r) P := fun q e => by cases e; exact h
theorem pc_chk {α : Type} {P : α → Prop} {c : Prop} [Decidable c] {x : Option α} (h : c → pc x P) : pc (w_chk c x) P := fun q e => by
  have := w_chkE e; exact h this.1 q this.2
theorem pc_lt {α β : Type} {P : β → Prop} {x : α} {k : α → Option β} (h : ∀ y, y = x → pc (k y) P) : pc (w_lt x k) P := h x rfl
theorem pc_if {α : Type} {P : α → Prop} {c : Prop} [Decidable c] {x y : Option α} (h1 : c → pc x P) (h2 : ¬ c → pc y P) : pc (if c then x else y) P := by
  by_cases h : c
  · rw [if_pos h]; exact h1 h
  · rw [if_neg h]; exact h2 h
theorem pc_b1 {α β : Type} {R : α → Prop} {P : β → Prop} {x : Option α} {k : α → Option β} (h : pc x R) (hk : ∀ a, R a → pc (k a) P) : pc (w_b1 x k) P := by
  cases x with
  | none => intro q e; exact absurd e (by simp [w_b1])
  | some a => exact hk a (h a rfl)
theorem pc_b2 {α σ β : Type} {R : α × σ → Prop} {P : β → Prop} {x : Option (α × σ)} {k : α → σ → Option β} (h : pc x R) (hk : ∀ a t, R (a, t) → pc (k a t) P) : pc (w_b2 x k) P := by
  cases x with
  | none => intro q e; exact absurd e (by simp [w_b2])
  | some a => exact hk a.1 a.2 (h _ rfl)
theorem pc_b3 {α σ β : Type} {R : Option α × σ → Prop} {P : β → Prop} {x : Option (Option α × σ)} {t : σ → Option β} {k : α → σ → Option β} (h : pc x R) (ht : ∀ s, R (none, s) → pc (t s) P) (hk : ∀ a s, R (some a, s) → pc (k a s) P) : pc (w_b3 x t k) P := by
  cases x with
  | none => intro q e; exact absurd e (by simp [w_b3])
  | some a =>
    obtain ⟨a, s⟩ := a
    cases a with
    | none => exact ht s (h _ rfl)
    | some a => exact hk a s (h _ rfl)
theorem pc_mono {α : Type} {P R : α → Prop} {x : Option α} (h : pc x P) (hp : ∀ r, P r → R r) : pc x R := fun r e => hp r (h r e)
theorem ok_and {α : Type} {P R : α → Prop} {x : Option α} (h : okk x P) (h2 : pc x R) : okk x (fun r => P r ∧ R r) := by
  obtain ⟨r, e, p⟩ := h; exact ⟨r, e, p, h2 r e⟩
theorem ok_true {α : Type} {P : α → Prop} {x : Option α} (h : okk x P) : pc x P := by
  obtain ⟨r, e, p⟩ := h; intro q eq; rw [e] at eq; cases eq; exact p
/-- the marks of the reference as the pure part sees them -/
def q_md (S : SS) : q_MK := fun j k =>
  if j = 0 then gi S 199 k else if j = 1 then (if gi S 199 k = 1 then 0 else gi S 201 k) else if j = 2 then (if gi S 199 k = 1 then -1 else if gi S 199 k = 3 then gi S 203 k else gi S 202 k)
  else if j = 3 then gi S 202 k else if j = 4 then (if gi S 199 k = 1 then gi S 201 k else if gi S 199 k = 4 then gi S 203 k else -1) else if j = 5 then gi S 214 k else 0
theorem md_kd (S : SS) (k : Nat) : q_kd (q_md S) k = gi S 199 k := rfl
theorem md_us (S : SS) (k : Nat) : q_us (q_md S) k = gi S 214 k := rfl
theorem md_mi (S : SS) (k : Nat) : q_mi (q_md S) k = gi S 202 k := rfl
theorem md_lo (S : SS) (k : Nat) : q_lo (q_md S) k = if gi S 199 k = 1 then 0 else gi S 201 k := rfl
theorem md_hi (S : SS) (k : Nat) : q_hi (q_md S) k = if gi S 199 k = 1 then -1 else if gi S 199 k = 3 then gi S 203 k else gi S 202 k := rfl
theorem md_gp (S : SS) (k : Nat) : q_gp (q_md S) k = if gi S 199 k = 1 then gi S 201 k else if gi S 199 k = 4 then gi S 203 k else -1 := rfl
theorem md_lo1 {S : SS} {k : Nat} (h : gi S 199 k ≠ 1) : q_lo (q_md S) k = gi S 201 k := by rw [md_lo, if_neg h]
theorem md_hi3 {S : SS} {k : Nat} (h : gi S 199 k = 3) : q_hi (q_md S) k = gi S 203 k := by rw [md_hi, if_neg (by omega), if_pos h]
theorem md_hi2 {S : SS} {k : Nat} (h : gi S 199 k ≠ 1) (h3 : gi S 199 k ≠ 3) : q_hi (q_md S) k = gi S 202 k := by rw [md_hi, if_neg h, if_neg h3]
theorem pc_gapOf (S : SS) (k : Nat) : pc (f_M_gapOf S (k : Int)) (fun r => r = q_gp (q_md S) k) := by
  unfold f_M_gapOf
  rw [Int.toNat_natCast]
  refine pc_chk (fun _ => pc_if (fun c => pc_chk (fun _ => pc_some ?_)) (fun c => pc_chk (fun _ => pc_if (fun c2 => pc_chk (fun _ => pc_some ?_)) (fun c2 => pc_some ?_))))
  · rw [md_gp, if_pos c]
  · rw [md_gp, if_neg c, if_pos c2]
  · rw [md_gp, if_neg c, if_neg c2]
theorem pc_rowEnd (S : SS) (k : Nat) : pc (f_M_rowEnd S (k : Int)) (fun r => gi S 199 k ≠ 1 → r = q_hi (q_md S) k) := by
  unfold f_M_rowEnd
  rw [Int.toNat_natCast]
  refine pc_chk (fun _ => pc_if (fun c => pc_chk (fun _ => pc_some ?_)) (fun c => pc_chk (fun _ => pc_some ?_)))
  · intro h; rw [md_hi3 c]
  · intro h; rw [md_hi2 h c]
theorem pc_hasRow (S : SS) (k : Nat) : pc (f_M_hasRow S (k : Int)) (fun r => (r = 0 ∧ q_kd (q_md S) k = 1) ∨ (r = 1 ∧ q_kd (q_md S) k ≠ 1)) := by
  unfold f_M_hasRow
  rw [Int.toNat_natCast]
  exact pc_chk (fun _ => pc_if (fun c => pc_some (.inl ⟨rfl, c⟩)) (fun c => pc_some (.inr ⟨rfl, c⟩)))
theorem pc_isInside_29 (S : SS) (k : Nat) (a b : Int) : pc (f_M_isInside_29 S (k : Int) a b) (fun r => (r = 0 ∧ ¬ (q_gp (q_md S) k = -1 ∨ (a < q_gp (q_md S) k ∧ q_gp (q_md S) k ≤ b))) ∨ (r = 1 ∧ (q_gp (q_md S) k = -1 ∨ (a < q_gp (q_md S) k ∧ q_gp (q_md S) k ≤ b)))) := by
  unfold f_M_isInside_29
  refine pc_b1 (pc_gapOf S k) (fun r e => pc_if (fun c => pc_some ?_) (fun c => pc_b1 (pc_gapOf S k) (fun r2 e2 => pc_if (fun c2 => pc_some ?_) (fun c2 => pc_b1 (pc_gapOf S k) (fun r3 e3 => pc_if (fun c3 => pc_some ?_) (fun c3 => pc_some ?_)))))) <;> omega
theorem pc_isInside (S : SS) (k : Nat) (a b : Int) : pc (f_M_isInside S (k : Int) a b) (fun r => (r = 0 ∧ ¬ q_ins (q_md S) k a b) ∨ (r = 1 ∧ q_ins (q_md S) k a b)) := by
  unfold f_M_isInside
  refine pc_b1 (pc_hasRow S k) (fun r e => pc_if (fun c => ?_) (fun c => pc_chk (fun _ => ?_)))
  · refine pc_mono (pc_isInside_29 S k a b) (fun r h => ?_)
    have e : q_kd (q_md S) k = 1 := by omega
    rcases h with h | h
    · exact .inl ⟨h.1, fun q => h.2 q.2⟩
    · exact .inr ⟨h.1, .inl e, h.2⟩
  · have e : q_kd (q_md S) k ≠ 1 := by omega
    have l := md_lo1 e
    rw [Int.toNat_natCast, ← l]
    refine pc_if (fun c2 => pc_some (.inl ⟨rfl, fun q => by omega⟩)) (fun c2 => pc_b1 (pc_rowEnd S k) (fun r4 e4 => ?_))
    have e4 := e4 e
    refine pc_if (fun c3 => ?_) (fun c3 => pc_some (.inl ⟨rfl, fun q => by omega⟩))
    refine pc_mono (pc_isInside_29 S k a b) (fun r h => ?_)
    rcases h with h | h
    · exact .inl ⟨h.1, fun q => h.2 q.2⟩
    · exact .inr ⟨h.1, .inr ⟨by omega, by omega⟩, h.2⟩
theorem z01_a {r : Int} {A B : Prop} (h : (r = 0 ∧ A) ∨ (r = 1 ∧ B)) (c : r = 0) : A := by
  rcases h with h | h
  · exact h.2
  · exact absurd (h.1.symm.trans c) (by decide)
theorem z01_b {r : Int} {A B : Prop} (h : (r = 0 ∧ A) ∨ (r = 1 ∧ B)) (c : ¬ r = 0) : B := by
  rcases h with h | h
  · exact absurd h.1 c
  · exact h.2
theorem pc_isWithin (S : SS) (k o : Nat) : pc (f_M_isWithin S (k : Int) (o : Int)) (fun r => (r = 0 ∧ ¬ q_wi (q_md S) k o) ∨ (r = 1 ∧ q_wi (q_md S) k o)) := by
  unfold f_M_isWithin
  rw [Int.toNat_natCast]
  refine pc_chk (fun _ => pc_if (fun c => pc_chk (fun _ => pc_chk (fun _ => ?_))) (fun c => pc_chk (fun _ => pc_if (fun c2 => pc_chk (fun _ => pc_chk (fun _ => pc_chk (fun _ => ?_)))) (fun c2 => pc_some ?_))))
  · have n3 : ¬ q_kd (q_md S) o = 3 := by rw [md_kd]; omega
    rw [← md_lo1 (show gi S 199 o ≠ 1 by omega), ← md_hi2 (show gi S 199 o ≠ 1 by omega) (by omega)]
    refine pc_b1 (pc_isInside S k _ _) (fun r h => pc_chk (fun _ => pc_some ?_))
    rcases h with h | h
    · exact .inl ⟨h.1, fun q => q.elim (fun q => h.2 q.2) (fun q => n3 q.1)⟩
    · exact .inr ⟨h.1, .inl ⟨c, h.2⟩⟩
  · rw [← md_lo1 (show gi S 199 o ≠ 1 by omega), ← md_mi, ← md_hi3 c2]
    refine pc_b1 (pc_isInside S k _ _) (fun r h => pc_if (fun c3 => pc_chk (fun _ => pc_chk (fun _ => ?_))) (fun c3 => pc_some (.inr ⟨rfl, .inr ⟨c2, .inl (z01_b h c3)⟩⟩)))
    exact pc_b1 (pc_isInside S k _ _) (fun r2 h2 => pc_if (fun c4 => pc_some (.inl ⟨rfl, fun q => q.elim (fun q => c q.1) (fun q => q.2.elim (z01_a h c3) (z01_a h2 c4))⟩)) (fun c4 => pc_some (.inr ⟨rfl, .inr ⟨c2, .inr (z01_b h2 c4)⟩⟩)))
  · exact .inl ⟨rfl, fun q => q.elim (fun q => c q.1) (fun q => c2 q.1)⟩
theorem pc_isCut (S : SS) (k o : Nat) : pc (f_M_isCut S (k : Int) (o : Int)) (fun r => (r = 0 ∧ ¬ q_cut (q_md S) k o) ∨ (r = 1 ∧ q_cut (q_md S) k o)) := by
  unfold f_M_isCut
  refine pc_b1 (pc_gapOf S k) (fun r e => pc_if (fun c => pc_some (.inl ⟨rfl, fun q => by omega⟩)) (fun c => pc_b1 (pc_hasRow S o) (fun r2 e2 => pc_if (fun c2 => pc_some (.inl ⟨rfl, fun q => by omega⟩)) (fun c2 => pc_b1 (pc_gapOf S k) (fun r3 e3 => pc_chk (fun _ => ?_))))))
  have e : q_kd (q_md S) o ≠ 1 := by omega
  rw [Int.toNat_natCast, ← md_lo1 e]
  refine pc_if (fun c3 => pc_some (.inl ⟨rfl, fun q => by omega⟩)) (fun c3 => pc_b1 (pc_gapOf S k) (fun r4 e4 => pc_b1 (pc_rowEnd S o) (fun r5 e5 => ?_)))
  have e5 := e5 e
  refine pc_if (fun c4 => pc_some (.inl ⟨rfl, fun q => by omega⟩)) (fun c4 => pc_some (.inr ⟨rfl, by omega, e, by omega, by omega⟩))
theorem pc_doMeet_66 (S : SS) (k o : Nat) : pc (f_M_doMeet_66 S (k : Int) (o : Int)) (fun r => (r = 0 ∧ ¬ q_cut (q_md S) k o ∧ ¬ q_cut (q_md S) o k) ∨ (r = 1 ∧ (q_cut (q_md S) k o ∨ q_cut (q_md S) o k))) := by
  unfold f_M_doMeet_66
  exact pc_b1 (pc_isCut S k o) (fun r h => pc_if (fun c => pc_b1 (pc_isCut S o k) (fun r2 h2 => pc_if (fun c2 => pc_some (.inl ⟨rfl, z01_a h c, z01_a h2 c2⟩)) (fun c2 => pc_some (.inr ⟨rfl, .inr (z01_b h2 c2)⟩)))) (fun c => pc_some (.inr ⟨rfl, .inl (z01_b h c)⟩)))
theorem pc_doMeet (S : SS) (k o : Nat) : pc (f_M_doMeet S (k : Int) (o : Int)) (fun r => (r = 0 ∧ q_nm (q_md S) k o) ∨ (r = 1 ∧ ¬ q_nm (q_md S) k o)) := by
  have tail : (¬ q_wi (q_md S) k o) → (¬ q_wi (q_md S) o k) → ¬ q_ov (q_md S) k o → pc (f_M_doMeet_66 S (k : Int) (o : Int)) (fun r => (r = 0 ∧ q_nm (q_md S) k o) ∨ (r = 1 ∧ ¬ q_nm (q_md S) k o)) := by
    intro w1 w2 w3
    refine pc_mono (pc_doMeet_66 S k o) (fun r h => ?_)
    rcases h with h | h
    · exact .inl ⟨h.1, .inr (.inr ⟨w3, h.2.1, h.2.2⟩)⟩
    · exact .inr ⟨h.1, fun q => q.elim w1 (fun q => q.elim w2 (fun q => h.2.elim q.2.1 q.2.2))⟩
  unfold f_M_doMeet
  refine pc_b1 (pc_isWithin S k o) (fun r h => pc_if (fun c => ?_) (fun c => pc_some (.inl ⟨rfl, .inl (z01_b h c)⟩)))
  have w1 := z01_a h c
  clear h
  refine pc_b1 (pc_isWithin S o k) (fun r2 h2 => pc_if (fun c2 => ?_) (fun c2 => pc_some (.inl ⟨rfl, .inr (.inl (z01_b h2 c2))⟩)))
  have w2 := z01_a h2 c2
  clear h2
  refine pc_b1 (pc_hasRow S k) (fun r3 h3 => pc_if (fun c3 => tail w1 w2 (fun q => q.1 (z01_a h3 c3))) (fun c3 => pc_b1 (pc_hasRow S o) (fun r4 h4 => pc_if (fun c4 => tail w1 w2 (fun q => q.2.1 (z01_a h4 c4))) (fun c4 => pc_chk (fun _ => ?_)))))
  have ek := z01_b h3 c3
  have eo := z01_b h4 c4
  rw [Int.toNat_natCast, Int.toNat_natCast, ← md_lo1 ek, ← md_lo1 eo]
  refine pc_b1 (pc_rowEnd S o) (fun r5 h5 => ?_)
  have h5 := h5 eo
  refine pc_if (fun c5 => tail w1 w2 (fun q => absurd q.2.2.1 (by rw [← h5]; exact Int.not_le.2 c5))) (fun c5 => pc_chk (fun _ => pc_b1 (pc_rowEnd S k) (fun r6 h6 => ?_)))
  have h6 := h6 ek
  refine pc_if (fun c6 => tail w1 w2 (fun q => absurd q.2.2.2 (by rw [← h6]; exact Int.not_le.2 c6))) (fun c6 => pc_some (.inr ⟨rfl, fun q => q.elim w1 (fun q => q.elim w2 (fun q => q.1 ⟨ek, eo, ?_, ?_⟩))⟩))
  · rw [← h5]; exact Int.not_lt.1 c5
  · rw [← h6]; exact Int.not_lt.1 c6
theorem q_nm_symm {M : q_MK} {k o : Nat} (h : q_nm M k o) : q_nm M o k := by
  rcases h with h | h | h
  · exact .inr (.inl h)
  · exact .inl h
  · exact .inr (.inr ⟨fun q => h.1 ⟨q.2.1, q.1, q.2.2.2, q.2.2.1⟩, h.2.2, h.2.1⟩)
/-- the best of those below n that are asked for -/
def q_best (n : Nat) (C : Nat → Prop) (len : Nat → Int) (r : Int) : Prop := (r = -1 ∧ ∀ j, j < n → ¬ C j) ∨ (∃ m, m < n ∧ r = (m : Int) ∧ C m ∧ ∀ j, j < n → C j → len m ≤ len j)
theorem q_best_0 {C : Nat → Prop} {len : Nat → Int} : q_best 0 C len (-1) := .inl ⟨rfl, fun j h => absurd h (Nat.not_lt_zero j)⟩
theorem q_best_skip {n : Nat} {C : Nat → Prop} {len : Nat → Int} {r : Int} (h : q_best n C len r) (hn : ¬ C n) : q_best (n + 1) C len r := by
  rcases h with h | ⟨m, h1, h2, h3, h4⟩
  · refine .inl ⟨h.1, fun j hj => ?_⟩
    by_cases e : j = n
    · rw [e]; exact hn
    · exact h.2 j (by omega)
  · refine .inr ⟨m, by omega, h2, h3, fun j hj hc => ?_⟩
    by_cases e : j = n
    · rw [e] at hc; exact absurd hc hn
    · exact h4 j (by omega) hc
theorem q_best_take {n : Nat} {C : Nat → Prop} {len : Nat → Int} {r : Int} (h : q_best n C len r) (hn : C n) (hr : r = -1 ∨ len n ≤ len r.toNat) : q_best (n + 1) C len (n : Int) := by
  refine .inr ⟨n, by omega, rfl, hn, fun j hj hc => ?_⟩
  by_cases e : j = n
  · rw [e]; exact Int.le_refl _
  · rcases h with h | ⟨m, h1, h2, h3, h4⟩
    · exact absurd hc (h.2 j (by omega))
    · have := h4 j (by omega) hc
      rw [h2, Int.toNat_natCast] at hr
      omega
theorem q_best_keep {n : Nat} {C : Nat → Prop} {len : Nat → Int} {r : Int} (h : q_best n C len r) (hn : r ≠ -1) (hr : len r.toNat ≤ len n) : q_best (n + 1) C len r := by
  rcases h with h | ⟨m, h1, h2, h3, h4⟩
  · exact absurd h.1 hn
  · refine .inr ⟨m, by omega, h2, h3, fun j hj hc => ?_⟩
    rw [h2, Int.toNat_natCast] at hr
    by_cases e : j = n
    · rw [e]; exact hr
    · exact h4 j (by omega) hc
