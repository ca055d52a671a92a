/-- the marks of the class as the pure part sees them -/
def c_md (S : SS) : q_MK := fun j k =>
  if j = 0 then gi S (14 + 4 * k) 2 else if j = 1 then gi S (14 + 4 * k) 4 else if j = 2 then gi S (14 + 4 * k) 5 else if j = 3 then gi S (14 + 4 * k + 1) 1 else if j = 4 then gi S (14 + 4 * k) 6 else 0
/-- row and gap of a mark are told as its kind asks -/
def c_sh (S : SS) (k : Nat) : Prop := (gi S (14 + 4 * k) 2 = 1 ∧ gi S (14 + 4 * k) 4 = 0 ∧ gi S (14 + 4 * k) 5 = -1 ∧ 0 ≤ gi S (14 + 4 * k) 6) ∨ (gi S (14 + 4 * k) 2 ≠ 1 ∧ 0 ≤ gi S (14 + 4 * k) 4 ∧ gi S (14 + 4 * k) 4 ≤ gi S (14 + 4 * k) 5 ∧ -1 ≤ gi S (14 + 4 * k) 6)
theorem cm_kd (S : SS) (k : Nat) : q_kd (c_md S) k = gi S (14 + 4 * k) 2 := rfl
theorem cm_lo (S : SS) (k : Nat) : q_lo (c_md S) k = gi S (14 + 4 * k) 4 := rfl
theorem cm_hi (S : SS) (k : Nat) : q_hi (c_md S) k = gi S (14 + 4 * k) 5 := rfl
theorem cm_mi (S : SS) (k : Nat) : q_mi (c_md S) k = gi S (14 + 4 * k + 1) 1 := rfl
theorem cm_gp (S : SS) (k : Nat) : q_gp (c_md S) k = gi S (14 + 4 * k) 6 := rfl
theorem c_fits (S : SS) (k : Nat) (a b : Int) (h : c_sh S k) : (f_Mark_fitsInside S k a b = 0 ∧ ¬ q_ins (c_md S) k a b) ∨ (f_Mark_fitsInside S k a b = 1 ∧ q_ins (c_md S) k a b) := by
  unfold f_Mark_fitsInside f_Mark_fitsInside_26 q_ins
  rw [cm_kd, cm_lo, cm_hi, cm_gp]
  unfold c_sh at h
  generalize gi S (14 + 4 * k) 2 = kd at h ⊢
  generalize gi S (14 + 4 * k) 4 = l at h ⊢
  generalize gi S (14 + 4 * k) 5 = r at h ⊢
  generalize gi S (14 + 4 * k) 6 = g at h ⊢
  repeat' split
  all_goals omega
theorem c_within (S : SS) (k o : Nat) (h : c_sh S k) : pc (f_Mark_isWithin S k o) (fun r => (r = 0 ∧ ¬ q_wi (c_md S) k o) ∨ (r = 1 ∧ q_wi (c_md S) k o)) := by
  unfold f_Mark_isWithin
  refine pc_if (fun c => pc_chk (fun _ => pc_some ?_)) (fun c => pc_if (fun c2 => ?_) (fun c2 => pc_some ?_))
  · have n3 : ¬ q_kd (c_md S) o = 3 := by rw [cm_kd]; omega
    rcases c_fits S k (gi S (14 + 4 * o) 4) (gi S (14 + 4 * o) 5) h with q | q
    · exact .inl ⟨q.1, fun w => w.elim (fun w => q.2 w.2) (fun w => n3 w.1)⟩
    · exact .inr ⟨q.1, .inl ⟨c, q.2⟩⟩
  · refine pc_b1 (R := fun r => r = gi S (14 + 4 * o + 1) 1) (fun r e => ?_) (fun r3 h3 => pc_chk (fun _ => ?_))
    · unfold f_Mark_number at e
      rw [if_neg (by omega), if_pos (by omega), w_chkP (by omega)] at e
      cases e; rfl
    · rw [h3]
      have f1 := c_fits S k (gi S (14 + 4 * o) 4) (gi S (14 + 4 * o + 1) 1 - 1) h
      have f2 := c_fits S k (gi S (14 + 4 * o + 1) 1) (gi S (14 + 4 * o) 5) h
      refine pc_if (fun d => pc_if (fun d2 => pc_some (.inl ⟨rfl, fun w => w.elim (fun w => c w.1) (fun w => w.2.elim (z01_a f1 d) (z01_a f2 d2))⟩)) (fun d2 => pc_some (.inr ⟨rfl, .inr ⟨c2, .inr (z01_b f2 d2)⟩⟩))) (fun d => pc_some (.inr ⟨rfl, .inr ⟨c2, .inl (z01_b f1 d)⟩⟩))
  · exact .inl ⟨rfl, fun w => w.elim (fun w => c w.1) (fun w => c2 w.1)⟩
theorem c_cut {S : SS} {a b : Nat} (ha : c_sh S a) (hb : c_sh S b) : q_cut (c_md S) a b ↔ gi S (14 + 4 * b) 4 < gi S (14 + 4 * a) 6 ∧ gi S (14 + 4 * a) 6 ≤ gi S (14 + 4 * b) 5 := by
  unfold q_cut
  rw [cm_gp, cm_kd, cm_lo, cm_hi]
  unfold c_sh at ha hb
  generalize gi S (14 + 4 * b) 4 = l at hb ⊢
  generalize gi S (14 + 4 * b) 5 = r at hb ⊢
  generalize gi S (14 + 4 * b) 2 = kb at hb ⊢
  generalize gi S (14 + 4 * a) 6 = g at ha ⊢
  clear ha
  constructor
  · rintro ⟨_, _, c, d⟩; exact ⟨c, d⟩
  · rintro ⟨c, d⟩
    refine ⟨?_, ?_, c, d⟩
    · omega
    · omega
theorem c_ov {S : SS} {k o : Nat} (h : c_sh S k) (h' : c_sh S o) : q_ov (c_md S) k o ↔ gi S (14 + 4 * k) 4 ≤ gi S (14 + 4 * o) 5 ∧ gi S (14 + 4 * o) 4 ≤ gi S (14 + 4 * k) 5 := by
  unfold q_ov
  rw [cm_kd, cm_kd, cm_lo, cm_hi, cm_lo, cm_hi]
  unfold c_sh at h h'
  constructor
  · rintro ⟨_, _, c, d⟩; exact ⟨c, d⟩
  · rintro ⟨c, d⟩
    refine ⟨?_, ?_, c, d⟩
    · intro e
      rcases h with q | q
      · rcases h' with w | w <;> omega
      · exact q.1 e
    · intro e
      rcases h' with q | q
      · rcases h with w | w <;> omega
      · exact q.1 e
/-- the class's own words for meeting, within left out -/
abbrev c_mt (S : SS) (k o : Nat) : Prop := (gi S (14 + 4 * k) 4 ≤ gi S (14 + 4 * o) 5 ∧ gi S (14 + 4 * o) 4 ≤ gi S (14 + 4 * k) 5) ∨ (gi S (14 + 4 * o) 4 < gi S (14 + 4 * k) 6 ∧ gi S (14 + 4 * k) 6 ≤ gi S (14 + 4 * o) 5) ∨ (gi S (14 + 4 * k) 4 < gi S (14 + 4 * o) 6 ∧ gi S (14 + 4 * o) 6 ≤ gi S (14 + 4 * k) 5)
theorem c_mt_nm {S : SS} {k o : Nat} (h : c_sh S k) (h' : c_sh S o) (w1 : ¬ q_wi (c_md S) k o) (w2 : ¬ q_wi (c_md S) o k) : (¬ c_mt S k o → q_nm (c_md S) k o) ∧ (c_mt S k o → ¬ q_nm (c_md S) k o) := by
  refine ⟨fun a => .inr (.inr ⟨fun q => a (.inl ((c_ov h h').1 q)), fun q => a (.inr (.inl ((c_cut h h').1 q))), fun q => a (.inr (.inr ((c_cut h' h).1 q)))⟩), fun a q => ?_⟩
  rcases q with q | q | q
  · exact w1 q
  · exact w2 q
  · rcases a with a | a | a
    · exact q.1 ((c_ov h h').2 a)
    · exact q.2.1 ((c_cut h h').2 a)
    · exact q.2.2 ((c_cut h' h).2 a)
theorem c_mt_is (S : SS) (k o : Nat) : pc (if gi S (14 + 4 * o) 5 < gi S (14 + 4 * k) 4 then f_Mark_meets_40 S k o else (if gi S (14 + 4 * o) 4 ≤ gi S (14 + 4 * k) 5 then some 1 else f_Mark_meets_40 S k o)) (fun r => (r = 0 ∧ ¬ c_mt S k o) ∨ (r = 1 ∧ c_mt S k o)) := by
  unfold f_Mark_meets_40 f_Mark_meets_62 c_mt
  generalize gi S (14 + 4 * k) 4 = a
  generalize gi S (14 + 4 * k) 5 = b
  generalize gi S (14 + 4 * k) 6 = c
  generalize gi S (14 + 4 * o) 4 = d
  generalize gi S (14 + 4 * o) 5 = e
  generalize gi S (14 + 4 * o) 6 = f
  repeat' first | with_reducible refine pc_if (fun _ => ?_) (fun _ => ?_) | with_reducible refine pc_some ?_
  all_goals omega
theorem c_meets (S : SS) (k o : Nat) (h : c_sh S k) (h' : c_sh S o) : pc (f_Mark_meets S k o) (fun r => (r = 0 ∧ q_nm (c_md S) k o) ∨ (r = 1 ∧ ¬ q_nm (c_md S) k o)) := by
  unfold f_Mark_meets
  refine pc_b1 (c_within S k o h) (fun r1 h1 => pc_if (fun c1 => ?_) (fun c1 => pc_some (.inl ⟨rfl, .inl (z01_b h1 c1)⟩)))
  have w1 := z01_a h1 c1
  clear h1
  refine pc_b1 (c_within S o k h') (fun r2 h2 => pc_if (fun c2 => ?_) (fun c2 => pc_some (.inl ⟨rfl, .inr (.inl (z01_b h2 c2))⟩)))
  have w2 := z01_a h2 c2
  clear h2
  have N := c_mt_nm h h' w1 w2
  refine pc_mono (c_mt_is S k o) (fun r q => ?_)
  rcases q with q | q
  · exact .inl ⟨q.1, N.1 q.2⟩
  · exact .inr ⟨q.1, N.2 q.2⟩
theorem c_find {S : SS} (hq : ∀ k, k < 40 → gq S 11 k = some k) {k : Nat} (h : (k : Int) < gi S 10 3) (h40 : gi S 10 3 ≤ 40) : f_Pile_find S (k : Int) = some (some k) := by
  unfold f_Pile_find f_Pile_markAt
  rw [if_pos h, if_neg (by omega), if_pos (by omega), w_chkP (by omega)]
  show w_b1 (some (gq S 11 (k : Int).toNat)) _ = _
  rw [Int.toNat_natCast, hq k (by omega)]
  rfl
/-- what the class's marks are before they are decided -/
def c_s0 (S : SS) (k : Nat) : Int := if gi S (14 + 4 * k) 2 = 5 then 4 else if gi S (14 + 4 * k) 8 = 0 then (if gi S (14 + 4 * k) 7 = 0 then 1 else 3) else 2
abbrev c_rk (S : SS) (k : Nat) : Int := gi S 12 (gi S (14 + 4 * k) 3).toNat
noncomputable def c_st (S : SS) : Nat → Int := j_r (q_nm (c_md S)) (gi S 10 3).toNat (c_rk S) 10 0 (c_s0 S)
abbrev XDC (r k : Nat) : Prop := 14 ≤ r ∧ r < 174 ∧ r % 4 = 2 ∧ (k = 11 ∨ k = 12)
theorem cm_fr {S S1 : SS} (h : fr XDC S S1) : c_md S1 = c_md S := by
  funext j k
  unfold c_md
  rw [h (14 + 4 * k) 2 (by omega), h (14 + 4 * k) 4 (by omega), h (14 + 4 * k) 5 (by omega), h (14 + 4 * k + 1) 1 (by omega), h (14 + 4 * k) 6 (by omega)]
theorem csh_fr {S S1 : SS} (h : fr XDC S S1) {k : Nat} (q : c_sh S k) : c_sh S1 k := by
  unfold c_sh
  rw [h (14 + 4 * k) 2 (by omega), h (14 + 4 * k) 4 (by omega), h (14 + 4 * k) 5 (by omega), h (14 + 4 * k) 6 (by omega)]
  exact q
def c_fst (S : SS) (k : Nat) (r : Int) : Prop := (r = -1 ∧ ∀ j : Nat, (j : Int) < gi S 10 3 → gi S (14 + 4 * j) 11 = 0 → q_nm (c_md S) k j) ∨ (r ≠ -1 ∧ ∃ j : Nat, (j : Int) < gi S 10 3 ∧ gi S (14 + 4 * j) 11 = 0 ∧ ¬ q_nm (c_md S) k j)
/-- the first done one that k meets -/
theorem c_first (S : SS) (hq : ∀ k, k < 40 → gq S 11 k = some k) (h40 : gi S 10 3 ≤ 40) (k : Nat) (hk : c_sh S k) (hs : ∀ o : Nat, (o : Int) < gi S 10 3 → gi S (14 + 4 * o) 11 = 0 → c_sh S o) (hk0 : gi S (14 + 4 * k) 11 ≠ 0) : ∀ (n : Nat) (o : Nat), (∀ j : Nat, j < o → (j : Int) < gi S 10 3 → gi S (14 + 4 * j) 11 = 0 → q_nm (c_md S) k j) → pc (f_Pile_firstDoneThatMeets_2 S k n (o : Int)) (c_fst S k) := by
  intro n
  induction n with
  | zero => intro o _ r e; exact absurd e (by simp [f_Pile_firstDoneThatMeets_2])
  | succ n ih =>
    intro o ho
    have next : (o : Int) < gi S 10 3 → (gi S (14 + 4 * o) 11 = 0 → q_nm (c_md S) k o) → pc (f_Pile_firstDoneThatMeets_42 S k (f_Pile_firstDoneThatMeets_2 S k n) (o : Int)) (c_fst S k) := fun hlt q => by
      unfold f_Pile_firstDoneThatMeets_42
      refine pc_chk (fun _ => ?_)
      rw [show (o : Int) + 1 = ((o + 1 : Nat) : Int) by omega]
      refine ih (o + 1) (fun j hj hl h0 => ?_)
      by_cases e : j = o
      · rw [e] at h0 ⊢; exact q h0
      · exact ho j (by omega) hl h0
    show pc (f_Pile_firstDoneThatMeets_2_b S k (f_Pile_firstDoneThatMeets_2 S k n) (o : Int)) (c_fst S k)
    unfold f_Pile_firstDoneThatMeets_2_b
    refine pc_if (fun c => pc_some (.inl ⟨rfl, fun j hj => ho j (by omega) hj⟩)) (fun c => ?_)
    rw [w_b1_is (c_find hq (by omega) h40)]
    show pc (w_chk (o < 40) _) (c_fst S k)
    refine pc_chk (fun _ => pc_if (fun c2 => next (by omega) (fun q => absurd (by rw [← c2]; exact q) hk0)) (fun c2 => pc_if (fun c3 => ?_) (fun c3 => next (by omega) (fun q => absurd q c3))))
    refine pc_b1 (c_meets S k o hk (hs o (by omega) c3)) (fun r6 h6 => pc_if (fun c6 => next (by omega) (fun _ => z01_a h6 c6)) (fun c6 => pc_some (.inr ⟨by omega, o, by omega, c3, z01_b h6 c6⟩)))
