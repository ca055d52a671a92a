theorem si_comm {S : SS} {r k r' k' : Nat} {v v' : Int} (h : r ≠ r') : si (si S r k v) r' k' v' = si (si S r' k' v') r k v := by
  unfold si
  refine Prod.ext ?_ rfl
  funext a c
  show up2 (up2 S.1 r k v) r' k' v' a c = up2 (up2 S.1 r' k' v') r k v a c
  unfold up2
  by_cases e : a = r'
  · subst e
    by_cases e2 : a = r
    · exact absurd e2.symm h
    · simp [e2, h, Ne.symm h]
  · by_cases e2 : a = r
    · subst e2
      simp [e, h]
    · simp [e, e2]
theorem si_twice {S : SS} {r k : Nat} {v v' : Int} (h : gi S r k = v') : si (si S r k v) r k v' = S := by
  unfold gi at h
  unfold si
  refine Prod.ext ?_ rfl
  funext a c
  show up2 (up2 S.1 r k v) r k v' a c = S.1 a c
  unfold up2
  by_cases e : a = r
  · subst e
    by_cases e2 : c = k
    · subst e2; simp [h]
    · simp [e2]
  · simp [e]
def c_put (q : Nat) (S : SS) (w : Int64) : SS := si (sl S (q + 1) (gi S q 1).toNat w) q 1 (gi S q 1 + 1)
def c_pws (q j : Nat) : Nat → Nat → SS → SS
  | 0, _, S => S
  | c + 1, i, S => c_pws q j c (i + 1) (c_put q S (gl S (14 + 4 * j + 3) i))
def c_tok (q : Nat) (S : SS) (t : Nat) : SS := if t < 60 then c_put q S (gl S 5 t) else c_pws q (t - 60) (gi S (14 + 4 * (t - 60) + 2) 1).toNat 0 S
def c_toks (q : Nat) (S : SS) : List Nat → SS
  | [] => S
  | t :: L => c_toks q (c_tok q S t) L
theorem c_toks_append (q : Nat) (A B : List Nat) : ∀ S, c_toks q S (A ++ B) = c_toks q (c_toks q S A) B := by
  induction A with
  | nil => intro S; rfl
  | cons a A ih => intro S; exact ih (c_tok q S a)
/-- all stays but the sheet q -/
def c_fp (q : Nat) (S S1 : SS) : Prop := (∀ r k, ¬ (r = q ∧ k = 1) → gi S1 r k = gi S r k) ∧ (∀ r k, r ≠ q + 1 → gl S1 r k = gl S r k) ∧ S1.2.2 = S.2.2
theorem c_fp_refl (q : Nat) (S : SS) : c_fp q S S := ⟨fun _ _ _ => rfl, fun _ _ _ => rfl, rfl⟩
theorem c_fp_trans {q : Nat} {S S1 S2 : SS} (h : c_fp q S S1) (h2 : c_fp q S1 S2) : c_fp q S S2 := ⟨fun r k a => (h2.1 r k a).trans (h.1 r k a), fun r k a => (h2.2.1 r k a).trans (h.2.1 r k a), h2.2.2.trans h.2.2⟩
theorem c_put_fp (q : Nat) (S : SS) (w : Int64) : c_fp q S (c_put q S w) := by
  refine ⟨fun r k h => ?_, fun r k h => ?_, rfl⟩
  · unfold c_put; rw [gi_si, if_neg h]; rfl
  · show gl (sl S (q + 1) _ w) r k = _
    rw [gl_slN, if_neg (fun z => h z.1)]
theorem c_pws_fp (q j : Nat) : ∀ (c i : Nat) (S : SS), c_fp q S (c_pws q j c i S) ∧ gi (c_pws q j c i S) q 1 = gi S q 1 + (c : Int) := by
  intro c
  induction c with
  | zero => intro i S; exact ⟨c_fp_refl q S, by show gi S q 1 = gi S q 1 + 0; omega⟩
  | succ c ih =>
    intro i S
    have I := ih (i + 1) (c_put q S (gl S (14 + 4 * j + 3) i))
    refine ⟨c_fp_trans (c_put_fp q S _) I.1, ?_⟩
    show gi (c_pws q j c (i + 1) (c_put q S (gl S (14 + 4 * j + 3) i))) q 1 = _
    rw [I.2]
    have : gi (c_put q S (gl S (14 + 4 * j + 3) i)) q 1 = gi S q 1 + 1 := by unfold c_put; rw [gi_at]
    rw [this]; omega
def c_W (S : SS) (t : Nat) : Nat := if t < 60 then 1 else (gi S (14 + 4 * (t - 60) + 2) 1).toNat
theorem c_tok_fp (q : Nat) (S : SS) (t : Nat) : c_fp q S (c_tok q S t) ∧ gi (c_tok q S t) q 1 = gi S q 1 + (c_W S t : Int) := by
  unfold c_tok c_W
  by_cases e : t < 60
  · rw [if_pos e, if_pos e]
    exact ⟨c_put_fp q S _, by unfold c_put; rw [gi_at]; omega⟩
  · rw [if_neg e, if_neg e]
    exact c_pws_fp q (t - 60) _ 0 S
abbrev qok (q : Nat) : Prop := q = 8 ∨ q = 184
theorem c_W_fp {q : Nat} (hq : qok q) {S S1 : SS} (h : c_fp q S S1) {t : Nat} (ht : t < 101) : c_W S1 t = c_W S t := by
  unfold c_W
  by_cases e : t < 60
  · rw [if_pos e, if_pos e]
  · rw [if_neg e, if_neg e, h.1 _ 1 (by omega)]
theorem c_wt_fp {q : Nat} (hq : qok q) {S S1 : SS} (h : c_fp q S S1) : ∀ (L : List Nat), q_lt L → q_wt (c_W S1) L = q_wt (c_W S) L := by
  intro L
  induction L with
  | nil => intro _; rfl
  | cons t L ih => intro hL; rw [q_wt, q_wt, c_W_fp hq h (hL t List.mem_cons_self), ih (fun x hx => hL x (List.mem_cons_of_mem _ hx))]
theorem c_toks_fp {q : Nat} (hq : qok q) : ∀ (L : List Nat) (S : SS), q_lt L → c_fp q S (c_toks q S L) ∧ gi (c_toks q S L) q 1 = gi S q 1 + (q_wt (c_W S) L : Int) := by
  intro L
  induction L with
  | nil => intro S _; exact ⟨c_fp_refl q S, by show gi S q 1 = gi S q 1 + 0; omega⟩
  | cons t L ih =>
    intro S hL
    have T := c_tok_fp q S t
    have hL' : q_lt L := fun x hx => hL x (List.mem_cons_of_mem _ hx)
    have I := ih (c_tok q S t) hL'
    refine ⟨c_fp_trans T.1 I.1, ?_⟩
    show gi (c_toks q (c_tok q S t) L) q 1 = _
    rw [I.2, T.2, c_wt_fp hq T.1 L hL', q_wt]; omega
/-- the open flags and the sheet don't touch one another -/
theorem c_put_op {q : Nat} (hq : qok q) (S : SS) (w : Int64) (i : Nat) (v : Int) : c_put q (si S 180 i v) w = si (c_put q S w) 180 i v := by
  unfold c_put
  have e : gi (si S 180 i v) q 1 = gi S q 1 := gi_off (by omega)
  rw [e]
  exact si_comm (S := sl S (q + 1) (gi S q 1).toNat w) (by omega)
theorem c_pws_op {q : Nat} (hq : qok q) (j : Nat) (i : Nat) (v : Int) : ∀ (c k : Nat) (S : SS), c_pws q j c k (si S 180 i v) = si (c_pws q j c k S) 180 i v := by
  intro c
  induction c with
  | zero => intro k S; rfl
  | succ c ih =>
    intro k S
    show c_pws q j c (k + 1) (c_put q (si S 180 i v) (gl S (14 + 4 * j + 3) k)) = _
    rw [c_put_op hq, ih]
    rfl
theorem c_tok_op {q : Nat} (hq : qok q) (S : SS) (t i : Nat) (v : Int) (ht : t < 101) : c_tok q (si S 180 i v) t = si (c_tok q S t) 180 i v := by
  unfold c_tok
  by_cases e : t < 60
  · rw [if_pos e, if_pos e]; exact c_put_op hq S _ i v
  · rw [if_neg e, if_neg e]
    have e2 : gi (si S 180 i v) (14 + 4 * (t - 60) + 2) 1 = gi S (14 + 4 * (t - 60) + 2) 1 := gi_off (by omega)
    rw [e2]
    exact c_pws_op hq _ i v _ 0 S
theorem c_toks_op {q : Nat} (hq : qok q) (i : Nat) (v : Int) : ∀ (L : List Nat) (S : SS), q_lt L → c_toks q (si S 180 i v) L = si (c_toks q S L) 180 i v := by
  intro L
  induction L with
  | nil => intro S _; rfl
  | cons t L ih =>
    intro S hL
    show c_toks q (c_tok q (si S 180 i v) t) L = _
    rw [c_tok_op hq S t i v (hL t List.mem_cons_self), ih _ (fun x hx => hL x (List.mem_cons_of_mem _ hx))]
    rfl
theorem c_add {S S1 : SS} {q : Nat} {w : Int64} (h : f_Sheet_add S q w = some S1) (h0 : 0 ≤ gi S q 1) (h1 : gi S q 1 < cap q) : S1 = c_put q S w := sh_add h h0 h1
theorem c_addAll_loop {q j : Nat} (hq : qok q) (hj : j < 40) : ∀ (n c i : Nat) (S S1 : SS), f_Sheet_addAll_2 q (14 + 4 * j + 2) n S (i : Int) = some S1 → gi S (14 + 4 * j + 2) 1 = (i : Int) + (c : Int) → gi S (14 + 4 * j + 2) 1 ≤ 6 → 0 ≤ gi S q 1 → gi S q 1 + (c : Int) ≤ cap q → S1 = c_pws q j c i S := by
  intro n
  induction n with
  | zero => intro c i S S1 h; exact absurd h (by simp [f_Sheet_addAll_2])
  | succ n ih =>
    intro c i S S1 h h1 h6 h0 hc
    have h : f_Sheet_addAll_2_b q (14 + 4 * j + 2) (f_Sheet_addAll_2 q (14 + 4 * j + 2) n) S (i : Int) = some S1 := h
    unfold f_Sheet_addAll_2_b at h
    by_cases e : gi S (14 + 4 * j + 2) 1 ≤ (i : Int)
    · rw [if_pos e] at h
      have : c = 0 := by omega
      subst this
      exact (Option.some.inj h).symm
    · rw [if_neg e] at h
      obtain ⟨c, rfl⟩ : ∃ c', c = c' + 1 := ⟨c - 1, by omega⟩
      have cp : cap (14 + 4 * j + 2) = 6 := by
        unfold cap
        rw [if_neg (by omega), if_neg (by omega), if_neg (by omega), if_neg (by omega), if_neg (by omega)]
      obtain ⟨w, ew, h⟩ := w_b1E h
      obtain ⟨S4, e4, h⟩ := w_b1E h
      obtain ⟨_, h⟩ := w_chkE h
      unfold f_Sheet_wordAt at ew
      rw [if_neg (by omega), if_neg (by omega), if_pos (by omega), w_chkP (by omega), Int.toNat_natCast] at ew
      have ew := Option.some.inj ew
      rw [← ew] at e4
      have e4 := c_add e4 h0 (by omega)
      rw [show (i : Int) + 1 = ((i + 1 : Nat) : Int) by omega] at h
      have fp := c_put_fp q S (gl S (14 + 4 * j + 3) i)
      have s5 : gi (c_put q S (gl S (14 + 4 * j + 3) i)) q 1 = gi S q 1 + 1 := by unfold c_put; rw [gi_at]
      rw [e4] at h
      have z : gi (c_put q S (gl S (14 + 4 * j + 3) i)) (14 + 4 * j + 2) 1 = gi S (14 + 4 * j + 2) 1 := fp.1 _ 1 (by omega)
      exact ih c (i + 1) _ S1 h (by rw [z]; omega) (by omega) (by omega) (by omega)
theorem c_addAll {S S1 : SS} {q j : Nat} (hq : qok q) (hj : j < 40) (h : f_Sheet_addAll S q (14 + 4 * j + 2) = some S1) (h6 : 0 ≤ gi S (14 + 4 * j + 2) 1 ∧ gi S (14 + 4 * j + 2) 1 ≤ 6) (h0 : 0 ≤ gi S q 1) (hc : gi S q 1 + gi S (14 + 4 * j + 2) 1 ≤ cap q) : S1 = c_tok q S (60 + j) := by
  have := c_addAll_loop hq hj FU (gi S (14 + 4 * j + 2) 1).toNat 0 S S1 h (by omega) h6.2 h0 (by omega)
  rw [this]
  unfold c_tok
  rw [if_neg (by omega), show 60 + j - 60 = j by omega]
