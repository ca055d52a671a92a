/-- marks that are alike as far as they are used -/
def q_al (M M' : q_MK) (n : Nat) : Prop := ∀ k, k < n → (q_us M k = 1 ↔ q_us M' k = 1) ∧ (q_us M k = 1 → q_kd M k = q_kd M' k ∧ q_lo M k = q_lo M' k ∧ q_hi M k = q_hi M' k ∧ q_mi M k = q_mi M' k ∧ q_gp M k = q_gp M' k)
theorem q_al_symm {M M' : q_MK} {n : Nat} (h : q_al M M' n) : q_al M' M n := fun k hk => by
  obtain ⟨a, b⟩ := h k hk
  refine ⟨a.symm, fun u => ?_⟩
  obtain ⟨b1, b2, b3, b4, b5⟩ := b (a.2 u)
  exact ⟨b1.symm, b2.symm, b3.symm, b4.symm, b5.symm⟩
theorem q_om_al {M M' : q_MK} {n : Nat} (h : q_al M M' n) (high mv i : Int) : ∀ k, k ≤ n → q_om M high mv i k = q_om M' high mv i k := by
  intro k
  induction k with
  | zero => intro _; rfl
  | succ k ih =>
    intro hk
    have ih := ih (by omega)
    obtain ⟨a, b⟩ := h k (by omega)
    have sp := q_om_spec M high mv i k
    rw [q_om_succ, q_om_succ, ← ih]
    have key : (q_cand M high mv i k ∧ (q_om M high mv i k = -1 ∨ q_hi M (q_om M high mv i k).toNat < q_hi M k ∨ (q_hi M (q_om M high mv i k).toNat = q_hi M k ∧ q_kd M k = 4))) ↔ (q_cand M' high mv i k ∧ (q_om M high mv i k = -1 ∨ q_hi M' (q_om M high mv i k).toNat < q_hi M' k ∨ (q_hi M' (q_om M high mv i k).toNat = q_hi M' k ∧ q_kd M' k = 4))) := by
      by_cases u : q_us M k = 1
      · obtain ⟨b1, b2, b3, b4, b5⟩ := b u
        have u' := a.1 u
        unfold q_cand
        rw [b1, b2, b3]
        have e : q_om M high mv i k = -1 ∨ q_hi M (q_om M high mv i k).toNat = q_hi M' (q_om M high mv i k).toNat := by
          rcases sp with ⟨e0, _⟩ | ⟨m, hm, e0, c0, _⟩
          · exact .inl e0
          · right
            rw [e0, Int.toNat_natCast]
            exact ((h m (by omega)).2 c0.1).2.2.1
        rcases e with e | e
        · constructor
          · rintro ⟨⟨_, w2, w3, w4, w5⟩, _⟩; exact ⟨⟨u', w2, w3, w4, w5⟩, .inl e⟩
          · rintro ⟨⟨_, w2, w3, w4, w5⟩, _⟩; exact ⟨⟨u, w2, w3, w4, w5⟩, .inl e⟩
        · rw [e]
          constructor
          · rintro ⟨⟨_, w2, w3, w4, w5⟩, w⟩; exact ⟨⟨u', w2, w3, w4, w5⟩, w⟩
          · rintro ⟨⟨_, w2, w3, w4, w5⟩, w⟩; exact ⟨⟨u, w2, w3, w4, w5⟩, w⟩
      · constructor
        · rintro ⟨w, _⟩; exact absurd w.1 u
        · rintro ⟨w, _⟩; exact absurd (a.2 w.1) u
    by_cases c : q_cand M high mv i k ∧ (q_om M high mv i k = -1 ∨ q_hi M (q_om M high mv i k).toNat < q_hi M k ∨ (q_hi M (q_om M high mv i k).toNat = q_hi M k ∧ q_kd M k = 4))
    · rw [if_pos c, if_pos (key.1 c)]
    · rw [if_neg c, if_neg (fun w => c (key.2 w))]
theorem q_gap_al {M M' : q_MK} {n : Nat} (h : q_al M M' n) {rk rk' : Int → Int → Int → List Nat} (hr : ∀ a b m, rk a b m = rk' a b m) (g : Int) : ∀ c k, k + c ≤ n → q_gap M rk g c k = q_gap M' rk' g c k := by
  intro c
  induction c with
  | zero => intro k _; rfl
  | succ c ih =>
    intro k hk
    obtain ⟨a, b⟩ := h k (by omega)
    rw [q_gap, q_gap, ih (k + 1) (by omega)]
    by_cases u : q_us M k = 1
    · obtain ⟨b1, b2, b3, b4, b5⟩ := b u
      rw [b1, b2, b3, b5, hr]
      by_cases cg : q_gp M' k = g
      · rw [if_pos (show q_us M k = 1 ∧ q_gp M' k = g from ⟨u, cg⟩), if_pos (show q_us M' k = 1 ∧ q_gp M' k = g from ⟨a.1 u, cg⟩)]
      · rw [if_neg (show ¬ (q_us M k = 1 ∧ q_gp M' k = g) from fun w => cg w.2), if_neg (show ¬ (q_us M' k = 1 ∧ q_gp M' k = g) from fun w => cg w.2)]
    · rw [if_neg (show ¬ (q_us M k = 1 ∧ q_gp M k = g) from fun w => u w.1), if_neg (show ¬ (q_us M' k = 1 ∧ q_gp M' k = g) from fun w => u (a.2 w.1))]
theorem q_loop_al {M M' : q_MK} {n : Nat} (h : q_al M M' n) {rk rk' : Int → Int → Int → List Nat} (hr : ∀ a b m, rk a b m = rk' a b m) (low high mv : Int) : ∀ c i, q_loop M n rk low high mv c i = q_loop M' n rk' low high mv c i := by
  intro c
  induction c with
  | zero => intro i; rfl
  | succ c ih =>
    intro i
    rw [q_loop, q_loop, q_gap_al h hr i n 0 (by omega), ih (i + 1), ← q_om_al h high mv i n (Nat.le_refl _)]
    rcases q_om_spec M high mv i n with ⟨e0, _⟩ | ⟨m, hm, e0, c0, _⟩
    · rw [if_pos e0, if_pos e0]
    · obtain ⟨b1, b2, b3, b4, b5⟩ := (h m hm).2 c0.1
      have ne : ¬ q_om M high mv i n = -1 := by omega
      rw [if_neg ne, if_neg ne, e0, Int.toNat_natCast, b3, ih]
      unfold q_pc
      rw [b1, b2, b3, b4, hr, hr]
theorem q_row_al {M M' : q_MK} {n : Nat} (h : q_al M M' n) : ∀ d a b m, q_row M n d a b m = q_row M' n d a b m := by
  intro d
  induction d with
  | zero => intro a b m; rfl
  | succ d ih => intro a b m; exact q_loop_al h ih a b m 100 a
theorem q_all_al {M M' : q_MK} {n : Nat} (h : q_al M M' n) (F : Int) : q_all M n F = q_all M' n F := by
  unfold q_all
  rw [q_gap_al h (q_row_al h 43) 0 n 0 (by omega), q_gap_al h (q_row_al h 43) F n 0 (by omega), q_row_al h 43]
theorem q_good_al {M M' : q_MK} {n : Nat} (h : q_al M M' n) {F : Int} (G : q_good M n F) : q_good M' n F := by
  refine ⟨fun k hk u => ?_, fun k o hk ho ne uk uo => ?_⟩
  · obtain ⟨a, b⟩ := h k hk
    have v := G.1 k hk (a.2 u)
    obtain ⟨b1, b2, b3, b4, b5⟩ := b (a.2 u)
    unfold q_val at v ⊢
    rw [← b1, ← b2, ← b3, ← b4, ← b5]
    exact v
  · have ak := (h k hk).1.2 uk
    have ao := (h o ho).1.2 uo
    exact (wi_eq ((h k hk).2 ak) ((h o ho).2 ao)).2.1 (G.2 k o hk ho ne ak ao)
/-- words of a token -/
def w_from (f : Nat → Int64) : Nat → Nat → List Int64
  | 0, _ => []
  | c + 1, i => f i :: w_from f c (i + 1)
theorem w_from_len (f : Nat → Int64) : ∀ c i, (w_from f c i).length = c := by
  intro c
  induction c with
  | zero => intro i; rfl
  | succ c ih => intro i; rw [w_from, List.length_cons, ih]
theorem w_from_cg {f g : Nat → Int64} : ∀ c i, (∀ j, i ≤ j → j < i + c → f j = g j) → w_from f c i = w_from g c i := by
  intro c
  induction c with
  | zero => intro i _; rfl
  | succ c ih => intro i h; rw [w_from, w_from, h i (by omega) (by omega), ih (i + 1) (fun j a b => h j (by omega) (by omega))]
/-- a row of longs holds a list -/
def HL (f : Nat → Int64) (n : Int) (L : List Int64) : Prop := n = (L.length : Int) ∧ ∀ i, i < L.length → L[i]? = some (f i)
theorem HL_nil (f : Nat → Int64) : HL f 0 [] := ⟨rfl, fun i h => absurd h (Nat.not_lt_zero i)⟩
theorem HL_add {f g : Nat → Int64} {n m : Int} {L : List Int64} {w : Int64} (h : HL f n L) (hm : m = n + 1) (hg : ∀ i, i ≠ n.toNat → g i = f i) (hw : g n.toNat = w) : HL g m (L ++ [w]) := by
  obtain ⟨h1, h2⟩ := h
  have e : n.toNat = L.length := by omega
  refine ⟨by rw [List.length_append]; show m = ((L.length + 1 : Nat) : Int); omega, fun i hi => ?_⟩
  rw [List.length_append] at hi
  have hi : i < L.length + 1 := hi
  by_cases c : i < L.length
  · rw [List.getElem?_append_left c, hg i (by omega)]; exact h2 i c
  · have ei : i = L.length := by omega
    rw [ei, List.getElem?_append_right (Nat.le_refl _), Nat.sub_self, ← e, hw]; rfl
theorem HL_eq {f g : Nat → Int64} {n m : Int} {L : List Int64} (h : HL f n L) (h' : HL g m L) : n = m ∧ ∀ i : Nat, (i : Int) < n → f i = g i := by
  refine ⟨h.1.trans h'.1.symm, fun i hi => ?_⟩
  have hi : i < L.length := by have := h.1; omega
  exact Option.some.inj ((h.2 i hi).symm.trans (h'.2 i hi))
theorem HL_cg {f g : Nat → Int64} {n m : Int} {L : List Int64} (h : HL f n L) (e : m = n) (hg : ∀ i : Nat, (i : Int) < n → g i = f i) : HL g m L := ⟨by rw [e]; exact h.1, fun i hi => by rw [hg i (by have := h.1; omega)]; exact h.2 i hi⟩
/-- the words of tokens -/
def w_toks (W : Nat → List Int64) : List Nat → List Int64
  | [] => []
  | t :: L => W t ++ w_toks W L
theorem w_toks_cg {W V : Nat → List Int64} : ∀ L : List Nat, (∀ t, t ∈ L → W t = V t) → w_toks W L = w_toks V L := by
  intro L
  induction L with
  | nil => intro _; rfl
  | cons t L ih => intro h; rw [w_toks, w_toks, h t List.mem_cons_self, ih (fun x hx => h x (List.mem_cons_of_mem _ hx))]
def c_wl (S : SS) (t : Nat) : List Int64 := if t < 60 then [gl S 5 t] else w_from (gl S (14 + 4 * (t - 60) + 3)) (gi S (14 + 4 * (t - 60) + 2) 1).toNat 0
def m_wl (T : SS) (t : Nat) : List Int64 := if t < 60 then [gl T 193 t] else w_from (fun i => gl T 206 (6 * (t - 60) + i)) (gi T 204 (t - 60)).toNat 0
theorem c_put_HL {q : Nat} {S : SS} {L : List Int64} {w : Int64} (h : HL (gl S (q + 1)) (gi S q 1) L) : HL (gl (c_put q S w) (q + 1)) (gi (c_put q S w) q 1) (L ++ [w]) := by
  refine HL_add h (by unfold c_put; rw [gi_at]) (fun i hi => ?_) ?_
  · show gl (sl S (q + 1) (gi S q 1).toNat w) (q + 1) i = _
    rw [gl_slN, if_neg (fun z => hi z.2)]
  · show gl (sl S (q + 1) (gi S q 1).toNat w) (q + 1) _ = _
    rw [gl_slN, if_pos ⟨rfl, rfl⟩]
theorem c_pws_HL {q j : Nat} (hj : 14 + 4 * j + 3 ≠ q + 1) : ∀ (c i : Nat) (S : SS) (L : List Int64), HL (gl S (q + 1)) (gi S q 1) L → HL (gl (c_pws q j c i S) (q + 1)) (gi (c_pws q j c i S) q 1) (L ++ w_from (gl S (14 + 4 * j + 3)) c i) := by
  intro c
  induction c with
  | zero => intro i S L h; rw [w_from, List.append_nil]; exact h
  | succ c ih =>
    intro i S L h
    have I := ih (i + 1) (c_put q S (gl S (14 + 4 * j + 3) i)) _ (c_put_HL (w := gl S (14 + 4 * j + 3) i) h)
    have e : w_from (gl (c_put q S (gl S (14 + 4 * j + 3) i)) (14 + 4 * j + 3)) c (i + 1) = w_from (gl S (14 + 4 * j + 3)) c (i + 1) := w_from_cg c (i + 1) (fun k _ _ => (c_put_fp q S _).2.1 _ k hj)
    rw [e, List.append_assoc] at I
    exact I
theorem c_tok_HL {q : Nat} (hq : qok q) {t : Nat} (ht : t < 100) (S : SS) {L : List Int64} (h : HL (gl S (q + 1)) (gi S q 1) L) : HL (gl (c_tok q S t) (q + 1)) (gi (c_tok q S t) q 1) (L ++ c_wl S t) := by
  unfold c_tok c_wl
  by_cases e : t < 60
  · rw [if_pos e, if_pos e]; exact c_put_HL h
  · rw [if_neg e, if_neg e]; exact c_pws_HL (by omega) _ 0 S L h
theorem c_wl_fp {q : Nat} (hq : qok q) {S S1 : SS} (h : c_fp q S S1) {t : Nat} (ht : t < 100) : c_wl S1 t = c_wl S t := by
  unfold c_wl
  by_cases e : t < 60
  · rw [if_pos e, if_pos e, h.2.1 5 t (by omega)]
  · rw [if_neg e, if_neg e, h.1 (14 + 4 * (t - 60) + 2) 1 (by omega)]
    exact w_from_cg _ 0 (fun j _ _ => h.2.1 _ j (by omega))
theorem c_toks_HL {q : Nat} (hq : qok q) : ∀ (A : List Nat) (S : SS) (L : List Int64), (∀ t, t ∈ A → t < 100) → HL (gl S (q + 1)) (gi S q 1) L → HL (gl (c_toks q S A) (q + 1)) (gi (c_toks q S A) q 1) (L ++ w_toks (c_wl S) A) := by
  intro A
  induction A with
  | nil => intro S L _ h; rw [w_toks, List.append_nil]; exact h
  | cons t A ih =>
    intro S L hA h
    have I := ih (c_tok q S t) _ (fun x hx => hA x (List.mem_cons_of_mem _ hx)) (c_tok_HL hq (hA t List.mem_cons_self) S h)
    have e : w_toks (c_wl (c_tok q S t)) A = w_toks (c_wl S) A := w_toks_cg A (fun x hx => c_wl_fp hq (c_tok_fp q S t).1 (hA x (List.mem_cons_of_mem _ hx)))
    rw [e, List.append_assoc] at I
    exact I
