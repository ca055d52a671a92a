/-! the functions give an answer: rules; the class's state between its steps -/
def okk {α : Type} (x : Option α) (P : α → Prop) : Prop := ∃ r, x = some r ∧ P r
theorem ok_some {α : Type} {P : α → Prop} {r : α} (h : P r) : okk (some r) P := ⟨r, rfl, h⟩
theorem ok_chk {α : Type} {P : α → Prop} {c : Prop} [Decidable c] {x : Option α} (hc : c) (h : okk x P) : okk (w_chk c x) P := by rw [w_chkP hc]; exact h
theorem ok_lt {α β : Type} {P : β → Prop} {x : α} {k : α → Option β} (h : ∀ y, y = x → okk (k y) P) : okk (w_lt x k) P := h x rfl
theorem ok_if {α : Type} {P : α → Prop} {c : Prop} [Decidable c] {x y : Option α} (h1 : c → okk x P) (h2 : ¬ c → okk y P) : okk (if c then x else y) P := by
  by_cases hc : c
  · rw [if_pos hc]; exact h1 hc
  · rw [if_neg hc]; exact h2 hc
theorem ok_b1 {α β : Type} {R : α → Prop} {P : β → Prop} {x : Option α} {k : α → Option β} (h : okk x R) (hk : ∀ a, R a → okk (k a) P) : okk (w_b1 x k) P := by
  obtain ⟨a, rfl, ha⟩ := h
  exact hk a ha
theorem ok_b2 {α σ β : Type} {R : α × σ → Prop} {P : β → Prop} {x : Option (α × σ)} {k : α → σ → Option β} (h : okk x R) (hk : ∀ a t, R (a, t) → okk (k a t) P) : okk (w_b2 x k) P := by
  obtain ⟨⟨a, t⟩, rfl, ha⟩ := h
  exact hk a t ha
theorem ok_b3 {α σ β : Type} {R : Option α × σ → Prop} {P : β → Prop} {x : Option (Option α × σ)} {t : σ → Option β} {k : α → σ → Option β} (h : okk x R) (ht : ∀ s, R (none, s) → okk (t s) P) (hk : ∀ a s, R (some a, s) → okk (k a s) P) : okk (w_b3 x t k) P := by
  obtain ⟨⟨o, s⟩, rfl, ha⟩ := h
  cases o with
  | none => exact ht s ha
  | some a => exact hk a s ha
theorem ok_on {β : Type} {P : β → Prop} {o : Option Nat} {x : Option β} {k : Nat → Option β} (h1 : o = none → okk x P) (h2 : ∀ j, o = some j → okk (k j) P) : okk (w_on o x k) P := by
  cases o with
  | none => exact h1 rfl
  | some j => exact h2 j rfl
theorem ok_mono {α : Type} {P R : α → Prop} {x : Option α} (h : okk x P) (hp : ∀ r, P r → R r) : okk x R := by
  obtain ⟨r, e, h⟩ := h
  exact ⟨r, e, hp r h⟩
theorem cap_le (q : Nat) : 6 ≤ cap q ∧ cap q ≤ 300 := by
  unfold cap
  repeat' split
  all_goals omega
theorem gq_sq (S : SS) (r k r' k' : Nat) (v : Option Nat) : gq (sq S r k v) r' k' = if r' = r ∧ k' = k then v else gq S r' k' := by
  unfold gq sq
  by_cases h : r' = r
  · subst h
    by_cases h2 : k' = k
    · simp [up2, h2]
    · simp [up2, h2]
  · simp [up2, h]
theorem gi_ne {S S1 : SS} {r k r' k' : Nat} {v : Int} (e : S1 = si S r k v) (h : ¬ (r' = r ∧ k' = k)) : gi S1 r' k' = gi S r' k' := by rw [e, gi_si, if_neg h]
theorem gi_eq {S S1 : SS} {r k : Nat} {v : Int} (e : S1 = si S r k v) : gi S1 r k = v := by rw [e, gi_si, if_pos ⟨rfl, rfl⟩]
theorem gi_sl {S S1 : SS} {r k r' k' : Nat} {v : Int64} (e : S1 = sl S r k v) : gi S1 r' k' = gi S r' k' := by rw [e]; rfl
theorem gi_sq {S S1 : SS} {r k r' k' : Nat} {v : Option Nat} (e : S1 = sq S r k v) : gi S1 r' k' = gi S r' k' := by rw [e]; rfl
def loB (r k : Nat) : Int := (if shOk r then (if k = 1 then 0 else (-2147483648)) else if 14 ≤ r ∧ r < 174 ∧ (r - 14) % 4 = 0 then (if k = 2 then -1 else if k = 3 then 0 else if k = 4 then -1 else if k = 5 then -1 else if k = 6 then -1 else if k = 7 then 0 else if k = 8 then 0 else if k = 9 then 0 else (-2147483648)) else if 14 ≤ r ∧ r < 174 ∧ (r - 14) % 4 = 1 then -1 else if r = 1 then (if k = 1 then 0 else (-2147483648)) else if r = 10 then (if k = 3 then 0 else if k = 4 then 0 else if k = 5 then 0 else (-2147483648)) else if r = 177 then (if k = 3 then 0 else if k = 4 then 0 else if k = 5 then 0 else (-2147483648)) else if r = 178 then (if k = 2 then 0 else (-2147483648)) else if r = 183 then (if k = 5 then 1 else if k = 6 then 1 else if k = 7 then 0 else if k = 8 then 0 else if k = 9 then 0 else if k = 10 then 0 else if k = 11 then 0 else (-2147483648)) else if r = 180 then 0 else if r = 182 then 0 else if r = 191 then 0 else (-2147483648))
def hiB (r k : Nat) : Int := (if shOk r then (if k = 1 then cap r else 2147483647) else if 14 ≤ r ∧ r < 174 ∧ (r - 14) % 4 = 0 then (if k = 2 then 5 else if k = 3 then 2 else if k = 4 then 999 else if k = 5 then 999 else if k = 6 then 999 else if k = 7 then 1 else if k = 8 then 1 else if k = 9 then 1 else 2147483647) else if 14 ≤ r ∧ r < 174 ∧ (r - 14) % 4 = 1 then 999 else if r = 1 then (if k = 1 then 2000 else 2147483647) else if r = 10 then (if k = 3 then 40 else if k = 4 then 40 else if k = 5 then 40 else 2147483647) else if r = 177 then (if k = 3 then 60 else if k = 4 then 2000 else if k = 5 then 2000 else 2147483647) else if r = 178 then (if k = 2 then 40 else 2147483647) else if r = 183 then (if k = 5 then 9 else if k = 6 then 9 else if k = 7 then 1 else if k = 8 then 255 else if k = 9 then 8 else if k = 10 then 400 else if k = 11 then 150 else 2147483647) else if r = 180 then 1 else if r = 182 then 2147483647 else if r = 191 then 999 else 2147483647)
def CX (b : Nat) (S : SS) : Prop := (∀ r k, loB r k ≤ gi S r k ∧ gi S r k ≤ hiB r k) ∧ (∀ k, k < 40 → gq S 11 k = some k) ∧ (∀ k j, gq S 179 k = some j → j < 40) ∧ (∀ k q, gq S 178 k = some q → shOk q) ∧ (b = 1 → gq S 178 3 ≠ none ∧ gq S 178 4 ≠ none) ∧ (2 ≤ b → (gq S 177 0 = some 1 ∧ gq S 177 1 = some 10 ∧ gq S 177 2 = some 3) ∧ gi S 10 3 + gi S 10 4 = (b : Int) - 2)
theorem CX.set {b : Nat} {S : SS} (h : CX b S) {r k : Nat} {v : Int} (h1 : loB r k ≤ v) (h2 : v ≤ hiB r k) (hn : b < 2 ∨ ¬ (r = 10 ∧ (k = 3 ∨ k = 4))) : CX b (si S r k v) := by
  refine ⟨fun r' k' => ?_, h.2.1, h.2.2.1, h.2.2.2.1, h.2.2.2.2.1, fun hb => ⟨(h.2.2.2.2.2 hb).1, ?_⟩⟩
  · rw [gi_si]
    by_cases e : r' = r ∧ k' = k
    · rw [if_pos e, e.1, e.2]; exact ⟨h1, h2⟩
    · rw [if_neg e]; exact h.1 r' k'
  · rw [gi_si, gi_si, if_neg (by omega), if_neg (by omega)]; exact (h.2.2.2.2.2 hb).2
theorem cs_sl {b : Nat} {S : SS} (h : CX b S) {r k : Nat} {v : Int64} : CX b (sl S r k v) := h
theorem cs_q179 {b : Nat} {S : SS} (h : CX b S) {k j : Nat} (hj : j < 40) : CX b (sq S 179 k (some j)) := by
  refine ⟨h.1, fun k' hk => ?_, fun k' j' e => ?_, fun k' q e => ?_, fun hb => ?_, fun hb => ?_⟩
  · rw [gq_sq, if_neg (by omega)]; exact h.2.1 k' hk
  · rw [gq_sq] at e
    by_cases q : 179 = 179 ∧ k' = k
    · rw [if_pos q] at e; cases e; exact hj
    · rw [if_neg q] at e; exact h.2.2.1 k' j' e
  · rw [gq_sq, if_neg (by omega)] at e; exact h.2.2.2.1 k' q e
  · rw [gq_sq, gq_sq, if_neg (by omega), if_neg (by omega)]; exact h.2.2.2.2.1 hb
  · rw [gq_sq, gq_sq, gq_sq, if_neg (by omega), if_neg (by omega), if_neg (by omega)]; exact h.2.2.2.2.2 hb
theorem cs_q178 {b : Nat} {S : SS} (h : CX b S) {k j : Nat} (hj : shOk j) : CX b (sq S 178 k (some j)) := by
  refine ⟨h.1, fun k' hk => ?_, fun k' j' e => ?_, fun k' q e => ?_, fun hb => ?_, fun hb => ?_⟩
  · rw [gq_sq, if_neg (by omega)]; exact h.2.1 k' hk
  · rw [gq_sq, if_neg (by omega)] at e; exact h.2.2.1 k' j' e
  · rw [gq_sq] at e
    by_cases q2 : 178 = 178 ∧ k' = k
    · rw [if_pos q2] at e; cases e; exact hj
    · rw [if_neg q2] at e; exact h.2.2.2.1 k' q e
  · have h5 := h.2.2.2.2.1 hb
    constructor
    · rw [gq_sq]; split
      · exact fun q => nomatch q
      · exact h5.1
    · rw [gq_sq]; split
      · exact fun q => nomatch q
      · exact h5.2
  · rw [gq_sq, gq_sq, gq_sq, if_neg (by omega), if_neg (by omega), if_neg (by omega)]; exact h.2.2.2.2.2 hb
theorem cs_q177 {b : Nat} {S : SS} (h : CX b S) (hn : b < 2) {k : Nat} {v : Option Nat} : CX b (sq S 177 k v) := by
  refine ⟨h.1, fun k' hk => ?_, fun k' j' e => ?_, fun k' q e => ?_, fun hb => ?_, fun hb => absurd hb (by omega)⟩
  · rw [gq_sq, if_neg (by omega)]; exact h.2.1 k' hk
  · rw [gq_sq, if_neg (by omega)] at e; exact h.2.2.1 k' j' e
  · rw [gq_sq, if_neg (by omega)] at e; exact h.2.2.2.1 k' q e
  · rw [gq_sq, gq_sq, if_neg (by omega), if_neg (by omega)]; exact h.2.2.2.2.1 hb
theorem CX.weak {b : Nat} {S : SS} (h : CX b S) : CX 0 S := ⟨h.1, h.2.1, h.2.2.1, h.2.2.2.1, fun hb => absurd hb (by decide), fun hb => absurd hb (by decide)⟩
theorem CX.one {S : SS} (h : CX 0 S) (h3 : gq S 178 3 ≠ none) (h4 : gq S 178 4 ≠ none) : CX 1 S := ⟨h.1, h.2.1, h.2.2.1, h.2.2.2.1, fun _ => ⟨h3, h4⟩, fun hb => absurd hb (by decide)⟩
theorem CX.two {S : SS} {t : Nat} (h : CX 0 S) (h3 : gq S 177 0 = some 1 ∧ gq S 177 1 = some 10 ∧ gq S 177 2 = some 3) (h4 : gi S 10 3 + gi S 10 4 = (t : Int)) : CX (t + 2) S := ⟨h.1, h.2.1, h.2.2.1, h.2.2.2.1, fun hb => absurd hb (by omega), fun _ => ⟨h3, by omega⟩⟩
theorem cx_n {S : SS} (h : CX 1 S) : gq S 178 3 ≠ none ∧ gq S 178 4 ≠ none := h.2.2.2.2.1 rfl
theorem lo_sh {q : Nat} (hq : shOk q) : loB q 1 = 0 ∧ hiB q 1 = cap q := by unfold loB hiB; rw [if_pos hq, if_pos hq]; exact ⟨rfl, rfl⟩
theorem cx_sh {b : Nat} {S : SS} (h : CX b S) {q : Nat} (hq : shOk q) : 0 ≤ gi S q 1 ∧ gi S q 1 ≤ cap q ∧ 6 ≤ cap q ∧ cap q ≤ 300 := by
  have h1 := h.1 q 1
  rw [(lo_sh hq).1, (lo_sh hq).2] at h1
  exact ⟨h1.1, h1.2, cap_le q⟩
theorem cs_sh {b : Nat} {S : SS} (h : CX b S) {q : Nat} (hq : shOk q) {v : Int} (h1 : 0 ≤ v) (h2 : v ≤ cap q) : CX b (si S q 1 v) := h.set (by rw [(lo_sh hq).1]; exact h1) (by rw [(lo_sh hq).2]; exact h2) (.inr (by omega))
theorem lo_nm {j : Nat} (hj : j < 40) (k : Nat) : loB (14 + 4 * j + 1) k = -1 ∧ hiB (14 + 4 * j + 1) k = 999 := by
  have h1 : ¬ shOk (14 + 4 * j + 1) := by omega
  have h2 : ¬ (14 ≤ 14 + 4 * j + 1 ∧ 14 + 4 * j + 1 < 174 ∧ (14 + 4 * j + 1 - 14) % 4 = 0) := by omega
  have h3 : 14 ≤ 14 + 4 * j + 1 ∧ 14 + 4 * j + 1 < 174 ∧ (14 + 4 * j + 1 - 14) % 4 = 1 := by omega
  constructor
  · unfold loB; rw [if_neg h1, if_neg h2, if_pos h3]
  · unfold hiB; rw [if_neg h1, if_neg h2, if_pos h3]
theorem cx_nm {b : Nat} {S : SS} (h : CX b S) {j : Nat} (hj : j < 40) (k : Nat) : -1 ≤ gi S (14 + 4 * j + 1) k ∧ gi S (14 + 4 * j + 1) k ≤ 999 := by
  have h1 := h.1 (14 + 4 * j + 1) k
  rw [(lo_nm hj k).1, (lo_nm hj k).2] at h1
  exact h1
theorem cs_nm {b : Nat} {S : SS} (h : CX b S) {j : Nat} (hj : j < 40) {k : Nat} {v : Int} (h1 : -1 ≤ v) (h2 : v ≤ 999) : CX b (si S (14 + 4 * j + 1) k v) := h.set (by rw [(lo_nm hj k).1]; exact h1) (by rw [(lo_nm hj k).2]; exact h2) (.inr (by omega))
theorem lo_mk_2 {j : Nat} (hj : j < 40) : loB (14 + 4 * j) 2 = -1 ∧ hiB (14 + 4 * j) 2 = 5 := by
  have h1 : ¬ shOk (14 + 4 * j) := by omega
  have h2 : 14 ≤ 14 + 4 * j ∧ 14 + 4 * j < 174 ∧ (14 + 4 * j - 14) % 4 = 0 := by omega
  constructor
  · unfold loB; rw [if_neg h1, if_pos h2]; rfl
  · unfold hiB; rw [if_neg h1, if_pos h2]; rfl
theorem cx_mk_2 {b : Nat} {S : SS} (h : CX b S) {j : Nat} (hj : j < 40) : -1 ≤ gi S (14 + 4 * j) 2 ∧ gi S (14 + 4 * j) 2 ≤ 5 := by
  have h1 := h.1 (14 + 4 * j) 2
  rw [(lo_mk_2 hj).1, (lo_mk_2 hj).2] at h1
  exact h1
theorem cs_mk_2 {b : Nat} {S : SS} (h : CX b S) {j : Nat} (hj : j < 40) {v : Int} (h1 : -1 ≤ v) (h2 : v ≤ 5) : CX b (si S (14 + 4 * j) 2 v) := h.set (by rw [(lo_mk_2 hj).1]; exact h1) (by rw [(lo_mk_2 hj).2]; exact h2) (.inr (by omega))
theorem lo_mk_3 {j : Nat} (hj : j < 40) : loB (14 + 4 * j) 3 = 0 ∧ hiB (14 + 4 * j) 3 = 2 := by
  have h1 : ¬ shOk (14 + 4 * j) := by omega
  have h2 : 14 ≤ 14 + 4 * j ∧ 14 + 4 * j < 174 ∧ (14 + 4 * j - 14) % 4 = 0 := by omega
  constructor
  · unfold loB; rw [if_neg h1, if_pos h2]; rfl
  · unfold hiB; rw [if_neg h1, if_pos h2]; rfl
theorem cx_mk_3 {b : Nat} {S : SS} (h : CX b S) {j : Nat} (hj : j < 40) : 0 ≤ gi S (14 + 4 * j) 3 ∧ gi S (14 + 4 * j) 3 ≤ 2 := by
  have h1 := h.1 (14 + 4 * j) 3
  rw [(lo_mk_3 hj).1, (lo_mk_3 hj).2] at h1
  exact h1
theorem cs_mk_3 {b : Nat} {S : SS} (h : CX b S) {j : Nat} (hj : j < 40) {v : Int} (h1 : 0 ≤ v) (h2 : v ≤ 2) : CX b (si S (14 + 4 * j) 3 v) := h.set (by rw [(lo_mk_3 hj).1]; exact h1) (by rw [(lo_mk_3 hj).2]; exact h2) (.inr (by omega))
theorem lo_mk_4 {j : Nat} (hj : j < 40) : loB (14 + 4 * j) 4 = -1 ∧ hiB (14 + 4 * j) 4 = 999 := by
  have h1 : ¬ shOk (14 + 4 * j) := by omega
  have h2 : 14 ≤ 14 + 4 * j ∧ 14 + 4 * j < 174 ∧ (14 + 4 * j - 14) % 4 = 0 := by omega
  constructor
  · unfold loB; rw [if_neg h1, if_pos h2]; rfl
  · unfold hiB; rw [if_neg h1, if_pos h2]; rfl
theorem cx_mk_4 {b : Nat} {S : SS} (h : CX b S) {j : Nat} (hj : j < 40) : -1 ≤ gi S (14 + 4 * j) 4 ∧ gi S (14 + 4 * j) 4 ≤ 999 := by
  have h1 := h.1 (14 + 4 * j) 4
  rw [(lo_mk_4 hj).1, (lo_mk_4 hj).2] at h1
  exact h1
theorem cs_mk_4 {b : Nat} {S : SS} (h : CX b S) {j : Nat} (hj : j < 40) {v : Int} (h1 : -1 ≤ v) (h2 : v ≤ 999) : CX b (si S (14 + 4 * j) 4 v) := h.set (by rw [(lo_mk_4 hj).1]; exact h1) (by rw [(lo_mk_4 hj).2]; exact h2) (.inr (by omega))
theorem lo_mk_5 {j : Nat} (hj : j < 40) : loB (14 + 4 * j) 5 = -1 ∧ hiB (14 + 4 * j) 5 = 999 := by
  have h1 : ¬ shOk (14 + 4 * j) := by omega
  have h2 : 14 ≤ 14 + 4 * j ∧ 14 + 4 * j < 174 ∧ (14 + 4 * j - 14) % 4 = 0 := by omega
  constructor
  · unfold loB; rw [if_neg h1, if_pos h2]; rfl
  · unfold hiB; rw [if_neg h1, if_pos h2]; rfl
theorem cx_mk_5 {b : Nat} {S : SS} (h : CX b S) {j : Nat} (hj : j < 40) : -1 ≤ gi S (14 + 4 * j) 5 ∧ gi S (14 + 4 * j) 5 ≤ 999 := by
  have h1 := h.1 (14 + 4 * j) 5
  rw [(lo_mk_5 hj).1, (lo_mk_5 hj).2] at h1
  exact h1
theorem cs_mk_5 {b : Nat} {S : SS} (h : CX b S) {j : Nat} (hj : j < 40) {v : Int} (h1 : -1 ≤ v) (h2 : v ≤ 999) : CX b (si S (14 + 4 * j) 5 v) := h.set (by rw [(lo_mk_5 hj).1]; exact h1) (by rw [(lo_mk_5 hj).2]; exact h2) (.inr (by omega))
theorem lo_mk_6 {j : Nat} (hj : j < 40) : loB (14 + 4 * j) 6 = -1 ∧ hiB (14 + 4 * j) 6 = 999 := by
  have h1 : ¬ shOk (14 + 4 * j) := by omega
  have h2 : 14 ≤ 14 + 4 * j ∧ 14 + 4 * j < 174 ∧ (14 + 4 * j - 14) % 4 = 0 := by omega
  constructor
  · unfold loB; rw [if_neg h1, if_pos h2]; rfl
  · unfold hiB; rw [if_neg h1, if_pos h2]; rfl
theorem cx_mk_6 {b : Nat} {S : SS} (h : CX b S) {j : Nat} (hj : j < 40) : -1 ≤ gi S (14 + 4 * j) 6 ∧ gi S (14 + 4 * j) 6 ≤ 999 := by
  have h1 := h.1 (14 + 4 * j) 6
  rw [(lo_mk_6 hj).1, (lo_mk_6 hj).2] at h1
  exact h1
theorem cs_mk_6 {b : Nat} {S : SS} (h : CX b S) {j : Nat} (hj : j < 40) {v : Int} (h1 : -1 ≤ v) (h2 : v ≤ 999) : CX b (si S (14 + 4 * j) 6 v) := h.set (by rw [(lo_mk_6 hj).1]; exact h1) (by rw [(lo_mk_6 hj).2]; exact h2) (.inr (by omega))
theorem lo_mk_7 {j : Nat} (hj : j < 40) : loB (14 + 4 * j) 7 = 0 ∧ hiB (14 + 4 * j) 7 = 1 := by
  have h1 : ¬ shOk (14 + 4 * j) := by omega
  have h2 : 14 ≤ 14 + 4 * j ∧ 14 + 4 * j < 174 ∧ (14 + 4 * j - 14) % 4 = 0 := by omega
  constructor
  · unfold loB; rw [if_neg h1, if_pos h2]; rfl
  · unfold hiB; rw [if_neg h1, if_pos h2]; rfl
theorem cx_mk_7 {b : Nat} {S : SS} (h : CX b S) {j : Nat} (hj : j < 40) : 0 ≤ gi S (14 + 4 * j) 7 ∧ gi S (14 + 4 * j) 7 ≤ 1 := by
  have h1 := h.1 (14 + 4 * j) 7
  rw [(lo_mk_7 hj).1, (lo_mk_7 hj).2] at h1
  exact h1
theorem cs_mk_7 {b : Nat} {S : SS} (h : CX b S) {j : Nat} (hj : j < 40) {v : Int} (h1 : 0 ≤ v) (h2 : v ≤ 1) : CX b (si S (14 + 4 * j) 7 v) := h.set (by rw [(lo_mk_7 hj).1]; exact h1) (by rw [(lo_mk_7 hj).2]; exact h2) (.inr (by omega))
theorem lo_mk_8 {j : Nat} (hj : j < 40) : loB (14 + 4 * j) 8 = 0 ∧ hiB (14 + 4 * j) 8 = 1 := by
  have h1 : ¬ shOk (14 + 4 * j) := by omega
  have h2 : 14 ≤ 14 + 4 * j ∧ 14 + 4 * j < 174 ∧ (14 + 4 * j - 14) % 4 = 0 := by omega
  constructor
  · unfold loB; rw [if_neg h1, if_pos h2]; rfl
  · unfold hiB; rw [if_neg h1, if_pos h2]; rfl
theorem cx_mk_8 {b : Nat} {S : SS} (h : CX b S) {j : Nat} (hj : j < 40) : 0 ≤ gi S (14 + 4 * j) 8 ∧ gi S (14 + 4 * j) 8 ≤ 1 := by
  have h1 := h.1 (14 + 4 * j) 8
  rw [(lo_mk_8 hj).1, (lo_mk_8 hj).2] at h1
  exact h1
theorem cs_mk_8 {b : Nat} {S : SS} (h : CX b S) {j : Nat} (hj : j < 40) {v : Int} (h1 : 0 ≤ v) (h2 : v ≤ 1) : CX b (si S (14 + 4 * j) 8 v) := h.set (by rw [(lo_mk_8 hj).1]; exact h1) (by rw [(lo_mk_8 hj).2]; exact h2) (.inr (by omega))
theorem lo_mk_9 {j : Nat} (hj : j < 40) : loB (14 + 4 * j) 9 = 0 ∧ hiB (14 + 4 * j) 9 = 1 := by
  have h1 : ¬ shOk (14 + 4 * j) := by omega
  have h2 : 14 ≤ 14 + 4 * j ∧ 14 + 4 * j < 174 ∧ (14 + 4 * j - 14) % 4 = 0 := by omega
  constructor
  · unfold loB; rw [if_neg h1, if_pos h2]; rfl
  · unfold hiB; rw [if_neg h1, if_pos h2]; rfl
theorem cx_mk_9 {b : Nat} {S : SS} (h : CX b S) {j : Nat} (hj : j < 40) : 0 ≤ gi S (14 + 4 * j) 9 ∧ gi S (14 + 4 * j) 9 ≤ 1 := by
  have h1 := h.1 (14 + 4 * j) 9
  rw [(lo_mk_9 hj).1, (lo_mk_9 hj).2] at h1
  exact h1
theorem cs_mk_9 {b : Nat} {S : SS} (h : CX b S) {j : Nat} (hj : j < 40) {v : Int} (h1 : 0 ≤ v) (h2 : v ≤ 1) : CX b (si S (14 + 4 * j) 9 v) := h.set (by rw [(lo_mk_9 hj).1]; exact h1) (by rw [(lo_mk_9 hj).2]; exact h2) (.inr (by omega))
theorem lo_mk_10 {j : Nat} (hj : j < 40) : loB (14 + 4 * j) 10 = (-2147483648) ∧ hiB (14 + 4 * j) 10 = 2147483647 := by
  have h1 : ¬ shOk (14 + 4 * j) := by omega
  have h2 : 14 ≤ 14 + 4 * j ∧ 14 + 4 * j < 174 ∧ (14 + 4 * j - 14) % 4 = 0 := by omega
  constructor
  · unfold loB; rw [if_neg h1, if_pos h2]; rfl
  · unfold hiB; rw [if_neg h1, if_pos h2]; rfl
theorem cx_mk_10 {b : Nat} {S : SS} (h : CX b S) {j : Nat} (hj : j < 40) : (-2147483648) ≤ gi S (14 + 4 * j) 10 ∧ gi S (14 + 4 * j) 10 ≤ 2147483647 := by
  have h1 := h.1 (14 + 4 * j) 10
  rw [(lo_mk_10 hj).1, (lo_mk_10 hj).2] at h1
  exact h1
theorem cs_mk_10 {b : Nat} {S : SS} (h : CX b S) {j : Nat} (hj : j < 40) {v : Int} (h1 : (-2147483648) ≤ v) (h2 : v ≤ 2147483647) : CX b (si S (14 + 4 * j) 10 v) := h.set (by rw [(lo_mk_10 hj).1]; exact h1) (by rw [(lo_mk_10 hj).2]; exact h2) (.inr (by omega))
theorem lo_mk_11 {j : Nat} (hj : j < 40) : loB (14 + 4 * j) 11 = (-2147483648) ∧ hiB (14 + 4 * j) 11 = 2147483647 := by
  have h1 : ¬ shOk (14 + 4 * j) := by omega
  have h2 : 14 ≤ 14 + 4 * j ∧ 14 + 4 * j < 174 ∧ (14 + 4 * j - 14) % 4 = 0 := by omega
  constructor
  · unfold loB; rw [if_neg h1, if_pos h2]; rfl
  · unfold hiB; rw [if_neg h1, if_pos h2]; rfl
theorem cx_mk_11 {b : Nat} {S : SS} (h : CX b S) {j : Nat} (hj : j < 40) : (-2147483648) ≤ gi S (14 + 4 * j) 11 ∧ gi S (14 + 4 * j) 11 ≤ 2147483647 := by
  have h1 := h.1 (14 + 4 * j) 11
  rw [(lo_mk_11 hj).1, (lo_mk_11 hj).2] at h1
  exact h1
theorem cs_mk_11 {b : Nat} {S : SS} (h : CX b S) {j : Nat} (hj : j < 40) {v : Int} (h1 : (-2147483648) ≤ v) (h2 : v ≤ 2147483647) : CX b (si S (14 + 4 * j) 11 v) := h.set (by rw [(lo_mk_11 hj).1]; exact h1) (by rw [(lo_mk_11 hj).2]; exact h2) (.inr (by omega))
theorem lo_mk_12 {j : Nat} (hj : j < 40) : loB (14 + 4 * j) 12 = (-2147483648) ∧ hiB (14 + 4 * j) 12 = 2147483647 := by
  have h1 : ¬ shOk (14 + 4 * j) := by omega
  have h2 : 14 ≤ 14 + 4 * j ∧ 14 + 4 * j < 174 ∧ (14 + 4 * j - 14) % 4 = 0 := by omega
  constructor
  · unfold loB; rw [if_neg h1, if_pos h2]; rfl
  · unfold hiB; rw [if_neg h1, if_pos h2]; rfl
theorem cx_mk_12 {b : Nat} {S : SS} (h : CX b S) {j : Nat} (hj : j < 40) : (-2147483648) ≤ gi S (14 + 4 * j) 12 ∧ gi S (14 + 4 * j) 12 ≤ 2147483647 := by
  have h1 := h.1 (14 + 4 * j) 12
  rw [(lo_mk_12 hj).1, (lo_mk_12 hj).2] at h1
  exact h1
theorem cs_mk_12 {b : Nat} {S : SS} (h : CX b S) {j : Nat} (hj : j < 40) {v : Int} (h1 : (-2147483648) ≤ v) (h2 : v ≤ 2147483647) : CX b (si S (14 + 4 * j) 12 v) := h.set (by rw [(lo_mk_12 hj).1]; exact h1) (by rw [(lo_mk_12 hj).2]; exact h2) (.inr (by omega))
theorem cx_1_1 {b : Nat} {S : SS} (h : CX b S) : 0 ≤ gi S 1 1 ∧ gi S 1 1 ≤ 2000 := h.1 1 1
theorem cs_1_1 {b : Nat} {S : SS} (h : CX b S) {v : Int} (h1 : 0 ≤ v) (h2 : v ≤ 2000) : CX b (si S 1 1 v) := h.set h1 h2 (.inr (by omega))
theorem cx_10_3 {b : Nat} {S : SS} (h : CX b S) : 0 ≤ gi S 10 3 ∧ gi S 10 3 ≤ 40 := h.1 10 3
theorem cs_10_3 {b : Nat} {S : SS} (h : CX b S) (hn : b < 2) {v : Int} (h1 : 0 ≤ v) (h2 : v ≤ 40) : CX b (si S 10 3 v) := h.set h1 h2 (.inl hn)
theorem cx_10_4 {b : Nat} {S : SS} (h : CX b S) : 0 ≤ gi S 10 4 ∧ gi S 10 4 ≤ 40 := h.1 10 4
theorem cs_10_4 {b : Nat} {S : SS} (h : CX b S) (hn : b < 2) {v : Int} (h1 : 0 ≤ v) (h2 : v ≤ 40) : CX b (si S 10 4 v) := h.set h1 h2 (.inl hn)
theorem cx_10_5 {b : Nat} {S : SS} (h : CX b S) : 0 ≤ gi S 10 5 ∧ gi S 10 5 ≤ 40 := h.1 10 5
theorem cs_10_5 {b : Nat} {S : SS} (h : CX b S) {v : Int} (h1 : 0 ≤ v) (h2 : v ≤ 40) : CX b (si S 10 5 v) := h.set h1 h2 (.inr (by omega))
theorem cx_177_3 {b : Nat} {S : SS} (h : CX b S) : 0 ≤ gi S 177 3 ∧ gi S 177 3 ≤ 60 := h.1 177 3
theorem cs_177_3 {b : Nat} {S : SS} (h : CX b S) {v : Int} (h1 : 0 ≤ v) (h2 : v ≤ 60) : CX b (si S 177 3 v) := h.set h1 h2 (.inr (by omega))
theorem cx_177_4 {b : Nat} {S : SS} (h : CX b S) : 0 ≤ gi S 177 4 ∧ gi S 177 4 ≤ 2000 := h.1 177 4
theorem cs_177_4 {b : Nat} {S : SS} (h : CX b S) {v : Int} (h1 : 0 ≤ v) (h2 : v ≤ 2000) : CX b (si S 177 4 v) := h.set h1 h2 (.inr (by omega))
theorem cx_177_5 {b : Nat} {S : SS} (h : CX b S) : 0 ≤ gi S 177 5 ∧ gi S 177 5 ≤ 2000 := h.1 177 5
theorem cs_177_5 {b : Nat} {S : SS} (h : CX b S) {v : Int} (h1 : 0 ≤ v) (h2 : v ≤ 2000) : CX b (si S 177 5 v) := h.set h1 h2 (.inr (by omega))
theorem cx_178_2 {b : Nat} {S : SS} (h : CX b S) : 0 ≤ gi S 178 2 ∧ gi S 178 2 ≤ 40 := h.1 178 2
theorem cs_178_2 {b : Nat} {S : SS} (h : CX b S) {v : Int} (h1 : 0 ≤ v) (h2 : v ≤ 40) : CX b (si S 178 2 v) := h.set h1 h2 (.inr (by omega))
theorem cx_183_5 {b : Nat} {S : SS} (h : CX b S) : 1 ≤ gi S 183 5 ∧ gi S 183 5 ≤ 9 := h.1 183 5
theorem cs_183_5 {b : Nat} {S : SS} (h : CX b S) {v : Int} (h1 : 1 ≤ v) (h2 : v ≤ 9) : CX b (si S 183 5 v) := h.set h1 h2 (.inr (by omega))
theorem cx_183_6 {b : Nat} {S : SS} (h : CX b S) : 1 ≤ gi S 183 6 ∧ gi S 183 6 ≤ 9 := h.1 183 6
theorem cs_183_6 {b : Nat} {S : SS} (h : CX b S) {v : Int} (h1 : 1 ≤ v) (h2 : v ≤ 9) : CX b (si S 183 6 v) := h.set h1 h2 (.inr (by omega))
theorem cx_183_7 {b : Nat} {S : SS} (h : CX b S) : 0 ≤ gi S 183 7 ∧ gi S 183 7 ≤ 1 := h.1 183 7
theorem cs_183_7 {b : Nat} {S : SS} (h : CX b S) {v : Int} (h1 : 0 ≤ v) (h2 : v ≤ 1) : CX b (si S 183 7 v) := h.set h1 h2 (.inr (by omega))
theorem cx_183_8 {b : Nat} {S : SS} (h : CX b S) : 0 ≤ gi S 183 8 ∧ gi S 183 8 ≤ 255 := h.1 183 8
theorem cs_183_8 {b : Nat} {S : SS} (h : CX b S) {v : Int} (h1 : 0 ≤ v) (h2 : v ≤ 255) : CX b (si S 183 8 v) := h.set h1 h2 (.inr (by omega))
theorem cx_183_9 {b : Nat} {S : SS} (h : CX b S) : 0 ≤ gi S 183 9 ∧ gi S 183 9 ≤ 8 := h.1 183 9
theorem cs_183_9 {b : Nat} {S : SS} (h : CX b S) {v : Int} (h1 : 0 ≤ v) (h2 : v ≤ 8) : CX b (si S 183 9 v) := h.set h1 h2 (.inr (by omega))
theorem cx_183_10 {b : Nat} {S : SS} (h : CX b S) : 0 ≤ gi S 183 10 ∧ gi S 183 10 ≤ 400 := h.1 183 10
theorem cs_183_10 {b : Nat} {S : SS} (h : CX b S) {v : Int} (h1 : 0 ≤ v) (h2 : v ≤ 400) : CX b (si S 183 10 v) := h.set h1 h2 (.inr (by omega))
theorem cx_183_11 {b : Nat} {S : SS} (h : CX b S) : 0 ≤ gi S 183 11 ∧ gi S 183 11 ≤ 150 := h.1 183 11
theorem cs_183_11 {b : Nat} {S : SS} (h : CX b S) {v : Int} (h1 : 0 ≤ v) (h2 : v ≤ 150) : CX b (si S 183 11 v) := h.set h1 h2 (.inr (by omega))
theorem cx_180 {b : Nat} {S : SS} (h : CX b S) (k : Nat) : 0 ≤ gi S 180 k ∧ gi S 180 k ≤ 1 := h.1 180 k
theorem cs_180 {b : Nat} {S : SS} (h : CX b S) {k : Nat} {v : Int} (h1 : 0 ≤ v) (h2 : v ≤ 1) : CX b (si S 180 k v) := h.set h1 h2 (.inr (by omega))
theorem cx_182 {b : Nat} {S : SS} (h : CX b S) (k : Nat) : 0 ≤ gi S 182 k ∧ gi S 182 k ≤ 2147483647 := h.1 182 k
theorem cs_182 {b : Nat} {S : SS} (h : CX b S) {k : Nat} {v : Int} (h1 : 0 ≤ v) (h2 : v ≤ 2147483647) : CX b (si S 182 k v) := h.set h1 h2 (.inr (by omega))
theorem cx_191 {b : Nat} {S : SS} (h : CX b S) (k : Nat) : 0 ≤ gi S 191 k ∧ gi S 191 k ≤ 999 := h.1 191 k
theorem cs_191 {b : Nat} {S : SS} (h : CX b S) {k : Nat} {v : Int} (h1 : 0 ≤ v) (h2 : v ≤ 999) : CX b (si S 191 k v) := h.set h1 h2 (.inr (by omega))
theorem cx_2 {b : Nat} {S : SS} (h : CX b S) (k : Nat) : (-2147483648) ≤ gi S 2 k ∧ gi S 2 k ≤ 2147483647 := h.1 2 k
theorem cs_2 {b : Nat} {S : SS} (h : CX b S) {k : Nat} {v : Int} (h1 : (-2147483648) ≤ v) (h2 : v ≤ 2147483647) : CX b (si S 2 k v) := h.set h1 h2 (.inr (by omega))
theorem cx_3 {b : Nat} {S : SS} (h : CX b S) (k : Nat) : (-2147483648) ≤ gi S 3 k ∧ gi S 3 k ≤ 2147483647 := h.1 3 k
theorem cs_3 {b : Nat} {S : SS} (h : CX b S) {k : Nat} {v : Int} (h1 : (-2147483648) ≤ v) (h2 : v ≤ 2147483647) : CX b (si S 3 k v) := h.set h1 h2 (.inr (by omega))
theorem cx_12 {b : Nat} {S : SS} (h : CX b S) (k : Nat) : (-2147483648) ≤ gi S 12 k ∧ gi S 12 k ≤ 2147483647 := h.1 12 k
theorem cs_12 {b : Nat} {S : SS} (h : CX b S) {k : Nat} {v : Int} (h1 : (-2147483648) ≤ v) (h2 : v ≤ 2147483647) : CX b (si S 12 k v) := h.set h1 h2 (.inr (by omega))
theorem cx_13 {b : Nat} {S : SS} (h : CX b S) (k : Nat) : (-2147483648) ≤ gi S 13 k ∧ gi S 13 k ≤ 2147483647 := h.1 13 k
theorem cs_13 {b : Nat} {S : SS} (h : CX b S) {k : Nat} {v : Int} (h1 : (-2147483648) ≤ v) (h2 : v ≤ 2147483647) : CX b (si S 13 k v) := h.set h1 h2 (.inr (by omega))
theorem cx_186 {b : Nat} {S : SS} (h : CX b S) (k : Nat) : (-2147483648) ≤ gi S 186 k ∧ gi S 186 k ≤ 2147483647 := h.1 186 k
theorem cs_186 {b : Nat} {S : SS} (h : CX b S) {k : Nat} {v : Int} (h1 : (-2147483648) ≤ v) (h2 : v ≤ 2147483647) : CX b (si S 186 k v) := h.set h1 h2 (.inr (by omega))
theorem cx_187 {b : Nat} {S : SS} (h : CX b S) (k : Nat) : (-2147483648) ≤ gi S 187 k ∧ gi S 187 k ≤ 2147483647 := h.1 187 k
theorem cs_187 {b : Nat} {S : SS} (h : CX b S) {k : Nat} {v : Int} (h1 : (-2147483648) ≤ v) (h2 : v ≤ 2147483647) : CX b (si S 187 k v) := h.set h1 h2 (.inr (by omega))
theorem cx_188 {b : Nat} {S : SS} (h : CX b S) (k : Nat) : (-2147483648) ≤ gi S 188 k ∧ gi S 188 k ≤ 2147483647 := h.1 188 k
theorem cs_188 {b : Nat} {S : SS} (h : CX b S) {k : Nat} {v : Int} (h1 : (-2147483648) ≤ v) (h2 : v ≤ 2147483647) : CX b (si S 188 k v) := h.set h1 h2 (.inr (by omega))
theorem cx_189 {b : Nat} {S : SS} (h : CX b S) (k : Nat) : (-2147483648) ≤ gi S 189 k ∧ gi S 189 k ≤ 2147483647 := h.1 189 k
theorem cs_189 {b : Nat} {S : SS} (h : CX b S) {k : Nat} {v : Int} (h1 : (-2147483648) ≤ v) (h2 : v ≤ 2147483647) : CX b (si S 189 k v) := h.set h1 h2 (.inr (by omega))
theorem cs_177_6 {b : Nat} {S : SS} (h : CX b S) {v : Int} (h1 : (-2147483648) ≤ v) (h2 : v ≤ 2147483647) : CX b (si S 177 6 v) := h.set h1 h2 (.inr (by omega))
theorem iI_rng (r k : Nat) : -1 ≤ iI r k ∧ iI r k ≤ 12 := by
  unfold iI
  repeat' split
  all_goals constructor <;> omega
theorem iI_0 {r k : Nat} (h3 : r ≠ 3) (h12 : r ≠ 12) (h183 : r ≠ 183) (h191 : r ≠ 191) (h : r < 192) : iI r k = 0 := by
  unfold iI
  rw [if_neg h3, if_neg h12, if_neg h183, if_neg h191, if_neg (by omega), if_neg (by omega), if_neg (by omega), if_neg (by omega)]
theorem iI_191 (k : Nat) : 0 ≤ iI 191 k := by
  show (0 : Int) ≤ (if k = 0 then 5 else if k = 1 then 10 else if k = 2 then 10 else if k = 3 then 8 else if k = 4 then 12 else 0)
  repeat' split
  all_goals omega
theorem lo0 {r k : Nat} (h : r ≠ 183) : loB r k ≤ 0 := by
  unfold loB
  repeat' split
  all_goals omega
theorem hi0 {r k : Nat} : 0 ≤ hiB r k := by
  have hc := cap_le r
  unfold hiB
  repeat' split
  all_goals omega
theorem lo192 {r k : Nat} (h : 192 ≤ r) : loB r k = -2147483648 ∧ hiB r k = 2147483647 := by
  have n1 : ¬ shOk r := by omega
  have n2 : ¬ (14 ≤ r ∧ r < 174 ∧ (r - 14) % 4 = 0) := by omega
  have n3 : ¬ (14 ≤ r ∧ r < 174 ∧ (r - 14) % 4 = 1) := by omega
  have a1 : ¬ r = 1 := by omega
  have a2 : ¬ r = 10 := by omega
  have a3 : ¬ r = 177 := by omega
  have a4 : ¬ r = 178 := by omega
  have a5 : ¬ r = 183 := by omega
  have a6 : ¬ r = 180 := by omega
  have a7 : ¬ r = 191 := by omega
  have a8 : ¬ r = 182 := by omega
  constructor
  · unfold loB; rw [if_neg n1, if_neg n2, if_neg n3, if_neg a1, if_neg a2, if_neg a3, if_neg a4, if_neg a5, if_neg a6, if_neg a8, if_neg a7]
  · unfold hiB; rw [if_neg n1, if_neg n2, if_neg n3, if_neg a1, if_neg a2, if_neg a3, if_neg a4, if_neg a5, if_neg a6, if_neg a8, if_neg a7]
theorem CX_183 (k : Nat) : loB 183 k ≤ iI 183 k ∧ iI 183 k ≤ hiB 183 k := by
  constructor
  · show (if k = 5 then (1 : Int) else if k = 6 then 1 else if k = 7 then 0 else if k = 8 then 0 else if k = 9 then 0 else if k = 10 then 0 else if k = 11 then 0 else (-2147483648)) ≤ (if k = 5 then (2 : Int) else if k = 6 then 3 else 0)
    by_cases k5 : k = 5
    · rw [if_pos k5, if_pos k5]; omega
    by_cases k6 : k = 6
    · rw [if_neg k5, if_neg k5, if_pos k6, if_pos k6]; omega
    rw [if_neg k5, if_neg k5, if_neg k6, if_neg k6]
    repeat' split
    all_goals omega
  · show (if k = 5 then (2 : Int) else if k = 6 then 3 else 0) ≤ (if k = 5 then (9 : Int) else if k = 6 then 9 else if k = 7 then 1 else if k = 8 then 255 else if k = 9 then 8 else if k = 10 then 400 else if k = 11 then 150 else 2147483647)
    by_cases k5 : k = 5
    · rw [if_pos k5, if_pos k5]; omega
    by_cases k6 : k = 6
    · rw [if_neg k5, if_neg k5, if_pos k6, if_pos k6]; omega
    rw [if_neg k5, if_neg k5, if_neg k6, if_neg k6]
    repeat' split
    all_goals omega
theorem CX_0 : CX 0 SZ := by
  refine ⟨fun r k => ?_, fun k hk => ?_, fun k j e => ?_, fun k q e => ?_, fun hb => absurd hb (by decide), fun hb => absurd hb (by decide)⟩
  · show loB r k ≤ iI r k ∧ iI r k ≤ hiB r k
    have hr := iI_rng r k
    by_cases h3 : r = 183
    · subst h3; exact CX_183 k
    by_cases h1 : r = 3
    · subst h1; exact ⟨show (-2147483648 : Int) ≤ _ by omega, show _ ≤ (2147483647 : Int) by omega⟩
    by_cases h2 : r = 12
    · subst h2; exact ⟨show (-2147483648 : Int) ≤ _ by omega, show _ ≤ (2147483647 : Int) by omega⟩
    by_cases h4 : r = 191
    · subst h4; exact ⟨show (0 : Int) ≤ _ from iI_191 k, show _ ≤ (999 : Int) by omega⟩
    by_cases h5 : 192 ≤ r
    · rw [(lo192 h5).1, (lo192 h5).2]; omega
    · rw [iI_0 h1 h2 h3 h4 (by omega)]; exact ⟨lo0 h3, hi0⟩
  · show iQ 11 k = some k
    unfold iQ; rw [if_pos rfl, if_pos hk]
  · have : iQ 179 k = none := by unfold iQ; rw [if_neg (by omega)]
    have e : iQ 179 k = some j := e
    rw [this] at e; cases e
  · have : iQ 178 k = none := by unfold iQ; rw [if_neg (by omega)]
    have e : iQ 178 k = some q := e
    rw [this] at e; cases e
theorem cx_Fault_clear {b : Nat} {S : SS} (hC : CX b S) : CX b (f_Fault_clear S) := cs_3 (cs_3 hC (by omega) (by omega)) (by omega) (by omega)
theorem cx_Sheet_clear {b : Nat} {S : SS} (hC : CX b S) {q0 : Nat} (hq : shOk q0) : CX b (f_Sheet_clear S q0) := by have h := cap_le q0; exact cs_sh hC hq (by omega) (by omega)
theorem cx_Pile_clear {S : SS} (hC : CX 0 S) : CX 0 (f_Pile_clear S) := cs_10_5 (cs_10_4 (cs_10_3 hC (by decide) (by omega) (by omega)) (by decide) (by omega) (by omega)) (by omega) (by omega)
theorem cx_Mark_voidByStet {b : Nat} {S : SS} (hC : CX b S) {j0 : Nat} (hj : j0 < 40) {v1 : Int} (h1 : -1 ≤ v1 ∧ v1 ≤ 100) : CX b (f_Mark_voidByStet S j0 v1) := by
  unfold f_Mark_voidByStet
  split
  · exact cs_mk_10 (cs_mk_8 hC hj (by omega) (by omega)) hj (by omega) (by omega)
  · exact hC
theorem andi255 (a : Int) : 0 ≤ andi a 255 ∧ andi a 255 ≤ 255 := t_byte (oi a)
theorem i_rng (x : Int32) : -2147483648 ≤ x.toInt ∧ x.toInt ≤ 2147483647 := by
  have h1 := Int32.toInt_lt x
  have h2 := Int32.le_toInt x
  omega
theorem tob_rng (a : Int) : -2147483648 ≤ tob a ∧ tob a ≤ 2147483647 := i_rng _
theorem l2i_rng (w : Int64) : -2147483648 ≤ l2i w ∧ l2i w ≤ 2147483647 := i_rng _
theorem shli_rng (a d : Int) : -2147483648 ≤ shli a d ∧ shli a d ≤ 2147483647 := i_rng _
theorem andi1 (a : Int) : 0 ≤ andi a 1 ∧ andi a 1 ≤ 1 := by
  unfold andi
  rw [show oi 1 = 1 from rfl]
  obtain ⟨j, hj, ej⟩ := pk_andE (oi a) (m := 1) 1 (by decide)
  rw [ej, nI_toInt (by omega)]
  omega
set_option maxHeartbeats 4000000 in
theorem ok_Fault_tellOf {b : Nat} (S : SS) (v1 : Int) (v2 : Int) (hC : CX b S) (hp0 : i32 v1) (hp1 : i32 v2) : okk (f_Fault_tellOf S v1 v2) (fun u => CX b u.2 ∧ (u.1 = 0)) := by
  unfold f_Fault_tellOf
  refine ok_lt (fun S1x1_z eS1x1_z => ?_)
  have h2_y : CX b S1x1_z := by rw [eS1x1_z]; exact cs_3 hC (by omega) (by omega)
  have f3_y : gi S1x1_z 3 0 = v1 := gi_eq eS1x1_z
  refine ok_lt (fun S2x1_z eS2x1_z => ?_)
  have h4_y : CX b S2x1_z := by rw [eS2x1_z]; exact cs_3 h2_y (by omega) (by omega)
  have f5_y : gi S2x1_z 3 1 = v2 := gi_eq eS2x1_z
  have f6_y : gi S2x1_z 3 0 = gi S1x1_z 3 0 := gi_ne eS2x1_z (by omega)
  exact ok_some ⟨h4_y, by omega⟩
set_option maxHeartbeats 4000000 in
theorem ok_Tape_byteAt {b : Nat} (S : SS) (v1 : Int) (hC : CX b S) : okk (f_Tape_byteAt S v1) (fun r => -1 ≤ r ∧ r ≤ 255 ∧ (r = -1 ∨ (0 ≤ v1 ∧ v1 < gi S 1 1))) := by
  unfold f_Tape_byteAt
  refine ok_if (fun c2_y => ?_) (fun c2_y => ?_)
  · exact ok_some (by omega)
  · have b3_y := cx_1_1 hC
    refine ok_if (fun c4_y => ?_) (fun c4_y => ?_)
    · exact ok_some (by omega)
    · refine ok_if (fun c5_y => ?_) (fun c5_y => ?_)
      · refine ok_chk (by omega) ?_
        have b6_y := cx_2 hC (v1).toNat
        have b7_y := andi255 (gi S 2 (v1).toNat)
        exact ok_some (by omega)
      · exact ok_some (by omega)
set_option maxHeartbeats 4000000 in
theorem okl_Tape_addFour_3 {b : Nat} (v1 : Int) : ∀ (n : Nat) (S : SS) (v2_ : Int), CX b S → (-8 ≤ v2_ ∧ v2_ ≤ 24) → v2_ + 8 < (n : Int) → okk (f_Tape_addFour_3 v1 n S v2_) (fun S1 => CX b S1 ∧ (True)) := by
  intro n
  induction n with
  | zero => intro S v2_ hC hi hm; exfalso; omega
  | succ n ih =>
    intro S v2_ hC hi hm
    have hm : v2_ + 8 < (n : Int) + 1 := by omega
    show okk (f_Tape_addFour_3_b v1 (f_Tape_addFour_3 v1 n) S v2_) _
    unfold f_Tape_addFour_3_b
    refine ok_if (fun c1_y => ?_) (fun c1_y => ?_)
    · exact ok_some ⟨hC, by trivial⟩
    · have b2_y := cx_1_1 hC
      refine ok_if (fun c3_y => ?_) (fun c3_y => ?_)
      · unfold f_Tape_addFour_49
        refine ok_chk (by omega) ?_
        exact ih S (v2_ + (-8)) hC (by omega) (by omega)
      · refine ok_if (fun c5_y => ?_) (fun c5_y => ?_)
        · unfold f_Tape_addFour_49
          refine ok_chk (by omega) ?_
          exact ih S (v2_ + (-8)) hC (by omega) (by omega)
        · refine ok_chk (by omega) ?_
          have b7_y := tob_rng (tob (ushri v1 v2_))
          have b8_y := tob_rng (ushri v1 v2_)
          refine ok_lt (fun S6_z eS6_z => ?_)
          have h9_y : CX b S6_z := by rw [eS6_z]; exact cs_2 hC (by omega) (by omega)
          have f10_y : gi S6_z 1 1 = gi S 1 1 := gi_ne eS6_z (by omega)
          refine ok_chk (by omega) ?_
          refine ok_lt (fun S9_z eS9_z => ?_)
          have h11_y : CX b S9_z := by rw [eS9_z]; exact cs_1_1 h9_y (by omega) (by omega)
          have f12_y : gi S9_z 1 1 = (gi S6_z 1 1) + 1 := gi_eq eS9_z
          unfold f_Tape_addFour_49
          refine ok_chk (by omega) ?_
          exact ih S9_z (v2_ + (-8)) h11_y (by omega) (by omega)
set_option maxHeartbeats 4000000 in
theorem ok_Tape_addFour {b : Nat} (S : SS) (v1 : Int) (hC : CX b S) (hp0 : i32 v1) : okk (f_Tape_addFour S v1) (fun S1 => CX b S1 ∧ (True)) := by
  unfold f_Tape_addFour
  exact okl_Tape_addFour_3 v1 FU S 24 hC (by omega) (by unfold FU; omega)
set_option maxHeartbeats 4000000 in
theorem ok_Sheet_add {b : Nat} (S : SS) (q0 : Nat) (w1 : Int64) (hC : CX b S) (hq0 : shOk q0) : okk (f_Sheet_add S q0 w1) (fun S1 => CX b S1 ∧ (True)) := by
  unfold f_Sheet_add
  have b2_y := cx_sh hC hq0
  refine ok_if (fun c3_y => ?_) (fun c3_y => ?_)
  · exact ok_some ⟨hC, by trivial⟩
  · refine ok_if (fun c4_y => ?_) (fun c4_y => ?_)
    · exact ok_some ⟨hC, by trivial⟩
    · refine ok_chk (by omega) ?_
      refine ok_lt (fun S5x1_z eS5x1_z => ?_)
      have h5_y : CX b S5x1_z := by rw [eS5x1_z]; exact cs_sl hC
      have f6_y : gi S5x1_z q0 1 = gi S q0 1 := gi_sl eS5x1_z
      refine ok_chk (by omega) ?_
      refine ok_lt (fun S8x1_z eS8x1_z => ?_)
      have h7_y : CX b S8x1_z := by rw [eS8x1_z]; exact cs_sh h5_y hq0 (by omega) (by omega)
      have f8_y : gi S8x1_z q0 1 = (gi S5x1_z q0 1) + 1 := gi_eq eS8x1_z
      exact ok_some ⟨h7_y, by trivial⟩
set_option maxHeartbeats 4000000 in
theorem ok_Sheet_wordAt {b : Nat} (S : SS) (q0 : Nat) (v1 : Int) (hC : CX b S) (hq0 : shOk q0) : okk (f_Sheet_wordAt S q0 v1) (fun r => True) := by
  unfold f_Sheet_wordAt
  refine ok_if (fun c2_y => ?_) (fun c2_y => ?_)
  · exact ok_some (by trivial)
  · have b3_y := cx_sh hC hq0
    refine ok_if (fun c4_y => ?_) (fun c4_y => ?_)
    · exact ok_some (by trivial)
    · refine ok_if (fun c5_y => ?_) (fun c5_y => ?_)
      · refine ok_chk (by omega) ?_
        exact ok_some (by trivial)
      · exact ok_some (by trivial)
set_option maxHeartbeats 4000000 in
theorem okl_Sheet_addAll_2 {b : Nat} (q0 : Nat) (q1 : Nat) (hq0 : shOk q0) (hq1 : shOk q1) : ∀ (n : Nat) (S : SS) (v2_ : Int), CX b S → (0 ≤ v2_ ∧ v2_ ≤ 300) → 300 - v2_ < (n : Int) → okk (f_Sheet_addAll_2 q0 q1 n S v2_) (fun S1 => CX b S1 ∧ (True)) := by
  intro n
  induction n with
  | zero => intro S v2_ hC hi hm; exfalso; omega
  | succ n ih =>
    intro S v2_ hC hi hm
    have hm : 300 - v2_ < (n : Int) + 1 := by omega
    show okk (f_Sheet_addAll_2_b q0 q1 (f_Sheet_addAll_2 q0 q1 n) S v2_) _
    unfold f_Sheet_addAll_2_b
    have b1_y := cx_sh hC hq1
    refine ok_if (fun c2_y => ?_) (fun c2_y => ?_)
    · exact ok_some ⟨hC, by trivial⟩
    · refine ok_b1 (ok_Sheet_wordAt S q1 v2_ hC hq1) (fun w2_z h3_y => ?_)
      refine ok_b1 (ok_Sheet_add S q0 w2_z hC hq0) (fun S4_z h4_y => ?_)
      obtain ⟨h5_y, p6_y⟩ := h4_y
      refine ok_chk (by omega) ?_
      exact ih S4_z (v2_ + 1) h5_y (by omega) (by omega)
set_option maxHeartbeats 4000000 in
theorem ok_Sheet_addAll {b : Nat} (S : SS) (q0 : Nat) (q1 : Nat) (hC : CX b S) (hq0 : shOk q0) (hq1 : shOk q1) : okk (f_Sheet_addAll S q0 q1) (fun S1 => CX b S1 ∧ (True)) := by
  unfold f_Sheet_addAll
  exact okl_Sheet_addAll_2 q0 q1 hq0 hq1 FU S 0 hC (by omega) (by unfold FU; omega)
set_option maxHeartbeats 4000000 in
theorem ok_Sheet_copyFrom {b : Nat} (S : SS) (q0 : Nat) (q1 : Nat) (hC : CX b S) (hq0 : shOk q0) (hq1 : shOk q1) : okk (f_Sheet_copyFrom S q0 q1) (fun S1 => CX b S1 ∧ (True)) := by
  unfold f_Sheet_copyFrom
  refine ok_lt (fun S1x1_z eS1x1_z => ?_)
  have h2_y : CX b S1x1_z := by rw [eS1x1_z]; exact cx_Sheet_clear hC hq0
  refine ok_b1 (ok_Sheet_addAll S1x1_z q0 q1 h2_y hq0 hq1) (fun S3x1_z h3_y => ?_)
  obtain ⟨h4_y, p5_y⟩ := h3_y
  exact ok_some ⟨h4_y, by trivial⟩
set_option maxHeartbeats 4000000 in
theorem ok_Bill_priceOf {b : Nat} (S : SS) (v1 : Int) (hC : CX b S) : okk (f_Bill_priceOf S v1) (fun r => 0 ≤ r ∧ r ≤ 999) := by
  unfold f_Bill_priceOf
  refine ok_if (fun c2_y => ?_) (fun c2_y => ?_)
  · exact ok_some (by omega)
  · refine ok_if (fun c3_y => ?_) (fun c3_y => ?_)
    · refine ok_chk (by omega) ?_
      have b4_y := cx_191 hC (v1).toNat
      exact ok_some (by omega)
    · exact ok_some (by omega)
set_option maxHeartbeats 4000000 in
theorem ok_Bill_setPrice {b : Nat} (S : SS) (v1 : Int) (v2 : Int) (hC : CX b S) (hp0 : 0 ≤ v2 ∧ v2 ≤ 999) : okk (f_Bill_setPrice S v1 v2) (fun u => CX b u.2 ∧ (True)) := by
  unfold f_Bill_setPrice
  refine ok_b1 (ok_Bill_priceOf S v1 hC) (fun r1x1_z h2_y => ?_)
  refine ok_if (fun c3_y => ?_) (fun c3_y => ?_)
  · exact ok_some ⟨hC, by trivial⟩
  · refine ok_if (fun c4_y => ?_) (fun c4_y => ?_)
    · exact ok_some ⟨hC, by trivial⟩
    · refine ok_chk (by omega) ?_
      refine ok_lt (fun S3x1_z eS3x1_z => ?_)
      have h5_y : CX b S3x1_z := by rw [eS3x1_z]; exact cs_191 hC (by omega) (by omega)
      exact ok_some ⟨h5_y, by trivial⟩
set_option maxHeartbeats 4000000 in
theorem ok_Pile_rankOf {b : Nat} (S : SS) (v1 : Int) (hC : CX b S) : okk (f_Pile_rankOf S v1) (fun r => True) := by
  unfold f_Pile_rankOf
  refine ok_if (fun c2_y => ?_) (fun c2_y => ?_)
  · exact ok_some (by trivial)
  · refine ok_if (fun c3_y => ?_) (fun c3_y => ?_)
    · refine ok_chk (by omega) ?_
      have b4_y := cx_12 hC (v1).toNat
      exact ok_some (by trivial)
    · exact ok_some (by trivial)
set_option maxHeartbeats 4000000 in
theorem ok_Pile_markAt {b : Nat} (S : SS) (v1 : Int) (hC : CX b S) : okk (f_Pile_markAt S v1) (fun r => ∀ j, r = some j → j < 40) := by
  unfold f_Pile_markAt
  refine ok_if (fun c2_y => ?_) (fun c2_y => ?_)
  · exact ok_some (fun j hj => by cases hj)
  · refine ok_if (fun c3_y => ?_) (fun c3_y => ?_)
    · refine ok_chk (by omega) ?_
      refine ok_lt (fun o2x1_z eo2x1_z => ?_)
      exact ok_some (fun j hj => by rw [eo2x1_z, (hC).2.1 _ (by omega)] at hj; cases hj; omega)
    · exact ok_some (fun j hj => by cases hj)
set_option maxHeartbeats 4000000 in
theorem ok_Pile_find {b : Nat} (S : SS) (v1 : Int) (hC : CX b S) : okk (f_Pile_find S v1) (fun r => ∀ j, r = some j → j < 40) := by
  unfold f_Pile_find
  have b2_y := cx_10_3 hC
  refine ok_if (fun c3_y => ?_) (fun c3_y => ?_)
  · refine ok_b1 (ok_Pile_markAt S v1 hC) (fun o2x1_z h4_y => ?_)
    exact ok_some (fun j hj => h4_y j hj)
  · exact ok_some (fun j hj => by cases hj)
set_option maxHeartbeats 4000000 in
theorem ok_Pile_findNoStet {b : Nat} (S : SS) (v1 : Int) (hC : CX b S) : okk (f_Pile_findNoStet S v1) (fun r => ∀ j, r = some j → j < 40) := by
  unfold f_Pile_findNoStet
  refine ok_b1 (ok_Pile_find S v1 hC) (fun o1x1_z h2_y => ?_)
  refine ok_on (fun h3_y => ?_) (fun j3x1_z h3_y => ?_)
  · exact ok_some (fun j hj => by cases hj)
  · have hj3x1_z : j3x1_z < 40 := h2_y j3x1_z h3_y
    refine ok_chk (by omega) ?_
    have b4_y := cx_mk_2 hC hj3x1_z
    refine ok_if (fun c5_y => ?_) (fun c5_y => ?_)
    · exact ok_some (fun j hj => by cases hj)
    · exact ok_some (fun j hj => by cases hj; exact hj3x1_z)
set_option maxHeartbeats 4000000 in
theorem ok_Pile_doneNumber {b : Nat} (S : SS) (v1 : Int) (hC : CX b S) : okk (f_Pile_doneNumber S v1) (fun r => -2147483648 ≤ r ∧ r ≤ 2147483647) := by
  unfold f_Pile_doneNumber
  refine ok_if (fun c2_y => ?_) (fun c2_y => ?_)
  · exact ok_some (by omega)
  · have b3_y := cx_10_5 hC
    refine ok_if (fun c4_y => ?_) (fun c4_y => ?_)
    · exact ok_some (by omega)
    · refine ok_if (fun c5_y => ?_) (fun c5_y => ?_)
      · refine ok_chk (by omega) ?_
        have b6_y := cx_13 hC (v1).toNat
        exact ok_some (by omega)
      · exact ok_some (by omega)
set_option maxHeartbeats 4000000 in
theorem okl_Pile_tally_4 {b : Nat} (S : SS) (v1 : Int) (hC : CX b S) : ∀ (n : Nat) (v2_ : Int) (v3_ : Int), (0 ≤ v2_ ∧ v2_ ≤ v3_ ∧ 0 ≤ v3_ ∧ v3_ ≤ 40) → 40 - v3_ < (n : Int) → okk (f_Pile_tally_4 S v1 n v2_ v3_) (fun r => 0 ≤ r ∧ r ≤ 40) := by
  intro n
  induction n with
  | zero => intro v2_ v3_ hi hm; exfalso; omega
  | succ n ih =>
    intro v2_ v3_ hi hm
    have hm : 40 - v3_ < (n : Int) + 1 := by omega
    show okk (f_Pile_tally_4_b S v1 (f_Pile_tally_4 S v1 n) v2_ v3_) _
    unfold f_Pile_tally_4_b
    have b1_y := cx_10_3 hC
    refine ok_if (fun c2_y => ?_) (fun c2_y => ?_)
    · exact ok_some (by omega)
    · refine ok_b1 (ok_Pile_find S v3_ hC) (fun o2_z h3_y => ?_)
      refine ok_on (fun h4_y => ?_) (fun j4_z h4_y => ?_)
      · unfold f_Pile_tally_36
        refine ok_chk (by omega) ?_
        exact ih v2_ (v3_ + 1) (by omega) (by omega)
      · have hj4_z : j4_z < 40 := h3_y j4_z h4_y
        refine ok_chk (by omega) ?_
        have b6_y := cx_mk_11 hC hj4_z
        refine ok_if (fun c7_y => ?_) (fun c7_y => ?_)
        · refine ok_chk (by omega) ?_
          unfold f_Pile_tally_36
          refine ok_chk (by omega) ?_
          exact ih (v2_ + 1) (v3_ + 1) (by omega) (by omega)
        · unfold f_Pile_tally_36
          refine ok_chk (by omega) ?_
          exact ih v2_ (v3_ + 1) (by omega) (by omega)
set_option maxHeartbeats 4000000 in
theorem ok_Pile_tally {b : Nat} (S : SS) (v1 : Int) (hC : CX b S) : okk (f_Pile_tally S v1) (fun r => 0 ≤ r ∧ r ≤ 40) := by
  unfold f_Pile_tally
  exact okl_Pile_tally_4 S v1 hC FU 0 0 (by omega) (by unfold FU; omega)
set_option maxHeartbeats 4000000 in
theorem okl_Bill_sum_5 {b : Nat} (S : SS) (v2 : Int) (hC : CX b S) : ∀ (n : Nat) (v3_ : Int) (v4_ : Int), (0 ≤ v3_ ∧ v3_ ≤ 999 * v4_ ∧ 0 ≤ v4_ ∧ v4_ ≤ 40) → 40 - v4_ < (n : Int) → okk (f_Bill_sum_5 S v2 n v3_ v4_) (fun r => True) := by
  intro n
  induction n with
  | zero => intro v3_ v4_ hi hm; exfalso; omega
  | succ n ih =>
    intro v3_ v4_ hi hm
    have hm : 40 - v4_ < (n : Int) + 1 := by omega
    show okk (f_Bill_sum_5_b S v2 (f_Bill_sum_5 S v2 n) v3_ v4_) _
    unfold f_Bill_sum_5_b
    have b1_y := cx_10_5 hC
    refine ok_if (fun c2_y => ?_) (fun c2_y => ?_)
    · exact ok_some (by trivial)
    · refine ok_b1 (ok_Pile_doneNumber S v4_ hC) (fun r2_z h3_y => ?_)
      refine ok_b1 (ok_Pile_find S r2_z hC) (fun o4_z h4_y => ?_)
      refine ok_on (fun h5_y => ?_) (fun j6_z h5_y => ?_)
      · unfold f_Bill_sum_69
        refine ok_chk (by omega) ?_
        exact ih v3_ (v4_ + 1) (by omega) (by omega)
      · have hj6_z : j6_z < 40 := h4_y j6_z h5_y
        refine ok_chk (by omega) ?_
        have b7_y := cx_mk_3 hC hj6_z
        refine ok_if (fun c8_y => ?_) (fun c8_y => ?_)
        · unfold f_Bill_sum_48
          unfold f_Bill_sum_53
          refine ok_if (fun c11_y => ?_) (fun c11_y => ?_)
          · have b12_y := cx_mk_2 hC hj6_z
            refine ok_b1 (ok_Bill_priceOf S (gi S (14 + 4 * j6_z) 2) hC) (fun r2x10_z h13_y => ?_)
            refine ok_chk (by omega) ?_
            unfold f_Bill_sum_69
            refine ok_chk (by omega) ?_
            exact ih (v3_ + r2x10_z) (v4_ + 1) (by omega) (by omega)
          · unfold f_Bill_sum_69
            refine ok_chk (by omega) ?_
            exact ih v3_ (v4_ + 1) (by omega) (by omega)
        · have b16_y := cx_mk_9 hC hj6_z
          refine ok_if (fun c17_y => ?_) (fun c17_y => ?_)
          · unfold f_Bill_sum_53
            refine ok_if (fun c19_y => ?_) (fun c19_y => ?_)
            · have b20_y := cx_mk_2 hC hj6_z
              refine ok_b1 (ok_Bill_priceOf S (gi S (14 + 4 * j6_z) 2) hC) (fun r2x18_z h21_y => ?_)
              refine ok_chk (by omega) ?_
              unfold f_Bill_sum_69
              refine ok_chk (by omega) ?_
              exact ih (v3_ + r2x18_z) (v4_ + 1) (by omega) (by omega)
            · unfold f_Bill_sum_69
              refine ok_chk (by omega) ?_
              exact ih v3_ (v4_ + 1) (by omega) (by omega)
          · unfold f_Bill_sum_48
            unfold f_Bill_sum_53
            refine ok_if (fun c26_y => ?_) (fun c26_y => ?_)
            · have b27_y := cx_mk_2 hC hj6_z
              refine ok_b1 (ok_Bill_priceOf S (gi S (14 + 4 * j6_z) 2) hC) (fun r2x25_z h28_y => ?_)
              refine ok_chk (by omega) ?_
              unfold f_Bill_sum_69
              refine ok_chk (by omega) ?_
              exact ih (v3_ + r2x25_z) (v4_ + 1) (by omega) (by omega)
            · unfold f_Bill_sum_69
              refine ok_chk (by omega) ?_
              exact ih v3_ (v4_ + 1) (by omega) (by omega)
set_option maxHeartbeats 4000000 in
theorem ok_Bill_sum {b : Nat} (S : SS) (v2 : Int) (hC : CX b S) : okk (f_Bill_sum S v2) (fun r => True) := by
  unfold f_Bill_sum
  exact okl_Bill_sum_5 S v2 hC FU 0 0 (by omega) (by unfold FU; omega)
theorem fits01 (S : SS) (j0 : Nat) (v1 v2 : Int) : f_Mark_fitsInside S j0 v1 v2 = 0 ∨ f_Mark_fitsInside S j0 v1 v2 = 1 := by
  unfold f_Mark_fitsInside f_Mark_fitsInside_26
  repeat' split
  all_goals omega
theorem und_rng (S : SS) (j0 : Nat) : 1 ≤ f_Mark_undecidedStatus S j0 ∧ f_Mark_undecidedStatus S j0 ≤ 4 := by
  unfold f_Mark_undecidedStatus
  repeat' split
  all_goals omega
set_option maxHeartbeats 4000000 in
theorem okl_Mark_clear_2 {b : Nat} (j0 : Nat) (hj0 : j0 < 40) : ∀ (n : Nat) (S : SS) (v1_ : Int), CX b S → (0 ≤ v1_ ∧ v1_ ≤ 3) → 3 - v1_ < (n : Int) → okk (f_Mark_clear_2 j0 n S v1_) (fun S1 => CX b S1 ∧ (True)) := by
  intro n
  induction n with
  | zero => intro S v1_ hC hi hm; exfalso; omega
  | succ n ih =>
    intro S v1_ hC hi hm
    have hm : 3 - v1_ < (n : Int) + 1 := by omega
    show okk (f_Mark_clear_2_b j0 (f_Mark_clear_2 j0 n) S v1_) _
    unfold f_Mark_clear_2_b
    refine ok_if (fun c1_y => ?_) (fun c1_y => ?_)
    · refine ok_lt (fun S1_z eS1_z => ?_)
      have h2_y : CX b S1_z := by rw [eS1_z]; exact cx_Sheet_clear hC (show shOk (14 + 4 * j0 + 2) by omega)
      refine ok_lt (fun S3_z eS3_z => ?_)
      have h3_y : CX b S3_z := by rw [eS3_z]; exact cs_mk_2 h2_y hj0 (by omega) (by omega)
      refine ok_lt (fun S4_z eS4_z => ?_)
      have h4_y : CX b S4_z := by rw [eS4_z]; exact cs_mk_3 h3_y hj0 (by omega) (by omega)
      refine ok_lt (fun S5_z eS5_z => ?_)
      have h5_y : CX b S5_z := by rw [eS5_z]; exact cs_mk_7 h4_y hj0 (by omega) (by omega)
      refine ok_lt (fun S6_z eS6_z => ?_)
      have h6_y : CX b S6_z := by rw [eS6_z]; exact cs_mk_8 h5_y hj0 (by omega) (by omega)
      refine ok_lt (fun S7_z eS7_z => ?_)
      have h7_y : CX b S7_z := by rw [eS7_z]; exact cs_mk_9 h6_y hj0 (by omega) (by omega)
      refine ok_lt (fun S8_z eS8_z => ?_)
      have h8_y : CX b S8_z := by rw [eS8_z]; exact cs_mk_10 h7_y hj0 (by omega) (by omega)
      refine ok_lt (fun S9_z eS9_z => ?_)
      have h9_y : CX b S9_z := by rw [eS9_z]; exact cs_mk_11 h8_y hj0 (by omega) (by omega)
      refine ok_lt (fun S10_z eS10_z => ?_)
      have h10_y : CX b S10_z := by rw [eS10_z]; exact cs_mk_12 h9_y hj0 (by omega) (by omega)
      exact ok_some ⟨h10_y, by trivial⟩
    · refine ok_chk (by omega) ?_
      refine ok_lt (fun S11_z eS11_z => ?_)
      have h11_y : CX b S11_z := by rw [eS11_z]; exact cs_nm hC hj0 (by omega) (by omega)
      refine ok_chk (by omega) ?_
      exact ih S11_z (v1_ + 1) h11_y (by omega) (by omega)
set_option maxHeartbeats 4000000 in
theorem ok_Mark_clear {b : Nat} (S : SS) (j0 : Nat) (hC : CX b S) (hj0 : j0 < 40) : okk (f_Mark_clear S j0) (fun S1 => CX b S1 ∧ (True)) := by
  unfold f_Mark_clear
  exact okl_Mark_clear_2 j0 hj0 FU S 0 hC (by omega) (by unfold FU; omega)
set_option maxHeartbeats 4000000 in
theorem ok_Mark_number {b : Nat} (S : SS) (j0 : Nat) (v1 : Int) (hC : CX b S) (hj0 : j0 < 40) : okk (f_Mark_number S j0 v1) (fun r => -1 ≤ r ∧ r ≤ 999) := by
  unfold f_Mark_number
  refine ok_if (fun c2_y => ?_) (fun c2_y => ?_)
  · exact ok_some (by omega)
  · refine ok_if (fun c3_y => ?_) (fun c3_y => ?_)
    · refine ok_chk (by omega) ?_
      have b4_y := cx_nm hC hj0 (v1).toNat
      exact ok_some (by omega)
    · exact ok_some (by omega)
set_option maxHeartbeats 4000000 in
theorem ok_Mark_setNumber {b : Nat} (S : SS) (j0 : Nat) (v1 : Int) (v2 : Int) (hC : CX b S) (hj0 : j0 < 40) (hp0 : -1 ≤ v2 ∧ v2 ≤ 999) : okk (f_Mark_setNumber S j0 v1 v2) (fun S1 => CX b S1 ∧ (True)) := by
  unfold f_Mark_setNumber
  refine ok_if (fun c2_y => ?_) (fun c2_y => ?_)
  · exact ok_some ⟨hC, by trivial⟩
  · refine ok_if (fun c3_y => ?_) (fun c3_y => ?_)
    · exact ok_some ⟨hC, by trivial⟩
    · refine ok_chk (by omega) ?_
      refine ok_lt (fun S1x1_z eS1x1_z => ?_)
      have h4_y : CX b S1x1_z := by rw [eS1x1_z]; exact cs_nm hC hj0 (by omega) (by omega)
      exact ok_some ⟨h4_y, by trivial⟩
set_option maxHeartbeats 4000000 in
theorem ok_Mark_place {b : Nat} (S : SS) (j0 : Nat) (hC : CX b S) (hj0 : j0 < 40) : okk (f_Mark_place S j0) (fun S1 => CX b S1 ∧ (True)) := by
  unfold f_Mark_place
  have b2_y := cx_mk_2 hC hj0
  refine ok_if (fun c3_y => ?_) (fun c3_y => ?_)
  · unfold f_Mark_place_20
    unfold f_Mark_place_21
    refine ok_if (fun c6_y => ?_) (fun c6_y => ?_)
    · unfold f_Mark_place_36
      refine ok_lt (fun S1x7_z eS1x7_z => ?_)
      have h8_y : CX b S1x7_z := by rw [eS1x7_z]; exact cs_mk_4 hC hj0 (by omega) (by omega)
      have f9_y : gi S1x7_z (14 + 4 * j0) 2 = gi S (14 + 4 * j0) 2 := gi_ne eS1x7_z (by omega)
      refine ok_if (fun c10_y => ?_) (fun c10_y => ?_)
      · unfold f_Mark_place_65
        refine ok_lt (fun S1x11_z eS1x11_z => ?_)
        have h12_y : CX b S1x11_z := by rw [eS1x11_z]; exact cs_mk_5 h8_y hj0 (by omega) (by omega)
        have f13_y : gi S1x11_z (14 + 4 * j0) 2 = gi S1x7_z (14 + 4 * j0) 2 := gi_ne eS1x11_z (by omega)
        refine ok_lt (fun S2x11_z eS2x11_z => ?_)
        have h14_y : CX b S2x11_z := by rw [eS2x11_z]; exact cs_mk_6 h12_y hj0 (by omega) (by omega)
        have f15_y : gi S2x11_z (14 + 4 * j0) 2 = gi S1x11_z (14 + 4 * j0) 2 := gi_ne eS2x11_z (by omega)
        refine ok_if (fun c16_y => ?_) (fun c16_y => ?_)
        · unfold f_Mark_place_89
          refine ok_if (fun c18_y => ?_) (fun c18_y => ?_)
          · unfold f_Mark_place_104
            refine ok_b1 (ok_Mark_number S2x11_z j0 0 h14_y hj0) (fun r1x19_z h20_y => ?_)
            refine ok_lt (fun S3x19_z eS3x19_z => ?_)
            have h21_y : CX b S3x19_z := by rw [eS3x19_z]; exact cs_mk_6 h14_y hj0 (by omega) (by omega)
            have f22_y : gi S3x19_z (14 + 4 * j0) 2 = gi S2x11_z (14 + 4 * j0) 2 := gi_ne eS3x19_z (by omega)
            exact ok_some ⟨h21_y, by trivial⟩
          · unfold f_Mark_place_104
            refine ok_b1 (ok_Mark_number S2x11_z j0 2 h14_y hj0) (fun r1x23_z h24_y => ?_)
            refine ok_lt (fun S3x23_z eS3x23_z => ?_)
            have h25_y : CX b S3x23_z := by rw [eS3x23_z]; exact cs_mk_6 h14_y hj0 (by omega) (by omega)
            have f26_y : gi S3x23_z (14 + 4 * j0) 2 = gi S2x11_z (14 + 4 * j0) 2 := gi_ne eS3x23_z (by omega)
            exact ok_some ⟨h25_y, by trivial⟩
        · refine ok_if (fun c27_y => ?_) (fun c27_y => ?_)
          · unfold f_Mark_place_89
            refine ok_if (fun c29_y => ?_) (fun c29_y => ?_)
            · unfold f_Mark_place_104
              refine ok_b1 (ok_Mark_number S2x11_z j0 0 h14_y hj0) (fun r1x30_z h31_y => ?_)
              refine ok_lt (fun S3x30_z eS3x30_z => ?_)
              have h32_y : CX b S3x30_z := by rw [eS3x30_z]; exact cs_mk_6 h14_y hj0 (by omega) (by omega)
              have f33_y : gi S3x30_z (14 + 4 * j0) 2 = gi S2x11_z (14 + 4 * j0) 2 := gi_ne eS3x30_z (by omega)
              exact ok_some ⟨h32_y, by trivial⟩
            · unfold f_Mark_place_104
              refine ok_b1 (ok_Mark_number S2x11_z j0 2 h14_y hj0) (fun r1x34_z h35_y => ?_)
              refine ok_lt (fun S3x34_z eS3x34_z => ?_)
              have h36_y : CX b S3x34_z := by rw [eS3x34_z]; exact cs_mk_6 h14_y hj0 (by omega) (by omega)
              have f37_y : gi S3x34_z (14 + 4 * j0) 2 = gi S2x11_z (14 + 4 * j0) 2 := gi_ne eS3x34_z (by omega)
              exact ok_some ⟨h36_y, by trivial⟩
          · exact ok_some ⟨h14_y, by trivial⟩
      · refine ok_if (fun c38_y => ?_) (fun c38_y => ?_)
        · unfold f_Mark_place_58
          refine ok_b1 (ok_Mark_number S1x7_z j0 2 h8_y hj0) (fun r1x39_z h40_y => ?_)
          unfold f_Mark_place_65
          refine ok_lt (fun S1x41_z eS1x41_z => ?_)
          have h42_y : CX b S1x41_z := by rw [eS1x41_z]; exact cs_mk_5 h8_y hj0 (by omega) (by omega)
          have f43_y : gi S1x41_z (14 + 4 * j0) 2 = gi S1x7_z (14 + 4 * j0) 2 := gi_ne eS1x41_z (by omega)
          refine ok_lt (fun S2x41_z eS2x41_z => ?_)
          have h44_y : CX b S2x41_z := by rw [eS2x41_z]; exact cs_mk_6 h42_y hj0 (by omega) (by omega)
          have f45_y : gi S2x41_z (14 + 4 * j0) 2 = gi S1x41_z (14 + 4 * j0) 2 := gi_ne eS2x41_z (by omega)
          refine ok_if (fun c46_y => ?_) (fun c46_y => ?_)
          · unfold f_Mark_place_89
            refine ok_if (fun c48_y => ?_) (fun c48_y => ?_)
            · unfold f_Mark_place_104
              refine ok_b1 (ok_Mark_number S2x41_z j0 0 h44_y hj0) (fun r1x49_z h50_y => ?_)
              refine ok_lt (fun S3x49_z eS3x49_z => ?_)
              have h51_y : CX b S3x49_z := by rw [eS3x49_z]; exact cs_mk_6 h44_y hj0 (by omega) (by omega)
              have f52_y : gi S3x49_z (14 + 4 * j0) 2 = gi S2x41_z (14 + 4 * j0) 2 := gi_ne eS3x49_z (by omega)
              exact ok_some ⟨h51_y, by trivial⟩
            · unfold f_Mark_place_104
              refine ok_b1 (ok_Mark_number S2x41_z j0 2 h44_y hj0) (fun r1x53_z h54_y => ?_)
              refine ok_lt (fun S3x53_z eS3x53_z => ?_)
              have h55_y : CX b S3x53_z := by rw [eS3x53_z]; exact cs_mk_6 h44_y hj0 (by omega) (by omega)
              have f56_y : gi S3x53_z (14 + 4 * j0) 2 = gi S2x41_z (14 + 4 * j0) 2 := gi_ne eS3x53_z (by omega)
              exact ok_some ⟨h55_y, by trivial⟩
          · refine ok_if (fun c57_y => ?_) (fun c57_y => ?_)
            · unfold f_Mark_place_89
              refine ok_if (fun c59_y => ?_) (fun c59_y => ?_)
              · unfold f_Mark_place_104
                refine ok_b1 (ok_Mark_number S2x41_z j0 0 h44_y hj0) (fun r1x60_z h61_y => ?_)
                refine ok_lt (fun S3x60_z eS3x60_z => ?_)
                have h62_y : CX b S3x60_z := by rw [eS3x60_z]; exact cs_mk_6 h44_y hj0 (by omega) (by omega)
                have f63_y : gi S3x60_z (14 + 4 * j0) 2 = gi S2x41_z (14 + 4 * j0) 2 := gi_ne eS3x60_z (by omega)
                exact ok_some ⟨h62_y, by trivial⟩
              · unfold f_Mark_place_104
                refine ok_b1 (ok_Mark_number S2x41_z j0 2 h44_y hj0) (fun r1x64_z h65_y => ?_)
                refine ok_lt (fun S3x64_z eS3x64_z => ?_)
                have h66_y : CX b S3x64_z := by rw [eS3x64_z]; exact cs_mk_6 h44_y hj0 (by omega) (by omega)
                have f67_y : gi S3x64_z (14 + 4 * j0) 2 = gi S2x41_z (14 + 4 * j0) 2 := gi_ne eS3x64_z (by omega)
                exact ok_some ⟨h66_y, by trivial⟩
            · exact ok_some ⟨h44_y, by trivial⟩
        · unfold f_Mark_place_58
          refine ok_b1 (ok_Mark_number S1x7_z j0 1 h8_y hj0) (fun r1x68_z h69_y => ?_)
          unfold f_Mark_place_65
          refine ok_lt (fun S1x70_z eS1x70_z => ?_)
          have h71_y : CX b S1x70_z := by rw [eS1x70_z]; exact cs_mk_5 h8_y hj0 (by omega) (by omega)
          have f72_y : gi S1x70_z (14 + 4 * j0) 2 = gi S1x7_z (14 + 4 * j0) 2 := gi_ne eS1x70_z (by omega)
          refine ok_lt (fun S2x70_z eS2x70_z => ?_)
          have h73_y : CX b S2x70_z := by rw [eS2x70_z]; exact cs_mk_6 h71_y hj0 (by omega) (by omega)
          have f74_y : gi S2x70_z (14 + 4 * j0) 2 = gi S1x70_z (14 + 4 * j0) 2 := gi_ne eS2x70_z (by omega)
          refine ok_if (fun c75_y => ?_) (fun c75_y => ?_)
          · unfold f_Mark_place_89
            refine ok_if (fun c77_y => ?_) (fun c77_y => ?_)
            · unfold f_Mark_place_104
              refine ok_b1 (ok_Mark_number S2x70_z j0 0 h73_y hj0) (fun r1x78_z h79_y => ?_)
              refine ok_lt (fun S3x78_z eS3x78_z => ?_)
              have h80_y : CX b S3x78_z := by rw [eS3x78_z]; exact cs_mk_6 h73_y hj0 (by omega) (by omega)
              have f81_y : gi S3x78_z (14 + 4 * j0) 2 = gi S2x70_z (14 + 4 * j0) 2 := gi_ne eS3x78_z (by omega)
              exact ok_some ⟨h80_y, by trivial⟩
            · unfold f_Mark_place_104
              refine ok_b1 (ok_Mark_number S2x70_z j0 2 h73_y hj0) (fun r1x82_z h83_y => ?_)
              refine ok_lt (fun S3x82_z eS3x82_z => ?_)
              have h84_y : CX b S3x82_z := by rw [eS3x82_z]; exact cs_mk_6 h73_y hj0 (by omega) (by omega)
              have f85_y : gi S3x82_z (14 + 4 * j0) 2 = gi S2x70_z (14 + 4 * j0) 2 := gi_ne eS3x82_z (by omega)
              exact ok_some ⟨h84_y, by trivial⟩
          · refine ok_if (fun c86_y => ?_) (fun c86_y => ?_)
            · unfold f_Mark_place_89
              refine ok_if (fun c88_y => ?_) (fun c88_y => ?_)
              · unfold f_Mark_place_104
                refine ok_b1 (ok_Mark_number S2x70_z j0 0 h73_y hj0) (fun r1x89_z h90_y => ?_)
                refine ok_lt (fun S3x89_z eS3x89_z => ?_)
                have h91_y : CX b S3x89_z := by rw [eS3x89_z]; exact cs_mk_6 h73_y hj0 (by omega) (by omega)
                have f92_y : gi S3x89_z (14 + 4 * j0) 2 = gi S2x70_z (14 + 4 * j0) 2 := gi_ne eS3x89_z (by omega)
                exact ok_some ⟨h91_y, by trivial⟩
              · unfold f_Mark_place_104
                refine ok_b1 (ok_Mark_number S2x70_z j0 2 h73_y hj0) (fun r1x93_z h94_y => ?_)
                refine ok_lt (fun S3x93_z eS3x93_z => ?_)
                have h95_y : CX b S3x93_z := by rw [eS3x93_z]; exact cs_mk_6 h73_y hj0 (by omega) (by omega)
                have f96_y : gi S3x93_z (14 + 4 * j0) 2 = gi S2x70_z (14 + 4 * j0) 2 := gi_ne eS3x93_z (by omega)
                exact ok_some ⟨h95_y, by trivial⟩
            · exact ok_some ⟨h73_y, by trivial⟩
    · refine ok_b1 (ok_Mark_number S j0 0 hC hj0) (fun r1x5_z h97_y => ?_)
      unfold f_Mark_place_36
      refine ok_lt (fun S1x98_z eS1x98_z => ?_)
      have h99_y : CX b S1x98_z := by rw [eS1x98_z]; exact cs_mk_4 hC hj0 (by omega) (by omega)
      have f100_y : gi S1x98_z (14 + 4 * j0) 2 = gi S (14 + 4 * j0) 2 := gi_ne eS1x98_z (by omega)
      refine ok_if (fun c101_y => ?_) (fun c101_y => ?_)
      · unfold f_Mark_place_65
        refine ok_lt (fun S1x102_z eS1x102_z => ?_)
        have h103_y : CX b S1x102_z := by rw [eS1x102_z]; exact cs_mk_5 h99_y hj0 (by omega) (by omega)
        have f104_y : gi S1x102_z (14 + 4 * j0) 2 = gi S1x98_z (14 + 4 * j0) 2 := gi_ne eS1x102_z (by omega)
        refine ok_lt (fun S2x102_z eS2x102_z => ?_)
        have h105_y : CX b S2x102_z := by rw [eS2x102_z]; exact cs_mk_6 h103_y hj0 (by omega) (by omega)
        have f106_y : gi S2x102_z (14 + 4 * j0) 2 = gi S1x102_z (14 + 4 * j0) 2 := gi_ne eS2x102_z (by omega)
        refine ok_if (fun c107_y => ?_) (fun c107_y => ?_)
        · unfold f_Mark_place_89
          refine ok_if (fun c109_y => ?_) (fun c109_y => ?_)
          · unfold f_Mark_place_104
            refine ok_b1 (ok_Mark_number S2x102_z j0 0 h105_y hj0) (fun r1x110_z h111_y => ?_)
            refine ok_lt (fun S3x110_z eS3x110_z => ?_)
            have h112_y : CX b S3x110_z := by rw [eS3x110_z]; exact cs_mk_6 h105_y hj0 (by omega) (by omega)
            have f113_y : gi S3x110_z (14 + 4 * j0) 2 = gi S2x102_z (14 + 4 * j0) 2 := gi_ne eS3x110_z (by omega)
            exact ok_some ⟨h112_y, by trivial⟩
          · unfold f_Mark_place_104
            refine ok_b1 (ok_Mark_number S2x102_z j0 2 h105_y hj0) (fun r1x114_z h115_y => ?_)
            refine ok_lt (fun S3x114_z eS3x114_z => ?_)
            have h116_y : CX b S3x114_z := by rw [eS3x114_z]; exact cs_mk_6 h105_y hj0 (by omega) (by omega)
            have f117_y : gi S3x114_z (14 + 4 * j0) 2 = gi S2x102_z (14 + 4 * j0) 2 := gi_ne eS3x114_z (by omega)
            exact ok_some ⟨h116_y, by trivial⟩
        · refine ok_if (fun c118_y => ?_) (fun c118_y => ?_)
          · unfold f_Mark_place_89
            refine ok_if (fun c120_y => ?_) (fun c120_y => ?_)
            · unfold f_Mark_place_104
              refine ok_b1 (ok_Mark_number S2x102_z j0 0 h105_y hj0) (fun r1x121_z h122_y => ?_)
              refine ok_lt (fun S3x121_z eS3x121_z => ?_)
              have h123_y : CX b S3x121_z := by rw [eS3x121_z]; exact cs_mk_6 h105_y hj0 (by omega) (by omega)
              have f124_y : gi S3x121_z (14 + 4 * j0) 2 = gi S2x102_z (14 + 4 * j0) 2 := gi_ne eS3x121_z (by omega)
              exact ok_some ⟨h123_y, by trivial⟩
            · unfold f_Mark_place_104
              refine ok_b1 (ok_Mark_number S2x102_z j0 2 h105_y hj0) (fun r1x125_z h126_y => ?_)
              refine ok_lt (fun S3x125_z eS3x125_z => ?_)
              have h127_y : CX b S3x125_z := by rw [eS3x125_z]; exact cs_mk_6 h105_y hj0 (by omega) (by omega)
              have f128_y : gi S3x125_z (14 + 4 * j0) 2 = gi S2x102_z (14 + 4 * j0) 2 := gi_ne eS3x125_z (by omega)
              exact ok_some ⟨h127_y, by trivial⟩
          · exact ok_some ⟨h105_y, by trivial⟩
      · refine ok_if (fun c129_y => ?_) (fun c129_y => ?_)
        · unfold f_Mark_place_58
          refine ok_b1 (ok_Mark_number S1x98_z j0 2 h99_y hj0) (fun r1x130_z h131_y => ?_)
          unfold f_Mark_place_65
          refine ok_lt (fun S1x132_z eS1x132_z => ?_)
          have h133_y : CX b S1x132_z := by rw [eS1x132_z]; exact cs_mk_5 h99_y hj0 (by omega) (by omega)
          have f134_y : gi S1x132_z (14 + 4 * j0) 2 = gi S1x98_z (14 + 4 * j0) 2 := gi_ne eS1x132_z (by omega)
          refine ok_lt (fun S2x132_z eS2x132_z => ?_)
          have h135_y : CX b S2x132_z := by rw [eS2x132_z]; exact cs_mk_6 h133_y hj0 (by omega) (by omega)
          have f136_y : gi S2x132_z (14 + 4 * j0) 2 = gi S1x132_z (14 + 4 * j0) 2 := gi_ne eS2x132_z (by omega)
          refine ok_if (fun c137_y => ?_) (fun c137_y => ?_)
          · unfold f_Mark_place_89
            refine ok_if (fun c139_y => ?_) (fun c139_y => ?_)
            · unfold f_Mark_place_104
              refine ok_b1 (ok_Mark_number S2x132_z j0 0 h135_y hj0) (fun r1x140_z h141_y => ?_)
              refine ok_lt (fun S3x140_z eS3x140_z => ?_)
              have h142_y : CX b S3x140_z := by rw [eS3x140_z]; exact cs_mk_6 h135_y hj0 (by omega) (by omega)
              have f143_y : gi S3x140_z (14 + 4 * j0) 2 = gi S2x132_z (14 + 4 * j0) 2 := gi_ne eS3x140_z (by omega)
              exact ok_some ⟨h142_y, by trivial⟩
            · unfold f_Mark_place_104
              refine ok_b1 (ok_Mark_number S2x132_z j0 2 h135_y hj0) (fun r1x144_z h145_y => ?_)
              refine ok_lt (fun S3x144_z eS3x144_z => ?_)
              have h146_y : CX b S3x144_z := by rw [eS3x144_z]; exact cs_mk_6 h135_y hj0 (by omega) (by omega)
              have f147_y : gi S3x144_z (14 + 4 * j0) 2 = gi S2x132_z (14 + 4 * j0) 2 := gi_ne eS3x144_z (by omega)
              exact ok_some ⟨h146_y, by trivial⟩
          · refine ok_if (fun c148_y => ?_) (fun c148_y => ?_)
            · unfold f_Mark_place_89
              refine ok_if (fun c150_y => ?_) (fun c150_y => ?_)
              · unfold f_Mark_place_104
                refine ok_b1 (ok_Mark_number S2x132_z j0 0 h135_y hj0) (fun r1x151_z h152_y => ?_)
                refine ok_lt (fun S3x151_z eS3x151_z => ?_)
                have h153_y : CX b S3x151_z := by rw [eS3x151_z]; exact cs_mk_6 h135_y hj0 (by omega) (by omega)
                have f154_y : gi S3x151_z (14 + 4 * j0) 2 = gi S2x132_z (14 + 4 * j0) 2 := gi_ne eS3x151_z (by omega)
                exact ok_some ⟨h153_y, by trivial⟩
              · unfold f_Mark_place_104
                refine ok_b1 (ok_Mark_number S2x132_z j0 2 h135_y hj0) (fun r1x155_z h156_y => ?_)
                refine ok_lt (fun S3x155_z eS3x155_z => ?_)
                have h157_y : CX b S3x155_z := by rw [eS3x155_z]; exact cs_mk_6 h135_y hj0 (by omega) (by omega)
                have f158_y : gi S3x155_z (14 + 4 * j0) 2 = gi S2x132_z (14 + 4 * j0) 2 := gi_ne eS3x155_z (by omega)
                exact ok_some ⟨h157_y, by trivial⟩
            · exact ok_some ⟨h135_y, by trivial⟩
        · unfold f_Mark_place_58
          refine ok_b1 (ok_Mark_number S1x98_z j0 1 h99_y hj0) (fun r1x159_z h160_y => ?_)
          unfold f_Mark_place_65
          refine ok_lt (fun S1x161_z eS1x161_z => ?_)
          have h162_y : CX b S1x161_z := by rw [eS1x161_z]; exact cs_mk_5 h99_y hj0 (by omega) (by omega)
          have f163_y : gi S1x161_z (14 + 4 * j0) 2 = gi S1x98_z (14 + 4 * j0) 2 := gi_ne eS1x161_z (by omega)
          refine ok_lt (fun S2x161_z eS2x161_z => ?_)
          have h164_y : CX b S2x161_z := by rw [eS2x161_z]; exact cs_mk_6 h162_y hj0 (by omega) (by omega)
          have f165_y : gi S2x161_z (14 + 4 * j0) 2 = gi S1x161_z (14 + 4 * j0) 2 := gi_ne eS2x161_z (by omega)
          refine ok_if (fun c166_y => ?_) (fun c166_y => ?_)
          · unfold f_Mark_place_89
            refine ok_if (fun c168_y => ?_) (fun c168_y => ?_)
            · unfold f_Mark_place_104
              refine ok_b1 (ok_Mark_number S2x161_z j0 0 h164_y hj0) (fun r1x169_z h170_y => ?_)
              refine ok_lt (fun S3x169_z eS3x169_z => ?_)
              have h171_y : CX b S3x169_z := by rw [eS3x169_z]; exact cs_mk_6 h164_y hj0 (by omega) (by omega)
              have f172_y : gi S3x169_z (14 + 4 * j0) 2 = gi S2x161_z (14 + 4 * j0) 2 := gi_ne eS3x169_z (by omega)
              exact ok_some ⟨h171_y, by trivial⟩
            · unfold f_Mark_place_104
              refine ok_b1 (ok_Mark_number S2x161_z j0 2 h164_y hj0) (fun r1x173_z h174_y => ?_)
              refine ok_lt (fun S3x173_z eS3x173_z => ?_)
              have h175_y : CX b S3x173_z := by rw [eS3x173_z]; exact cs_mk_6 h164_y hj0 (by omega) (by omega)
              have f176_y : gi S3x173_z (14 + 4 * j0) 2 = gi S2x161_z (14 + 4 * j0) 2 := gi_ne eS3x173_z (by omega)
              exact ok_some ⟨h175_y, by trivial⟩
          · refine ok_if (fun c177_y => ?_) (fun c177_y => ?_)
            · unfold f_Mark_place_89
              refine ok_if (fun c179_y => ?_) (fun c179_y => ?_)
              · unfold f_Mark_place_104
                refine ok_b1 (ok_Mark_number S2x161_z j0 0 h164_y hj0) (fun r1x180_z h181_y => ?_)
                refine ok_lt (fun S3x180_z eS3x180_z => ?_)
                have h182_y : CX b S3x180_z := by rw [eS3x180_z]; exact cs_mk_6 h164_y hj0 (by omega) (by omega)
                have f183_y : gi S3x180_z (14 + 4 * j0) 2 = gi S2x161_z (14 + 4 * j0) 2 := gi_ne eS3x180_z (by omega)
                exact ok_some ⟨h182_y, by trivial⟩
              · unfold f_Mark_place_104
                refine ok_b1 (ok_Mark_number S2x161_z j0 2 h164_y hj0) (fun r1x184_z h185_y => ?_)
                refine ok_lt (fun S3x184_z eS3x184_z => ?_)
                have h186_y : CX b S3x184_z := by rw [eS3x184_z]; exact cs_mk_6 h164_y hj0 (by omega) (by omega)
                have f187_y : gi S3x184_z (14 + 4 * j0) 2 = gi S2x161_z (14 + 4 * j0) 2 := gi_ne eS3x184_z (by omega)
                exact ok_some ⟨h186_y, by trivial⟩
            · exact ok_some ⟨h164_y, by trivial⟩
  · refine ok_if (fun c188_y => ?_) (fun c188_y => ?_)
    · unfold f_Mark_place_20
      unfold f_Mark_place_21
      refine ok_if (fun c191_y => ?_) (fun c191_y => ?_)
      · unfold f_Mark_place_36
        refine ok_lt (fun S1x192_z eS1x192_z => ?_)
        have h193_y : CX b S1x192_z := by rw [eS1x192_z]; exact cs_mk_4 hC hj0 (by omega) (by omega)
        have f194_y : gi S1x192_z (14 + 4 * j0) 2 = gi S (14 + 4 * j0) 2 := gi_ne eS1x192_z (by omega)
        refine ok_if (fun c195_y => ?_) (fun c195_y => ?_)
        · unfold f_Mark_place_65
          refine ok_lt (fun S1x196_z eS1x196_z => ?_)
          have h197_y : CX b S1x196_z := by rw [eS1x196_z]; exact cs_mk_5 h193_y hj0 (by omega) (by omega)
          have f198_y : gi S1x196_z (14 + 4 * j0) 2 = gi S1x192_z (14 + 4 * j0) 2 := gi_ne eS1x196_z (by omega)
          refine ok_lt (fun S2x196_z eS2x196_z => ?_)
          have h199_y : CX b S2x196_z := by rw [eS2x196_z]; exact cs_mk_6 h197_y hj0 (by omega) (by omega)
          have f200_y : gi S2x196_z (14 + 4 * j0) 2 = gi S1x196_z (14 + 4 * j0) 2 := gi_ne eS2x196_z (by omega)
          refine ok_if (fun c201_y => ?_) (fun c201_y => ?_)
          · unfold f_Mark_place_89
            refine ok_if (fun c203_y => ?_) (fun c203_y => ?_)
            · unfold f_Mark_place_104
              refine ok_b1 (ok_Mark_number S2x196_z j0 0 h199_y hj0) (fun r1x204_z h205_y => ?_)
              refine ok_lt (fun S3x204_z eS3x204_z => ?_)
              have h206_y : CX b S3x204_z := by rw [eS3x204_z]; exact cs_mk_6 h199_y hj0 (by omega) (by omega)
              have f207_y : gi S3x204_z (14 + 4 * j0) 2 = gi S2x196_z (14 + 4 * j0) 2 := gi_ne eS3x204_z (by omega)
              exact ok_some ⟨h206_y, by trivial⟩
            · unfold f_Mark_place_104
              refine ok_b1 (ok_Mark_number S2x196_z j0 2 h199_y hj0) (fun r1x208_z h209_y => ?_)
              refine ok_lt (fun S3x208_z eS3x208_z => ?_)
              have h210_y : CX b S3x208_z := by rw [eS3x208_z]; exact cs_mk_6 h199_y hj0 (by omega) (by omega)
              have f211_y : gi S3x208_z (14 + 4 * j0) 2 = gi S2x196_z (14 + 4 * j0) 2 := gi_ne eS3x208_z (by omega)
              exact ok_some ⟨h210_y, by trivial⟩
          · refine ok_if (fun c212_y => ?_) (fun c212_y => ?_)
            · unfold f_Mark_place_89
              refine ok_if (fun c214_y => ?_) (fun c214_y => ?_)
              · unfold f_Mark_place_104
                refine ok_b1 (ok_Mark_number S2x196_z j0 0 h199_y hj0) (fun r1x215_z h216_y => ?_)
                refine ok_lt (fun S3x215_z eS3x215_z => ?_)
                have h217_y : CX b S3x215_z := by rw [eS3x215_z]; exact cs_mk_6 h199_y hj0 (by omega) (by omega)
                have f218_y : gi S3x215_z (14 + 4 * j0) 2 = gi S2x196_z (14 + 4 * j0) 2 := gi_ne eS3x215_z (by omega)
                exact ok_some ⟨h217_y, by trivial⟩
              · unfold f_Mark_place_104
                refine ok_b1 (ok_Mark_number S2x196_z j0 2 h199_y hj0) (fun r1x219_z h220_y => ?_)
                refine ok_lt (fun S3x219_z eS3x219_z => ?_)
                have h221_y : CX b S3x219_z := by rw [eS3x219_z]; exact cs_mk_6 h199_y hj0 (by omega) (by omega)
                have f222_y : gi S3x219_z (14 + 4 * j0) 2 = gi S2x196_z (14 + 4 * j0) 2 := gi_ne eS3x219_z (by omega)
                exact ok_some ⟨h221_y, by trivial⟩
            · exact ok_some ⟨h199_y, by trivial⟩
        · refine ok_if (fun c223_y => ?_) (fun c223_y => ?_)
          · unfold f_Mark_place_58
            refine ok_b1 (ok_Mark_number S1x192_z j0 2 h193_y hj0) (fun r1x224_z h225_y => ?_)
            unfold f_Mark_place_65
            refine ok_lt (fun S1x226_z eS1x226_z => ?_)
            have h227_y : CX b S1x226_z := by rw [eS1x226_z]; exact cs_mk_5 h193_y hj0 (by omega) (by omega)
            have f228_y : gi S1x226_z (14 + 4 * j0) 2 = gi S1x192_z (14 + 4 * j0) 2 := gi_ne eS1x226_z (by omega)
            refine ok_lt (fun S2x226_z eS2x226_z => ?_)
            have h229_y : CX b S2x226_z := by rw [eS2x226_z]; exact cs_mk_6 h227_y hj0 (by omega) (by omega)
            have f230_y : gi S2x226_z (14 + 4 * j0) 2 = gi S1x226_z (14 + 4 * j0) 2 := gi_ne eS2x226_z (by omega)
            refine ok_if (fun c231_y => ?_) (fun c231_y => ?_)
            · unfold f_Mark_place_89
              refine ok_if (fun c233_y => ?_) (fun c233_y => ?_)
              · unfold f_Mark_place_104
                refine ok_b1 (ok_Mark_number S2x226_z j0 0 h229_y hj0) (fun r1x234_z h235_y => ?_)
                refine ok_lt (fun S3x234_z eS3x234_z => ?_)
                have h236_y : CX b S3x234_z := by rw [eS3x234_z]; exact cs_mk_6 h229_y hj0 (by omega) (by omega)
                have f237_y : gi S3x234_z (14 + 4 * j0) 2 = gi S2x226_z (14 + 4 * j0) 2 := gi_ne eS3x234_z (by omega)
                exact ok_some ⟨h236_y, by trivial⟩
              · unfold f_Mark_place_104
                refine ok_b1 (ok_Mark_number S2x226_z j0 2 h229_y hj0) (fun r1x238_z h239_y => ?_)
                refine ok_lt (fun S3x238_z eS3x238_z => ?_)
                have h240_y : CX b S3x238_z := by rw [eS3x238_z]; exact cs_mk_6 h229_y hj0 (by omega) (by omega)
                have f241_y : gi S3x238_z (14 + 4 * j0) 2 = gi S2x226_z (14 + 4 * j0) 2 := gi_ne eS3x238_z (by omega)
                exact ok_some ⟨h240_y, by trivial⟩
            · refine ok_if (fun c242_y => ?_) (fun c242_y => ?_)
              · unfold f_Mark_place_89
                refine ok_if (fun c244_y => ?_) (fun c244_y => ?_)
                · unfold f_Mark_place_104
                  refine ok_b1 (ok_Mark_number S2x226_z j0 0 h229_y hj0) (fun r1x245_z h246_y => ?_)
                  refine ok_lt (fun S3x245_z eS3x245_z => ?_)
                  have h247_y : CX b S3x245_z := by rw [eS3x245_z]; exact cs_mk_6 h229_y hj0 (by omega) (by omega)
                  have f248_y : gi S3x245_z (14 + 4 * j0) 2 = gi S2x226_z (14 + 4 * j0) 2 := gi_ne eS3x245_z (by omega)
                  exact ok_some ⟨h247_y, by trivial⟩
                · unfold f_Mark_place_104
                  refine ok_b1 (ok_Mark_number S2x226_z j0 2 h229_y hj0) (fun r1x249_z h250_y => ?_)
                  refine ok_lt (fun S3x249_z eS3x249_z => ?_)
                  have h251_y : CX b S3x249_z := by rw [eS3x249_z]; exact cs_mk_6 h229_y hj0 (by omega) (by omega)
                  have f252_y : gi S3x249_z (14 + 4 * j0) 2 = gi S2x226_z (14 + 4 * j0) 2 := gi_ne eS3x249_z (by omega)
                  exact ok_some ⟨h251_y, by trivial⟩
              · exact ok_some ⟨h229_y, by trivial⟩
          · unfold f_Mark_place_58
            refine ok_b1 (ok_Mark_number S1x192_z j0 1 h193_y hj0) (fun r1x253_z h254_y => ?_)
            unfold f_Mark_place_65
            refine ok_lt (fun S1x255_z eS1x255_z => ?_)
            have h256_y : CX b S1x255_z := by rw [eS1x255_z]; exact cs_mk_5 h193_y hj0 (by omega) (by omega)
            have f257_y : gi S1x255_z (14 + 4 * j0) 2 = gi S1x192_z (14 + 4 * j0) 2 := gi_ne eS1x255_z (by omega)
            refine ok_lt (fun S2x255_z eS2x255_z => ?_)
            have h258_y : CX b S2x255_z := by rw [eS2x255_z]; exact cs_mk_6 h256_y hj0 (by omega) (by omega)
            have f259_y : gi S2x255_z (14 + 4 * j0) 2 = gi S1x255_z (14 + 4 * j0) 2 := gi_ne eS2x255_z (by omega)
            refine ok_if (fun c260_y => ?_) (fun c260_y => ?_)
            · unfold f_Mark_place_89
              refine ok_if (fun c262_y => ?_) (fun c262_y => ?_)
              · unfold f_Mark_place_104
                refine ok_b1 (ok_Mark_number S2x255_z j0 0 h258_y hj0) (fun r1x263_z h264_y => ?_)
                refine ok_lt (fun S3x263_z eS3x263_z => ?_)
                have h265_y : CX b S3x263_z := by rw [eS3x263_z]; exact cs_mk_6 h258_y hj0 (by omega) (by omega)
                have f266_y : gi S3x263_z (14 + 4 * j0) 2 = gi S2x255_z (14 + 4 * j0) 2 := gi_ne eS3x263_z (by omega)
                exact ok_some ⟨h265_y, by trivial⟩
              · unfold f_Mark_place_104
                refine ok_b1 (ok_Mark_number S2x255_z j0 2 h258_y hj0) (fun r1x267_z h268_y => ?_)
                refine ok_lt (fun S3x267_z eS3x267_z => ?_)
                have h269_y : CX b S3x267_z := by rw [eS3x267_z]; exact cs_mk_6 h258_y hj0 (by omega) (by omega)
                have f270_y : gi S3x267_z (14 + 4 * j0) 2 = gi S2x255_z (14 + 4 * j0) 2 := gi_ne eS3x267_z (by omega)
                exact ok_some ⟨h269_y, by trivial⟩
            · refine ok_if (fun c271_y => ?_) (fun c271_y => ?_)
              · unfold f_Mark_place_89
                refine ok_if (fun c273_y => ?_) (fun c273_y => ?_)
                · unfold f_Mark_place_104
                  refine ok_b1 (ok_Mark_number S2x255_z j0 0 h258_y hj0) (fun r1x274_z h275_y => ?_)
                  refine ok_lt (fun S3x274_z eS3x274_z => ?_)
                  have h276_y : CX b S3x274_z := by rw [eS3x274_z]; exact cs_mk_6 h258_y hj0 (by omega) (by omega)
                  have f277_y : gi S3x274_z (14 + 4 * j0) 2 = gi S2x255_z (14 + 4 * j0) 2 := gi_ne eS3x274_z (by omega)
                  exact ok_some ⟨h276_y, by trivial⟩
                · unfold f_Mark_place_104
                  refine ok_b1 (ok_Mark_number S2x255_z j0 2 h258_y hj0) (fun r1x278_z h279_y => ?_)
                  refine ok_lt (fun S3x278_z eS3x278_z => ?_)
                  have h280_y : CX b S3x278_z := by rw [eS3x278_z]; exact cs_mk_6 h258_y hj0 (by omega) (by omega)
                  have f281_y : gi S3x278_z (14 + 4 * j0) 2 = gi S2x255_z (14 + 4 * j0) 2 := gi_ne eS3x278_z (by omega)
                  exact ok_some ⟨h280_y, by trivial⟩
              · exact ok_some ⟨h258_y, by trivial⟩
      · refine ok_b1 (ok_Mark_number S j0 0 hC hj0) (fun r1x190_z h282_y => ?_)
        unfold f_Mark_place_36
        refine ok_lt (fun S1x283_z eS1x283_z => ?_)
        have h284_y : CX b S1x283_z := by rw [eS1x283_z]; exact cs_mk_4 hC hj0 (by omega) (by omega)
        have f285_y : gi S1x283_z (14 + 4 * j0) 2 = gi S (14 + 4 * j0) 2 := gi_ne eS1x283_z (by omega)
        refine ok_if (fun c286_y => ?_) (fun c286_y => ?_)
        · unfold f_Mark_place_65
          refine ok_lt (fun S1x287_z eS1x287_z => ?_)
          have h288_y : CX b S1x287_z := by rw [eS1x287_z]; exact cs_mk_5 h284_y hj0 (by omega) (by omega)
          have f289_y : gi S1x287_z (14 + 4 * j0) 2 = gi S1x283_z (14 + 4 * j0) 2 := gi_ne eS1x287_z (by omega)
          refine ok_lt (fun S2x287_z eS2x287_z => ?_)
          have h290_y : CX b S2x287_z := by rw [eS2x287_z]; exact cs_mk_6 h288_y hj0 (by omega) (by omega)
          have f291_y : gi S2x287_z (14 + 4 * j0) 2 = gi S1x287_z (14 + 4 * j0) 2 := gi_ne eS2x287_z (by omega)
          refine ok_if (fun c292_y => ?_) (fun c292_y => ?_)
          · unfold f_Mark_place_89
            refine ok_if (fun c294_y => ?_) (fun c294_y => ?_)
            · unfold f_Mark_place_104
              refine ok_b1 (ok_Mark_number S2x287_z j0 0 h290_y hj0) (fun r1x295_z h296_y => ?_)
              refine ok_lt (fun S3x295_z eS3x295_z => ?_)
              have h297_y : CX b S3x295_z := by rw [eS3x295_z]; exact cs_mk_6 h290_y hj0 (by omega) (by omega)
              have f298_y : gi S3x295_z (14 + 4 * j0) 2 = gi S2x287_z (14 + 4 * j0) 2 := gi_ne eS3x295_z (by omega)
              exact ok_some ⟨h297_y, by trivial⟩
            · unfold f_Mark_place_104
              refine ok_b1 (ok_Mark_number S2x287_z j0 2 h290_y hj0) (fun r1x299_z h300_y => ?_)
              refine ok_lt (fun S3x299_z eS3x299_z => ?_)
              have h301_y : CX b S3x299_z := by rw [eS3x299_z]; exact cs_mk_6 h290_y hj0 (by omega) (by omega)
              have f302_y : gi S3x299_z (14 + 4 * j0) 2 = gi S2x287_z (14 + 4 * j0) 2 := gi_ne eS3x299_z (by omega)
              exact ok_some ⟨h301_y, by trivial⟩
          · refine ok_if (fun c303_y => ?_) (fun c303_y => ?_)
            · unfold f_Mark_place_89
              refine ok_if (fun c305_y => ?_) (fun c305_y => ?_)
              · unfold f_Mark_place_104
                refine ok_b1 (ok_Mark_number S2x287_z j0 0 h290_y hj0) (fun r1x306_z h307_y => ?_)
                refine ok_lt (fun S3x306_z eS3x306_z => ?_)
                have h308_y : CX b S3x306_z := by rw [eS3x306_z]; exact cs_mk_6 h290_y hj0 (by omega) (by omega)
                have f309_y : gi S3x306_z (14 + 4 * j0) 2 = gi S2x287_z (14 + 4 * j0) 2 := gi_ne eS3x306_z (by omega)
                exact ok_some ⟨h308_y, by trivial⟩
              · unfold f_Mark_place_104
                refine ok_b1 (ok_Mark_number S2x287_z j0 2 h290_y hj0) (fun r1x310_z h311_y => ?_)
                refine ok_lt (fun S3x310_z eS3x310_z => ?_)
                have h312_y : CX b S3x310_z := by rw [eS3x310_z]; exact cs_mk_6 h290_y hj0 (by omega) (by omega)
                have f313_y : gi S3x310_z (14 + 4 * j0) 2 = gi S2x287_z (14 + 4 * j0) 2 := gi_ne eS3x310_z (by omega)
                exact ok_some ⟨h312_y, by trivial⟩
            · exact ok_some ⟨h290_y, by trivial⟩
        · refine ok_if (fun c314_y => ?_) (fun c314_y => ?_)
          · unfold f_Mark_place_58
            refine ok_b1 (ok_Mark_number S1x283_z j0 2 h284_y hj0) (fun r1x315_z h316_y => ?_)
            unfold f_Mark_place_65
            refine ok_lt (fun S1x317_z eS1x317_z => ?_)
            have h318_y : CX b S1x317_z := by rw [eS1x317_z]; exact cs_mk_5 h284_y hj0 (by omega) (by omega)
            have f319_y : gi S1x317_z (14 + 4 * j0) 2 = gi S1x283_z (14 + 4 * j0) 2 := gi_ne eS1x317_z (by omega)
            refine ok_lt (fun S2x317_z eS2x317_z => ?_)
            have h320_y : CX b S2x317_z := by rw [eS2x317_z]; exact cs_mk_6 h318_y hj0 (by omega) (by omega)
            have f321_y : gi S2x317_z (14 + 4 * j0) 2 = gi S1x317_z (14 + 4 * j0) 2 := gi_ne eS2x317_z (by omega)
            refine ok_if (fun c322_y => ?_) (fun c322_y => ?_)
            · unfold f_Mark_place_89
              refine ok_if (fun c324_y => ?_) (fun c324_y => ?_)
              · unfold f_Mark_place_104
                refine ok_b1 (ok_Mark_number S2x317_z j0 0 h320_y hj0) (fun r1x325_z h326_y => ?_)
                refine ok_lt (fun S3x325_z eS3x325_z => ?_)
                have h327_y : CX b S3x325_z := by rw [eS3x325_z]; exact cs_mk_6 h320_y hj0 (by omega) (by omega)
                have f328_y : gi S3x325_z (14 + 4 * j0) 2 = gi S2x317_z (14 + 4 * j0) 2 := gi_ne eS3x325_z (by omega)
                exact ok_some ⟨h327_y, by trivial⟩
              · unfold f_Mark_place_104
                refine ok_b1 (ok_Mark_number S2x317_z j0 2 h320_y hj0) (fun r1x329_z h330_y => ?_)
                refine ok_lt (fun S3x329_z eS3x329_z => ?_)
                have h331_y : CX b S3x329_z := by rw [eS3x329_z]; exact cs_mk_6 h320_y hj0 (by omega) (by omega)
                have f332_y : gi S3x329_z (14 + 4 * j0) 2 = gi S2x317_z (14 + 4 * j0) 2 := gi_ne eS3x329_z (by omega)
                exact ok_some ⟨h331_y, by trivial⟩
            · refine ok_if (fun c333_y => ?_) (fun c333_y => ?_)
              · unfold f_Mark_place_89
                refine ok_if (fun c335_y => ?_) (fun c335_y => ?_)
                · unfold f_Mark_place_104
                  refine ok_b1 (ok_Mark_number S2x317_z j0 0 h320_y hj0) (fun r1x336_z h337_y => ?_)
                  refine ok_lt (fun S3x336_z eS3x336_z => ?_)
                  have h338_y : CX b S3x336_z := by rw [eS3x336_z]; exact cs_mk_6 h320_y hj0 (by omega) (by omega)
                  have f339_y : gi S3x336_z (14 + 4 * j0) 2 = gi S2x317_z (14 + 4 * j0) 2 := gi_ne eS3x336_z (by omega)
                  exact ok_some ⟨h338_y, by trivial⟩
                · unfold f_Mark_place_104
                  refine ok_b1 (ok_Mark_number S2x317_z j0 2 h320_y hj0) (fun r1x340_z h341_y => ?_)
                  refine ok_lt (fun S3x340_z eS3x340_z => ?_)
                  have h342_y : CX b S3x340_z := by rw [eS3x340_z]; exact cs_mk_6 h320_y hj0 (by omega) (by omega)
                  have f343_y : gi S3x340_z (14 + 4 * j0) 2 = gi S2x317_z (14 + 4 * j0) 2 := gi_ne eS3x340_z (by omega)
                  exact ok_some ⟨h342_y, by trivial⟩
              · exact ok_some ⟨h320_y, by trivial⟩
          · unfold f_Mark_place_58
            refine ok_b1 (ok_Mark_number S1x283_z j0 1 h284_y hj0) (fun r1x344_z h345_y => ?_)
            unfold f_Mark_place_65
            refine ok_lt (fun S1x346_z eS1x346_z => ?_)
            have h347_y : CX b S1x346_z := by rw [eS1x346_z]; exact cs_mk_5 h284_y hj0 (by omega) (by omega)
            have f348_y : gi S1x346_z (14 + 4 * j0) 2 = gi S1x283_z (14 + 4 * j0) 2 := gi_ne eS1x346_z (by omega)
            refine ok_lt (fun S2x346_z eS2x346_z => ?_)
            have h349_y : CX b S2x346_z := by rw [eS2x346_z]; exact cs_mk_6 h347_y hj0 (by omega) (by omega)
            have f350_y : gi S2x346_z (14 + 4 * j0) 2 = gi S1x346_z (14 + 4 * j0) 2 := gi_ne eS2x346_z (by omega)
            refine ok_if (fun c351_y => ?_) (fun c351_y => ?_)
            · unfold f_Mark_place_89
              refine ok_if (fun c353_y => ?_) (fun c353_y => ?_)
              · unfold f_Mark_place_104
                refine ok_b1 (ok_Mark_number S2x346_z j0 0 h349_y hj0) (fun r1x354_z h355_y => ?_)
                refine ok_lt (fun S3x354_z eS3x354_z => ?_)
                have h356_y : CX b S3x354_z := by rw [eS3x354_z]; exact cs_mk_6 h349_y hj0 (by omega) (by omega)
                have f357_y : gi S3x354_z (14 + 4 * j0) 2 = gi S2x346_z (14 + 4 * j0) 2 := gi_ne eS3x354_z (by omega)
                exact ok_some ⟨h356_y, by trivial⟩
              · unfold f_Mark_place_104
                refine ok_b1 (ok_Mark_number S2x346_z j0 2 h349_y hj0) (fun r1x358_z h359_y => ?_)
                refine ok_lt (fun S3x358_z eS3x358_z => ?_)
                have h360_y : CX b S3x358_z := by rw [eS3x358_z]; exact cs_mk_6 h349_y hj0 (by omega) (by omega)
                have f361_y : gi S3x358_z (14 + 4 * j0) 2 = gi S2x346_z (14 + 4 * j0) 2 := gi_ne eS3x358_z (by omega)
                exact ok_some ⟨h360_y, by trivial⟩
            · refine ok_if (fun c362_y => ?_) (fun c362_y => ?_)
              · unfold f_Mark_place_89
                refine ok_if (fun c364_y => ?_) (fun c364_y => ?_)
                · unfold f_Mark_place_104
                  refine ok_b1 (ok_Mark_number S2x346_z j0 0 h349_y hj0) (fun r1x365_z h366_y => ?_)
                  refine ok_lt (fun S3x365_z eS3x365_z => ?_)
                  have h367_y : CX b S3x365_z := by rw [eS3x365_z]; exact cs_mk_6 h349_y hj0 (by omega) (by omega)
                  have f368_y : gi S3x365_z (14 + 4 * j0) 2 = gi S2x346_z (14 + 4 * j0) 2 := gi_ne eS3x365_z (by omega)
                  exact ok_some ⟨h367_y, by trivial⟩
                · unfold f_Mark_place_104
                  refine ok_b1 (ok_Mark_number S2x346_z j0 2 h349_y hj0) (fun r1x369_z h370_y => ?_)
                  refine ok_lt (fun S3x369_z eS3x369_z => ?_)
                  have h371_y : CX b S3x369_z := by rw [eS3x369_z]; exact cs_mk_6 h349_y hj0 (by omega) (by omega)
                  have f372_y : gi S3x369_z (14 + 4 * j0) 2 = gi S2x346_z (14 + 4 * j0) 2 := gi_ne eS3x369_z (by omega)
                  exact ok_some ⟨h371_y, by trivial⟩
              · exact ok_some ⟨h349_y, by trivial⟩
    · unfold f_Mark_place_21
      refine ok_if (fun c374_y => ?_) (fun c374_y => ?_)
      · unfold f_Mark_place_36
        refine ok_lt (fun S1x375_z eS1x375_z => ?_)
        have h376_y : CX b S1x375_z := by rw [eS1x375_z]; exact cs_mk_4 hC hj0 (by omega) (by omega)
        have f377_y : gi S1x375_z (14 + 4 * j0) 2 = gi S (14 + 4 * j0) 2 := gi_ne eS1x375_z (by omega)
        refine ok_if (fun c378_y => ?_) (fun c378_y => ?_)
        · unfold f_Mark_place_65
          refine ok_lt (fun S1x379_z eS1x379_z => ?_)
          have h380_y : CX b S1x379_z := by rw [eS1x379_z]; exact cs_mk_5 h376_y hj0 (by omega) (by omega)
          have f381_y : gi S1x379_z (14 + 4 * j0) 2 = gi S1x375_z (14 + 4 * j0) 2 := gi_ne eS1x379_z (by omega)
          refine ok_lt (fun S2x379_z eS2x379_z => ?_)
          have h382_y : CX b S2x379_z := by rw [eS2x379_z]; exact cs_mk_6 h380_y hj0 (by omega) (by omega)
          have f383_y : gi S2x379_z (14 + 4 * j0) 2 = gi S1x379_z (14 + 4 * j0) 2 := gi_ne eS2x379_z (by omega)
          refine ok_if (fun c384_y => ?_) (fun c384_y => ?_)
          · unfold f_Mark_place_89
            refine ok_if (fun c386_y => ?_) (fun c386_y => ?_)
            · unfold f_Mark_place_104
              refine ok_b1 (ok_Mark_number S2x379_z j0 0 h382_y hj0) (fun r1x387_z h388_y => ?_)
              refine ok_lt (fun S3x387_z eS3x387_z => ?_)
              have h389_y : CX b S3x387_z := by rw [eS3x387_z]; exact cs_mk_6 h382_y hj0 (by omega) (by omega)
              have f390_y : gi S3x387_z (14 + 4 * j0) 2 = gi S2x379_z (14 + 4 * j0) 2 := gi_ne eS3x387_z (by omega)
              exact ok_some ⟨h389_y, by trivial⟩
            · unfold f_Mark_place_104
              refine ok_b1 (ok_Mark_number S2x379_z j0 2 h382_y hj0) (fun r1x391_z h392_y => ?_)
              refine ok_lt (fun S3x391_z eS3x391_z => ?_)
              have h393_y : CX b S3x391_z := by rw [eS3x391_z]; exact cs_mk_6 h382_y hj0 (by omega) (by omega)
              have f394_y : gi S3x391_z (14 + 4 * j0) 2 = gi S2x379_z (14 + 4 * j0) 2 := gi_ne eS3x391_z (by omega)
              exact ok_some ⟨h393_y, by trivial⟩
          · refine ok_if (fun c395_y => ?_) (fun c395_y => ?_)
            · unfold f_Mark_place_89
              refine ok_if (fun c397_y => ?_) (fun c397_y => ?_)
              · unfold f_Mark_place_104
                refine ok_b1 (ok_Mark_number S2x379_z j0 0 h382_y hj0) (fun r1x398_z h399_y => ?_)
                refine ok_lt (fun S3x398_z eS3x398_z => ?_)
                have h400_y : CX b S3x398_z := by rw [eS3x398_z]; exact cs_mk_6 h382_y hj0 (by omega) (by omega)
                have f401_y : gi S3x398_z (14 + 4 * j0) 2 = gi S2x379_z (14 + 4 * j0) 2 := gi_ne eS3x398_z (by omega)
                exact ok_some ⟨h400_y, by trivial⟩
              · unfold f_Mark_place_104
                refine ok_b1 (ok_Mark_number S2x379_z j0 2 h382_y hj0) (fun r1x402_z h403_y => ?_)
                refine ok_lt (fun S3x402_z eS3x402_z => ?_)
                have h404_y : CX b S3x402_z := by rw [eS3x402_z]; exact cs_mk_6 h382_y hj0 (by omega) (by omega)
                have f405_y : gi S3x402_z (14 + 4 * j0) 2 = gi S2x379_z (14 + 4 * j0) 2 := gi_ne eS3x402_z (by omega)
                exact ok_some ⟨h404_y, by trivial⟩
            · exact ok_some ⟨h382_y, by trivial⟩
        · refine ok_if (fun c406_y => ?_) (fun c406_y => ?_)
          · unfold f_Mark_place_58
            refine ok_b1 (ok_Mark_number S1x375_z j0 2 h376_y hj0) (fun r1x407_z h408_y => ?_)
            unfold f_Mark_place_65
            refine ok_lt (fun S1x409_z eS1x409_z => ?_)
            have h410_y : CX b S1x409_z := by rw [eS1x409_z]; exact cs_mk_5 h376_y hj0 (by omega) (by omega)
            have f411_y : gi S1x409_z (14 + 4 * j0) 2 = gi S1x375_z (14 + 4 * j0) 2 := gi_ne eS1x409_z (by omega)
            refine ok_lt (fun S2x409_z eS2x409_z => ?_)
            have h412_y : CX b S2x409_z := by rw [eS2x409_z]; exact cs_mk_6 h410_y hj0 (by omega) (by omega)
            have f413_y : gi S2x409_z (14 + 4 * j0) 2 = gi S1x409_z (14 + 4 * j0) 2 := gi_ne eS2x409_z (by omega)
            refine ok_if (fun c414_y => ?_) (fun c414_y => ?_)
            · unfold f_Mark_place_89
              refine ok_if (fun c416_y => ?_) (fun c416_y => ?_)
              · unfold f_Mark_place_104
                refine ok_b1 (ok_Mark_number S2x409_z j0 0 h412_y hj0) (fun r1x417_z h418_y => ?_)
                refine ok_lt (fun S3x417_z eS3x417_z => ?_)
                have h419_y : CX b S3x417_z := by rw [eS3x417_z]; exact cs_mk_6 h412_y hj0 (by omega) (by omega)
                have f420_y : gi S3x417_z (14 + 4 * j0) 2 = gi S2x409_z (14 + 4 * j0) 2 := gi_ne eS3x417_z (by omega)
                exact ok_some ⟨h419_y, by trivial⟩
              · unfold f_Mark_place_104
                refine ok_b1 (ok_Mark_number S2x409_z j0 2 h412_y hj0) (fun r1x421_z h422_y => ?_)
                refine ok_lt (fun S3x421_z eS3x421_z => ?_)
                have h423_y : CX b S3x421_z := by rw [eS3x421_z]; exact cs_mk_6 h412_y hj0 (by omega) (by omega)
                have f424_y : gi S3x421_z (14 + 4 * j0) 2 = gi S2x409_z (14 + 4 * j0) 2 := gi_ne eS3x421_z (by omega)
                exact ok_some ⟨h423_y, by trivial⟩
            · refine ok_if (fun c425_y => ?_) (fun c425_y => ?_)
              · unfold f_Mark_place_89
                refine ok_if (fun c427_y => ?_) (fun c427_y => ?_)
                · unfold f_Mark_place_104
                  refine ok_b1 (ok_Mark_number S2x409_z j0 0 h412_y hj0) (fun r1x428_z h429_y => ?_)
                  refine ok_lt (fun S3x428_z eS3x428_z => ?_)
                  have h430_y : CX b S3x428_z := by rw [eS3x428_z]; exact cs_mk_6 h412_y hj0 (by omega) (by omega)
                  have f431_y : gi S3x428_z (14 + 4 * j0) 2 = gi S2x409_z (14 + 4 * j0) 2 := gi_ne eS3x428_z (by omega)
                  exact ok_some ⟨h430_y, by trivial⟩
                · unfold f_Mark_place_104
                  refine ok_b1 (ok_Mark_number S2x409_z j0 2 h412_y hj0) (fun r1x432_z h433_y => ?_)
                  refine ok_lt (fun S3x432_z eS3x432_z => ?_)
                  have h434_y : CX b S3x432_z := by rw [eS3x432_z]; exact cs_mk_6 h412_y hj0 (by omega) (by omega)
                  have f435_y : gi S3x432_z (14 + 4 * j0) 2 = gi S2x409_z (14 + 4 * j0) 2 := gi_ne eS3x432_z (by omega)
                  exact ok_some ⟨h434_y, by trivial⟩
              · exact ok_some ⟨h412_y, by trivial⟩
          · unfold f_Mark_place_58
            refine ok_b1 (ok_Mark_number S1x375_z j0 1 h376_y hj0) (fun r1x436_z h437_y => ?_)
            unfold f_Mark_place_65
            refine ok_lt (fun S1x438_z eS1x438_z => ?_)
            have h439_y : CX b S1x438_z := by rw [eS1x438_z]; exact cs_mk_5 h376_y hj0 (by omega) (by omega)
            have f440_y : gi S1x438_z (14 + 4 * j0) 2 = gi S1x375_z (14 + 4 * j0) 2 := gi_ne eS1x438_z (by omega)
            refine ok_lt (fun S2x438_z eS2x438_z => ?_)
            have h441_y : CX b S2x438_z := by rw [eS2x438_z]; exact cs_mk_6 h439_y hj0 (by omega) (by omega)
            have f442_y : gi S2x438_z (14 + 4 * j0) 2 = gi S1x438_z (14 + 4 * j0) 2 := gi_ne eS2x438_z (by omega)
            refine ok_if (fun c443_y => ?_) (fun c443_y => ?_)
            · unfold f_Mark_place_89
              refine ok_if (fun c445_y => ?_) (fun c445_y => ?_)
              · unfold f_Mark_place_104
                refine ok_b1 (ok_Mark_number S2x438_z j0 0 h441_y hj0) (fun r1x446_z h447_y => ?_)
                refine ok_lt (fun S3x446_z eS3x446_z => ?_)
                have h448_y : CX b S3x446_z := by rw [eS3x446_z]; exact cs_mk_6 h441_y hj0 (by omega) (by omega)
                have f449_y : gi S3x446_z (14 + 4 * j0) 2 = gi S2x438_z (14 + 4 * j0) 2 := gi_ne eS3x446_z (by omega)
                exact ok_some ⟨h448_y, by trivial⟩
              · unfold f_Mark_place_104
                refine ok_b1 (ok_Mark_number S2x438_z j0 2 h441_y hj0) (fun r1x450_z h451_y => ?_)
                refine ok_lt (fun S3x450_z eS3x450_z => ?_)
                have h452_y : CX b S3x450_z := by rw [eS3x450_z]; exact cs_mk_6 h441_y hj0 (by omega) (by omega)
                have f453_y : gi S3x450_z (14 + 4 * j0) 2 = gi S2x438_z (14 + 4 * j0) 2 := gi_ne eS3x450_z (by omega)
                exact ok_some ⟨h452_y, by trivial⟩
            · refine ok_if (fun c454_y => ?_) (fun c454_y => ?_)
              · unfold f_Mark_place_89
                refine ok_if (fun c456_y => ?_) (fun c456_y => ?_)
                · unfold f_Mark_place_104
                  refine ok_b1 (ok_Mark_number S2x438_z j0 0 h441_y hj0) (fun r1x457_z h458_y => ?_)
                  refine ok_lt (fun S3x457_z eS3x457_z => ?_)
                  have h459_y : CX b S3x457_z := by rw [eS3x457_z]; exact cs_mk_6 h441_y hj0 (by omega) (by omega)
                  have f460_y : gi S3x457_z (14 + 4 * j0) 2 = gi S2x438_z (14 + 4 * j0) 2 := gi_ne eS3x457_z (by omega)
                  exact ok_some ⟨h459_y, by trivial⟩
                · unfold f_Mark_place_104
                  refine ok_b1 (ok_Mark_number S2x438_z j0 2 h441_y hj0) (fun r1x461_z h462_y => ?_)
                  refine ok_lt (fun S3x461_z eS3x461_z => ?_)
                  have h463_y : CX b S3x461_z := by rw [eS3x461_z]; exact cs_mk_6 h441_y hj0 (by omega) (by omega)
                  have f464_y : gi S3x461_z (14 + 4 * j0) 2 = gi S2x438_z (14 + 4 * j0) 2 := gi_ne eS3x461_z (by omega)
                  exact ok_some ⟨h463_y, by trivial⟩
              · exact ok_some ⟨h441_y, by trivial⟩
      · refine ok_b1 (ok_Mark_number S j0 0 hC hj0) (fun r1x373_z h465_y => ?_)
        unfold f_Mark_place_36
        refine ok_lt (fun S1x466_z eS1x466_z => ?_)
        have h467_y : CX b S1x466_z := by rw [eS1x466_z]; exact cs_mk_4 hC hj0 (by omega) (by omega)
        have f468_y : gi S1x466_z (14 + 4 * j0) 2 = gi S (14 + 4 * j0) 2 := gi_ne eS1x466_z (by omega)
        refine ok_if (fun c469_y => ?_) (fun c469_y => ?_)
        · unfold f_Mark_place_65
          refine ok_lt (fun S1x470_z eS1x470_z => ?_)
          have h471_y : CX b S1x470_z := by rw [eS1x470_z]; exact cs_mk_5 h467_y hj0 (by omega) (by omega)
          have f472_y : gi S1x470_z (14 + 4 * j0) 2 = gi S1x466_z (14 + 4 * j0) 2 := gi_ne eS1x470_z (by omega)
          refine ok_lt (fun S2x470_z eS2x470_z => ?_)
          have h473_y : CX b S2x470_z := by rw [eS2x470_z]; exact cs_mk_6 h471_y hj0 (by omega) (by omega)
          have f474_y : gi S2x470_z (14 + 4 * j0) 2 = gi S1x470_z (14 + 4 * j0) 2 := gi_ne eS2x470_z (by omega)
          refine ok_if (fun c475_y => ?_) (fun c475_y => ?_)
          · unfold f_Mark_place_89
            refine ok_if (fun c477_y => ?_) (fun c477_y => ?_)
            · unfold f_Mark_place_104
              refine ok_b1 (ok_Mark_number S2x470_z j0 0 h473_y hj0) (fun r1x478_z h479_y => ?_)
              refine ok_lt (fun S3x478_z eS3x478_z => ?_)
              have h480_y : CX b S3x478_z := by rw [eS3x478_z]; exact cs_mk_6 h473_y hj0 (by omega) (by omega)
              have f481_y : gi S3x478_z (14 + 4 * j0) 2 = gi S2x470_z (14 + 4 * j0) 2 := gi_ne eS3x478_z (by omega)
              exact ok_some ⟨h480_y, by trivial⟩
            · unfold f_Mark_place_104
              refine ok_b1 (ok_Mark_number S2x470_z j0 2 h473_y hj0) (fun r1x482_z h483_y => ?_)
              refine ok_lt (fun S3x482_z eS3x482_z => ?_)
              have h484_y : CX b S3x482_z := by rw [eS3x482_z]; exact cs_mk_6 h473_y hj0 (by omega) (by omega)
              have f485_y : gi S3x482_z (14 + 4 * j0) 2 = gi S2x470_z (14 + 4 * j0) 2 := gi_ne eS3x482_z (by omega)
              exact ok_some ⟨h484_y, by trivial⟩
          · refine ok_if (fun c486_y => ?_) (fun c486_y => ?_)
            · unfold f_Mark_place_89
              refine ok_if (fun c488_y => ?_) (fun c488_y => ?_)
              · unfold f_Mark_place_104
                refine ok_b1 (ok_Mark_number S2x470_z j0 0 h473_y hj0) (fun r1x489_z h490_y => ?_)
                refine ok_lt (fun S3x489_z eS3x489_z => ?_)
                have h491_y : CX b S3x489_z := by rw [eS3x489_z]; exact cs_mk_6 h473_y hj0 (by omega) (by omega)
                have f492_y : gi S3x489_z (14 + 4 * j0) 2 = gi S2x470_z (14 + 4 * j0) 2 := gi_ne eS3x489_z (by omega)
                exact ok_some ⟨h491_y, by trivial⟩
              · unfold f_Mark_place_104
                refine ok_b1 (ok_Mark_number S2x470_z j0 2 h473_y hj0) (fun r1x493_z h494_y => ?_)
                refine ok_lt (fun S3x493_z eS3x493_z => ?_)
                have h495_y : CX b S3x493_z := by rw [eS3x493_z]; exact cs_mk_6 h473_y hj0 (by omega) (by omega)
                have f496_y : gi S3x493_z (14 + 4 * j0) 2 = gi S2x470_z (14 + 4 * j0) 2 := gi_ne eS3x493_z (by omega)
                exact ok_some ⟨h495_y, by trivial⟩
            · exact ok_some ⟨h473_y, by trivial⟩
        · refine ok_if (fun c497_y => ?_) (fun c497_y => ?_)
          · unfold f_Mark_place_58
            refine ok_b1 (ok_Mark_number S1x466_z j0 2 h467_y hj0) (fun r1x498_z h499_y => ?_)
            unfold f_Mark_place_65
            refine ok_lt (fun S1x500_z eS1x500_z => ?_)
            have h501_y : CX b S1x500_z := by rw [eS1x500_z]; exact cs_mk_5 h467_y hj0 (by omega) (by omega)
            have f502_y : gi S1x500_z (14 + 4 * j0) 2 = gi S1x466_z (14 + 4 * j0) 2 := gi_ne eS1x500_z (by omega)
            refine ok_lt (fun S2x500_z eS2x500_z => ?_)
            have h503_y : CX b S2x500_z := by rw [eS2x500_z]; exact cs_mk_6 h501_y hj0 (by omega) (by omega)
            have f504_y : gi S2x500_z (14 + 4 * j0) 2 = gi S1x500_z (14 + 4 * j0) 2 := gi_ne eS2x500_z (by omega)
            refine ok_if (fun c505_y => ?_) (fun c505_y => ?_)
            · unfold f_Mark_place_89
              refine ok_if (fun c507_y => ?_) (fun c507_y => ?_)
              · unfold f_Mark_place_104
                refine ok_b1 (ok_Mark_number S2x500_z j0 0 h503_y hj0) (fun r1x508_z h509_y => ?_)
                refine ok_lt (fun S3x508_z eS3x508_z => ?_)
                have h510_y : CX b S3x508_z := by rw [eS3x508_z]; exact cs_mk_6 h503_y hj0 (by omega) (by omega)
                have f511_y : gi S3x508_z (14 + 4 * j0) 2 = gi S2x500_z (14 + 4 * j0) 2 := gi_ne eS3x508_z (by omega)
                exact ok_some ⟨h510_y, by trivial⟩
              · unfold f_Mark_place_104
                refine ok_b1 (ok_Mark_number S2x500_z j0 2 h503_y hj0) (fun r1x512_z h513_y => ?_)
                refine ok_lt (fun S3x512_z eS3x512_z => ?_)
                have h514_y : CX b S3x512_z := by rw [eS3x512_z]; exact cs_mk_6 h503_y hj0 (by omega) (by omega)
                have f515_y : gi S3x512_z (14 + 4 * j0) 2 = gi S2x500_z (14 + 4 * j0) 2 := gi_ne eS3x512_z (by omega)
                exact ok_some ⟨h514_y, by trivial⟩
            · refine ok_if (fun c516_y => ?_) (fun c516_y => ?_)
              · unfold f_Mark_place_89
                refine ok_if (fun c518_y => ?_) (fun c518_y => ?_)
                · unfold f_Mark_place_104
                  refine ok_b1 (ok_Mark_number S2x500_z j0 0 h503_y hj0) (fun r1x519_z h520_y => ?_)
                  refine ok_lt (fun S3x519_z eS3x519_z => ?_)
                  have h521_y : CX b S3x519_z := by rw [eS3x519_z]; exact cs_mk_6 h503_y hj0 (by omega) (by omega)
                  have f522_y : gi S3x519_z (14 + 4 * j0) 2 = gi S2x500_z (14 + 4 * j0) 2 := gi_ne eS3x519_z (by omega)
                  exact ok_some ⟨h521_y, by trivial⟩
                · unfold f_Mark_place_104
                  refine ok_b1 (ok_Mark_number S2x500_z j0 2 h503_y hj0) (fun r1x523_z h524_y => ?_)
                  refine ok_lt (fun S3x523_z eS3x523_z => ?_)
                  have h525_y : CX b S3x523_z := by rw [eS3x523_z]; exact cs_mk_6 h503_y hj0 (by omega) (by omega)
                  have f526_y : gi S3x523_z (14 + 4 * j0) 2 = gi S2x500_z (14 + 4 * j0) 2 := gi_ne eS3x523_z (by omega)
                  exact ok_some ⟨h525_y, by trivial⟩
              · exact ok_some ⟨h503_y, by trivial⟩
          · unfold f_Mark_place_58
            refine ok_b1 (ok_Mark_number S1x466_z j0 1 h467_y hj0) (fun r1x527_z h528_y => ?_)
            unfold f_Mark_place_65
            refine ok_lt (fun S1x529_z eS1x529_z => ?_)
            have h530_y : CX b S1x529_z := by rw [eS1x529_z]; exact cs_mk_5 h467_y hj0 (by omega) (by omega)
            have f531_y : gi S1x529_z (14 + 4 * j0) 2 = gi S1x466_z (14 + 4 * j0) 2 := gi_ne eS1x529_z (by omega)
            refine ok_lt (fun S2x529_z eS2x529_z => ?_)
            have h532_y : CX b S2x529_z := by rw [eS2x529_z]; exact cs_mk_6 h530_y hj0 (by omega) (by omega)
            have f533_y : gi S2x529_z (14 + 4 * j0) 2 = gi S1x529_z (14 + 4 * j0) 2 := gi_ne eS2x529_z (by omega)
            refine ok_if (fun c534_y => ?_) (fun c534_y => ?_)
            · unfold f_Mark_place_89
              refine ok_if (fun c536_y => ?_) (fun c536_y => ?_)
              · unfold f_Mark_place_104
                refine ok_b1 (ok_Mark_number S2x529_z j0 0 h532_y hj0) (fun r1x537_z h538_y => ?_)
                refine ok_lt (fun S3x537_z eS3x537_z => ?_)
                have h539_y : CX b S3x537_z := by rw [eS3x537_z]; exact cs_mk_6 h532_y hj0 (by omega) (by omega)
                have f540_y : gi S3x537_z (14 + 4 * j0) 2 = gi S2x529_z (14 + 4 * j0) 2 := gi_ne eS3x537_z (by omega)
                exact ok_some ⟨h539_y, by trivial⟩
              · unfold f_Mark_place_104
                refine ok_b1 (ok_Mark_number S2x529_z j0 2 h532_y hj0) (fun r1x541_z h542_y => ?_)
                refine ok_lt (fun S3x541_z eS3x541_z => ?_)
                have h543_y : CX b S3x541_z := by rw [eS3x541_z]; exact cs_mk_6 h532_y hj0 (by omega) (by omega)
                have f544_y : gi S3x541_z (14 + 4 * j0) 2 = gi S2x529_z (14 + 4 * j0) 2 := gi_ne eS3x541_z (by omega)
                exact ok_some ⟨h543_y, by trivial⟩
            · refine ok_if (fun c545_y => ?_) (fun c545_y => ?_)
              · unfold f_Mark_place_89
                refine ok_if (fun c547_y => ?_) (fun c547_y => ?_)
                · unfold f_Mark_place_104
                  refine ok_b1 (ok_Mark_number S2x529_z j0 0 h532_y hj0) (fun r1x548_z h549_y => ?_)
                  refine ok_lt (fun S3x548_z eS3x548_z => ?_)
                  have h550_y : CX b S3x548_z := by rw [eS3x548_z]; exact cs_mk_6 h532_y hj0 (by omega) (by omega)
                  have f551_y : gi S3x548_z (14 + 4 * j0) 2 = gi S2x529_z (14 + 4 * j0) 2 := gi_ne eS3x548_z (by omega)
                  exact ok_some ⟨h550_y, by trivial⟩
                · unfold f_Mark_place_104
                  refine ok_b1 (ok_Mark_number S2x529_z j0 2 h532_y hj0) (fun r1x552_z h553_y => ?_)
                  refine ok_lt (fun S3x552_z eS3x552_z => ?_)
                  have h554_y : CX b S3x552_z := by rw [eS3x552_z]; exact cs_mk_6 h532_y hj0 (by omega) (by omega)
                  have f555_y : gi S3x552_z (14 + 4 * j0) 2 = gi S2x529_z (14 + 4 * j0) 2 := gi_ne eS3x552_z (by omega)
                  exact ok_some ⟨h554_y, by trivial⟩
              · exact ok_some ⟨h532_y, by trivial⟩
set_option maxHeartbeats 4000000 in
theorem ok_Mark_isWithin {b : Nat} (S : SS) (j0 : Nat) (j1 : Nat) (hC : CX b S) (hj0 : j0 < 40) (hj1 : j1 < 40) : okk (f_Mark_isWithin S j0 j1) (fun r => r = 0 ∨ r = 1) := by
  unfold f_Mark_isWithin
  have b2_y := cx_mk_2 hC hj1
  refine ok_if (fun c3_y => ?_) (fun c3_y => ?_)
  · have b4_y := cx_mk_4 hC hj1
    have b5_y := cx_mk_5 hC hj1
    have b6_y := fits01 S j0 (gi S (14 + 4 * j1) 4) (gi S (14 + 4 * j1) 5)
    refine ok_chk (by omega) ?_
    exact ok_some (by omega)
  · refine ok_if (fun c7_y => ?_) (fun c7_y => ?_)
    · refine ok_b1 (ok_Mark_number S j1 1 hC hj1) (fun r3x1_z h8_y => ?_)
      refine ok_chk (by omega) ?_
      have b9_y := cx_mk_4 hC hj1
      have b10_y := fits01 S j0 (gi S (14 + 4 * j1) 4) (r3x1_z - 1)
      refine ok_if (fun c11_y => ?_) (fun c11_y => ?_)
      · have b12_y := cx_mk_5 hC hj1
        have b13_y := fits01 S j0 r3x1_z (gi S (14 + 4 * j1) 5)
        refine ok_if (fun c14_y => ?_) (fun c14_y => ?_)
        · exact ok_some (by omega)
        · exact ok_some (by omega)
      · exact ok_some (by omega)
    · exact ok_some (by omega)
set_option maxHeartbeats 4000000 in
theorem ok_Mark_meets {b : Nat} (S : SS) (j0 : Nat) (j1 : Nat) (hC : CX b S) (hj0 : j0 < 40) (hj1 : j1 < 40) : okk (f_Mark_meets S j0 j1) (fun r => r = 0 ∨ r = 1) := by
  unfold f_Mark_meets
  refine ok_b1 (ok_Mark_isWithin S j0 j1 hC hj0 hj1) (fun r1x1_z h2_y => ?_)
  refine ok_if (fun c3_y => ?_) (fun c3_y => ?_)
  · refine ok_b1 (ok_Mark_isWithin S j1 j0 hC hj1 hj0) (fun r3x1_z h4_y => ?_)
    refine ok_if (fun c5_y => ?_) (fun c5_y => ?_)
    · have b6_y := cx_mk_5 hC hj1
      have b7_y := cx_mk_4 hC hj0
      refine ok_if (fun c8_y => ?_) (fun c8_y => ?_)
      · unfold f_Mark_meets_40
        have b10_y := cx_mk_6 hC hj0
        have b11_y := cx_mk_4 hC hj1
        refine ok_if (fun c12_y => ?_) (fun c12_y => ?_)
        · unfold f_Mark_meets_62
          have b14_y := cx_mk_6 hC hj1
          refine ok_if (fun c15_y => ?_) (fun c15_y => ?_)
          · exact ok_some (by omega)
          · have b16_y := cx_mk_5 hC hj0
            refine ok_if (fun c17_y => ?_) (fun c17_y => ?_)
            · exact ok_some (by omega)
            · exact ok_some (by omega)
        · refine ok_if (fun c18_y => ?_) (fun c18_y => ?_)
          · exact ok_some (by omega)
          · unfold f_Mark_meets_62
            have b20_y := cx_mk_6 hC hj1
            refine ok_if (fun c21_y => ?_) (fun c21_y => ?_)
            · exact ok_some (by omega)
            · have b22_y := cx_mk_5 hC hj0
              refine ok_if (fun c23_y => ?_) (fun c23_y => ?_)
              · exact ok_some (by omega)
              · exact ok_some (by omega)
      · have b24_y := cx_mk_4 hC hj1
        have b25_y := cx_mk_5 hC hj0
        refine ok_if (fun c26_y => ?_) (fun c26_y => ?_)
        · exact ok_some (by omega)
        · unfold f_Mark_meets_40
          have b28_y := cx_mk_6 hC hj0
          refine ok_if (fun c29_y => ?_) (fun c29_y => ?_)
          · unfold f_Mark_meets_62
            have b31_y := cx_mk_6 hC hj1
            refine ok_if (fun c32_y => ?_) (fun c32_y => ?_)
            · exact ok_some (by omega)
            · refine ok_if (fun c33_y => ?_) (fun c33_y => ?_)
              · exact ok_some (by omega)
              · exact ok_some (by omega)
          · refine ok_if (fun c34_y => ?_) (fun c34_y => ?_)
            · exact ok_some (by omega)
            · unfold f_Mark_meets_62
              have b36_y := cx_mk_6 hC hj1
              refine ok_if (fun c37_y => ?_) (fun c37_y => ?_)
              · exact ok_some (by omega)
              · refine ok_if (fun c38_y => ?_) (fun c38_y => ?_)
                · exact ok_some (by omega)
                · exact ok_some (by omega)
    · exact ok_some (by omega)
  · exact ok_some (by omega)
set_option maxHeartbeats 4000000 in
theorem ok_Mark_tell {b : Nat} (S : SS) (j0 : Nat) (v1 : Int) (hC : CX b S) (hj0 : j0 < 40) : okk (f_Mark_tell S j0 v1) (fun r => True) := by
  unfold f_Mark_tell
  refine ok_if (fun c2_y => ?_) (fun c2_y => ?_)
  · have b3_y := cx_mk_2 hC hj0
    exact ok_some (by trivial)
  · refine ok_if (fun c4_y => ?_) (fun c4_y => ?_)
    · have b5_y := cx_mk_3 hC hj0
      exact ok_some (by trivial)
    · refine ok_if (fun c6_y => ?_) (fun c6_y => ?_)
      · refine ok_chk (by omega) ?_
        refine ok_b1 (ok_Mark_number S j0 (v1 - 2) hC hj0) (fun r7x1_z h7_y => ?_)
        exact ok_some (by trivial)
      · refine ok_if (fun c8_y => ?_) (fun c8_y => ?_)
        · refine ok_chk (by omega) ?_
          refine ok_b1 (ok_Mark_number S j0 (v1 - 2) hC hj0) (fun r11x1_z h9_y => ?_)
          exact ok_some (by trivial)
        · refine ok_if (fun c10_y => ?_) (fun c10_y => ?_)
          · refine ok_chk (by omega) ?_
            refine ok_b1 (ok_Mark_number S j0 (v1 - 2) hC hj0) (fun r15x1_z h11_y => ?_)
            exact ok_some (by trivial)
          · refine ok_if (fun c12_y => ?_) (fun c12_y => ?_)
            · have b13_y := cx_sh hC (show shOk (14 + 4 * j0 + 2) by omega)
              exact ok_some (by trivial)
            · refine ok_if (fun c14_y => ?_) (fun c14_y => ?_)
              · have b15_y := cx_mk_11 hC hj0
                exact ok_some (by trivial)
              · refine ok_if (fun c16_y => ?_) (fun c16_y => ?_)
                · exact ok_some (by trivial)
                · refine ok_if (fun c17_y => ?_) (fun c17_y => ?_)
                  · have b18_y := cx_mk_9 hC hj0
                    refine ok_if (fun c19_y => ?_) (fun c19_y => ?_)
                    · exact ok_some (by trivial)
                    · exact ok_some (by trivial)
                  · exact ok_some (by trivial)
set_option maxHeartbeats 4000000 in
theorem ok_Mark_tellWord {b : Nat} (S : SS) (j0 : Nat) (v1 : Int) (hC : CX b S) (hj0 : j0 < 40) : okk (f_Mark_tellWord S j0 v1) (fun r => True) := by
  unfold f_Mark_tellWord
  refine ok_if (fun c2_y => ?_) (fun c2_y => ?_)
  · exact ok_some (by trivial)
  · have b3_y := cx_sh hC (show shOk (14 + 4 * j0 + 2) by omega)
    refine ok_if (fun c4_y => ?_) (fun c4_y => ?_)
    · refine ok_b1 (ok_Sheet_wordAt S (14 + 4 * j0 + 2) v1 hC (show shOk (14 + 4 * j0 + 2) by omega)) (fun w2x1_z h5_y => ?_)
      have b6_y := l2i_rng w2x1_z
      exact ok_some (by trivial)
    · exact ok_some (by trivial)
set_option maxHeartbeats 4000000 in
theorem ok_Pile_blank {b : Nat} (S : SS) (hC : CX b S) : okk (f_Pile_blank S) (fun u => CX b u.2 ∧ (∀ j, u.1 = some j → j < 40)) := by
  unfold f_Pile_blank
  have b2_y := cx_10_3 hC
  have b3_y := cx_10_4 hC
  refine ok_chk (by omega) ?_
  refine ok_b1 (ok_Pile_markAt S ((gi S 10 3) + (gi S 10 4)) hC) (fun o4x1_z h4_y => ?_)
  refine ok_on (fun h5_y => ?_) (fun j6x1_z h5_y => ?_)
  · exact ok_some ⟨hC, fun j hj => by cases hj⟩
  · have hj6x1_z : j6x1_z < 40 := h4_y j6x1_z h5_y
    refine ok_chk (by omega) ?_
    refine ok_b1 (ok_Mark_clear S j6x1_z hC hj6x1_z) (fun S7x1_z h6_y => ?_)
    obtain ⟨h7_y, p8_y⟩ := h6_y
    exact ok_some ⟨h7_y, fun j hj => by cases hj; exact hj6x1_z⟩
set_option maxHeartbeats 4000000 in
theorem ok_Pile_canBeStet {b : Nat} (S : SS) (v1 : Int) (hC : CX b S) : okk (f_Pile_canBeStet S v1) (fun r => r = 0 ∨ r = 1) := by
  unfold f_Pile_canBeStet
  have b2_y := cx_10_3 hC
  have b3_y := cx_10_4 hC
  refine ok_chk (by omega) ?_
  refine ok_if (fun c4_y => ?_) (fun c4_y => ?_)
  · refine ok_b1 (ok_Pile_markAt S v1 hC) (fun o4x1_z h5_y => ?_)
    unfold f_Pile_canBeStet_22
    refine ok_on (fun h7_y => ?_) (fun j1x6_z h7_y => ?_)
    · exact ok_some (by omega)
    · have hj1x6_z : j1x6_z < 40 := h5_y j1x6_z h7_y
      refine ok_chk (by omega) ?_
      have b8_y := cx_mk_2 hC hj1x6_z
      refine ok_if (fun c9_y => ?_) (fun c9_y => ?_)
      · exact ok_some (by omega)
      · exact ok_some (by omega)
  · unfold f_Pile_canBeStet_22
    refine ok_on (fun _ => ?_) (fun _ h => by cases h)
    exact ok_some (by omega)
set_option maxHeartbeats 4000000 in
theorem okl_Pile_accept_30 : ∀ (n : Nat) (S : SS) (v1_ : Int) (v2_ : Int), CX 0 S → (0 ≤ v2_ ∧ v2_ ≤ 40) → 40 - v2_ < (n : Int) → okk (f_Pile_accept_30 n S v1_ v2_) (fun u => CX 0 u.2 ∧ (True)) := by
  intro n
  induction n with
  | zero => intro S v1_ v2_ hC hi hm; exfalso; omega
  | succ n ih =>
    intro S v1_ v2_ hC hi hm
    have hm : 40 - v2_ < (n : Int) + 1 := by omega
    show okk (f_Pile_accept_30_b (f_Pile_accept_30 n) S v1_ v2_) _
    unfold f_Pile_accept_30_b
    have b1_y := cx_10_3 hC
    refine ok_if (fun c2_y => ?_) (fun c2_y => ?_)
    · exact ok_some ⟨hC, by trivial⟩
    · refine ok_b1 (ok_Pile_find S v2_ hC) (fun o2_z h3_y => ?_)
      refine ok_on (fun h4_y => ?_) (fun j4_z h4_y => ?_)
      · unfold f_Pile_accept_81
        refine ok_chk (by omega) ?_
        exact ih S v1_ (v2_ + 1) hC (by omega) (by omega)
      · have hj4_z : j4_z < 40 := h3_y j4_z h4_y
        refine ok_chk (by omega) ?_
        have b6_y := cx_mk_2 hC hj4_z
        refine ok_if (fun c7_y => ?_) (fun c7_y => ?_)
        · refine ok_b1 (ok_Mark_number S j4_z 0 hC hj4_z) (fun r6_z h8_y => ?_)
          refine ok_b1 (ok_Pile_find S r6_z hC) (fun o8_z h9_y => ?_)
          refine ok_on (fun h10_y => ?_) (fun j10_z h10_y => ?_)
          · unfold f_Pile_accept_81
            refine ok_chk (by omega) ?_
            exact ih S v1_ (v2_ + 1) hC (by omega) (by omega)
          · have hj10_z : j10_z < 40 := h9_y j10_z h10_y
            refine ok_chk (by omega) ?_
            refine ok_lt (fun S11_z eS11_z => ?_)
            have h12_y : CX 0 S11_z := by rw [eS11_z]; exact cx_Mark_voidByStet hC hj10_z (by omega)
            unfold f_Pile_accept_81
            refine ok_chk (by omega) ?_
            exact ih S11_z v1_ (v2_ + 1) h12_y (by omega) (by omega)
        · unfold f_Pile_accept_81
          refine ok_chk (by omega) ?_
          exact ih S v1_ (v2_ + 1) hC (by omega) (by omega)
set_option maxHeartbeats 4000000 in
theorem ok_Pile_accept (S : SS) (hC : CX 0 S) (hp0 : gi S 10 3 + gi S 10 4 ≤ 40) : okk (f_Pile_accept S) (fun u => CX 0 u.2 ∧ (True)) := by
  unfold f_Pile_accept
  have b2_y := cx_10_3 hC
  have b3_y := cx_10_4 hC
  refine ok_chk (by omega) ?_
  refine ok_lt (fun S5x1_z eS5x1_z => ?_)
  have h4_y : CX 0 S5x1_z := by rw [eS5x1_z]; exact cs_10_3 hC (by decide) (by omega) (by omega)
  have f5_y : gi S5x1_z 10 3 = (gi S 10 3) + (gi S 10 4) := gi_eq eS5x1_z
  have f6_y : gi S5x1_z 10 4 = gi S 10 4 := gi_ne eS5x1_z (by omega)
  refine ok_lt (fun S6x1_z eS6x1_z => ?_)
  have h7_y : CX 0 S6x1_z := by rw [eS6x1_z]; exact cs_10_4 h4_y (by decide) (by omega) (by omega)
  have f8_y : gi S6x1_z 10 4 = 0 := gi_eq eS6x1_z
  have f9_y : gi S6x1_z 10 3 = gi S5x1_z 10 3 := gi_ne eS6x1_z (by omega)
  refine ok_chk (by omega) ?_
  exact okl_Pile_accept_30  FU S6x1_z (gi S 10 4) ((gi S6x1_z 10 3) - (gi S 10 4)) h7_y (by omega) (by unfold FU; omega)
set_option maxHeartbeats 4000000 in
theorem okl_Pile_firstDoneThatMeets_2 {b : Nat} (S : SS) (j1 : Nat) (hC : CX b S) (hj1 : j1 < 40) : ∀ (n : Nat) (v2_ : Int), (0 ≤ v2_ ∧ v2_ ≤ 40) → 40 - v2_ < (n : Int) → okk (f_Pile_firstDoneThatMeets_2 S j1 n v2_) (fun r => -1 ≤ r ∧ r ≤ 40) := by
  intro n
  induction n with
  | zero => intro v2_ hi hm; exfalso; omega
  | succ n ih =>
    intro v2_ hi hm
    have hm : 40 - v2_ < (n : Int) + 1 := by omega
    show okk (f_Pile_firstDoneThatMeets_2_b S j1 (f_Pile_firstDoneThatMeets_2 S j1 n) v2_) _
    unfold f_Pile_firstDoneThatMeets_2_b
    have b1_y := cx_10_3 hC
    refine ok_if (fun c2_y => ?_) (fun c2_y => ?_)
    · exact ok_some (by omega)
    · refine ok_b1 (ok_Pile_find S v2_ hC) (fun o2_z h3_y => ?_)
      refine ok_on (fun h4_y => ?_) (fun j4_z h4_y => ?_)
      · unfold f_Pile_firstDoneThatMeets_42
        refine ok_chk (by omega) ?_
        exact ih (v2_ + 1) (by omega) (by omega)
      · have hj4_z : j4_z < 40 := h3_y j4_z h4_y
        refine ok_chk (by omega) ?_
        refine ok_if (fun c6_y => ?_) (fun c6_y => ?_)
        · unfold f_Pile_firstDoneThatMeets_42
          refine ok_chk (by omega) ?_
          exact ih (v2_ + 1) (by omega) (by omega)
        · have b8_y := cx_mk_11 hC hj4_z
          refine ok_if (fun c9_y => ?_) (fun c9_y => ?_)
          · refine ok_b1 (ok_Mark_meets S j1 j4_z hC hj1 hj4_z) (fun r6_z h10_y => ?_)
            refine ok_if (fun c11_y => ?_) (fun c11_y => ?_)
            · unfold f_Pile_firstDoneThatMeets_42
              refine ok_chk (by omega) ?_
              exact ih (v2_ + 1) (by omega) (by omega)
            · exact ok_some (by omega)
          · unfold f_Pile_firstDoneThatMeets_42
            refine ok_chk (by omega) ?_
            exact ih (v2_ + 1) (by omega) (by omega)
set_option maxHeartbeats 4000000 in
theorem ok_Pile_firstDoneThatMeets {b : Nat} (S : SS) (j1 : Nat) (hC : CX b S) (hj1 : j1 < 40) : okk (f_Pile_firstDoneThatMeets S j1) (fun r => -1 ≤ r ∧ r ≤ 40) := by
  unfold f_Pile_firstDoneThatMeets
  exact okl_Pile_firstDoneThatMeets_2 S j1 hC hj1 FU 0 (by omega) (by unfold FU; omega)
set_option maxHeartbeats 4000000 in
theorem okl_Pile_listDone_7 {b : Nat} : ∀ (n : Nat) (S : SS) (v1_ : Int), CX b S → (0 ≤ v1_ ∧ v1_ ≤ 40) → 40 - v1_ < (n : Int) → okk (f_Pile_listDone_7 n S v1_) (fun S1 => CX b S1 ∧ (True)) := by
  intro n
  induction n with
  | zero => intro S v1_ hC hi hm; exfalso; omega
  | succ n ih =>
    intro S v1_ hC hi hm
    have hm : 40 - v1_ < (n : Int) + 1 := by omega
    show okk (f_Pile_listDone_7_b (f_Pile_listDone_7 n) S v1_) _
    unfold f_Pile_listDone_7_b
    have b1_y := cx_10_3 hC
    refine ok_if (fun c2_y => ?_) (fun c2_y => ?_)
    · exact ok_some ⟨hC, by trivial⟩
    · refine ok_b1 (ok_Pile_find S v1_ hC) (fun o2_z h3_y => ?_)
      refine ok_on (fun h4_y => ?_) (fun j4_z h4_y => ?_)
      · unfold f_Pile_listDone_64
        refine ok_chk (by omega) ?_
        exact ih S (v1_ + 1) hC (by omega) (by omega)
      · have hj4_z : j4_z < 40 := h3_y j4_z h4_y
        refine ok_chk (by omega) ?_
        have b6_y := cx_mk_11 hC hj4_z
        refine ok_if (fun c7_y => ?_) (fun c7_y => ?_)
        · have b8_y := cx_10_5 hC
          refine ok_if (fun c9_y => ?_) (fun c9_y => ?_)
          · unfold f_Pile_listDone_64
            refine ok_chk (by omega) ?_
            exact ih S (v1_ + 1) hC (by omega) (by omega)
          · refine ok_chk (by omega) ?_
            refine ok_lt (fun S8_z eS8_z => ?_)
            have h11_y : CX b S8_z := by rw [eS8_z]; exact cs_13 hC (by omega) (by omega)
            have f12_y : gi S8_z 10 5 = gi S 10 5 := gi_ne eS8_z (by omega)
            have f13_y : gi S8_z (14 + 4 * j4_z) 11 = gi S (14 + 4 * j4_z) 11 := gi_ne eS8_z (by omega)
            have f14_y : gi S8_z 10 3 = gi S 10 3 := gi_ne eS8_z (by omega)
            refine ok_chk (by omega) ?_
            refine ok_lt (fun S11_z eS11_z => ?_)
            have h15_y : CX b S11_z := by rw [eS11_z]; exact cs_10_5 h11_y (by omega) (by omega)
            have f16_y : gi S11_z 10 5 = (gi S8_z 10 5) + 1 := gi_eq eS11_z
            have f17_y : gi S11_z 10 3 = gi S8_z 10 3 := gi_ne eS11_z (by omega)
            have f18_y : gi S11_z (14 + 4 * j4_z) 11 = gi S8_z (14 + 4 * j4_z) 11 := gi_ne eS11_z (by omega)
            unfold f_Pile_listDone_64
            refine ok_chk (by omega) ?_
            exact ih S11_z (v1_ + 1) h15_y (by omega) (by omega)
        · unfold f_Pile_listDone_64
          refine ok_chk (by omega) ?_
          exact ih S (v1_ + 1) hC (by omega) (by omega)
set_option maxHeartbeats 4000000 in
theorem ok_Pile_listDone {b : Nat} (S : SS) (hC : CX b S) : okk (f_Pile_listDone S) (fun S1 => CX b S1 ∧ (True)) := by
  unfold f_Pile_listDone
  refine ok_lt (fun S1x1_z eS1x1_z => ?_)
  have h2_y : CX b S1x1_z := by rw [eS1x1_z]; exact cs_10_5 hC (by omega) (by omega)
  have f3_y : gi S1x1_z 10 5 = 0 := gi_eq eS1x1_z
  exact okl_Pile_listDone_7  FU S1x1_z 0 h2_y (by omega) (by unfold FU; omega)
set_option maxHeartbeats 4000000 in
theorem okl_Pile_decide_49 {b : Nat} (kf41_ : SS → Int → Option SS) (m_ : Int) (hk : ∀ (S : SS) (v1_ : Int), CX b S → (v1_ = m_ + 1) → okk (kf41_ S v1_) (fun S1 => CX b S1 ∧ (True))) : ∀ (n : Nat) (S : SS) (v1_ : Int) (v2_ : Int), CX b S → (v1_ = m_ ∧ 0 ≤ v1_ ∧ v1_ ≤ 9 ∧ 0 ≤ v2_ ∧ v2_ ≤ 40) → 40 - v2_ < (n : Int) → okk (f_Pile_decide_49 kf41_ n S v1_ v2_) (fun S1 => CX b S1 ∧ (True)) := by
  intro n
  induction n with
  | zero => intro S v1_ v2_ hC hi hm; exfalso; omega
  | succ n ih =>
    intro S v1_ v2_ hC hi hm
    have hm : 40 - v2_ < (n : Int) + 1 := by omega
    show okk (f_Pile_decide_49_b kf41_ (f_Pile_decide_49 kf41_ n) S v1_ v2_) _
    unfold f_Pile_decide_49_b
    have b1_y := cx_10_3 hC
    refine ok_if (fun c2_y => ?_) (fun c2_y => ?_)
    · refine ok_chk (by omega) ?_
      exact hk S (v1_ + 1) hC (by omega)
    · refine ok_b1 (ok_Pile_find S v2_ hC) (fun o3_z h3_y => ?_)
      refine ok_on (fun h4_y => ?_) (fun j5_z h4_y => ?_)
      · unfold f_Pile_decide_112
        refine ok_chk (by omega) ?_
        exact ih S v1_ (v2_ + 1) hC (by omega) (by omega)
      · have hj5_z : j5_z < 40 := h3_y j5_z h4_y
        refine ok_chk (by omega) ?_
        refine ok_if (fun c6_y => ?_) (fun c6_y => ?_)
        · unfold f_Pile_decide_112
          refine ok_chk (by omega) ?_
          exact ih S v1_ (v2_ + 1) hC (by omega) (by omega)
        · have b8_y := cx_mk_3 hC hj5_z
          refine ok_b1 (ok_Pile_rankOf S (gi S (14 + 4 * j5_z) 3) hC) (fun r8_z h9_y => ?_)
          refine ok_if (fun c10_y => ?_) (fun c10_y => ?_)
          · refine ok_b1 (ok_Pile_firstDoneThatMeets S j5_z hC hj5_z) (fun r10_z h11_y => ?_)
            refine ok_lt (fun S12_z eS12_z => ?_)
            have h12_y : CX b S12_z := by rw [eS12_z]; exact cs_mk_12 hC hj5_z (by omega) (by omega)
            have f13_y : gi S12_z (14 + 4 * j5_z) 3 = gi S (14 + 4 * j5_z) 3 := gi_ne eS12_z (by omega)
            have f14_y : gi S12_z 10 3 = gi S 10 3 := gi_ne eS12_z (by omega)
            have b15_y := cx_mk_12 h12_y hj5_z
            refine ok_if (fun c16_y => ?_) (fun c16_y => ?_)
            · unfold f_Pile_decide_109
              refine ok_lt (fun S1x17_z eS1x17_z => ?_)
              have h18_y : CX b S1x17_z := by rw [eS1x17_z]; exact cs_mk_11 h12_y hj5_z (by omega) (by omega)
              have f19_y : gi S1x17_z (14 + 4 * j5_z) 3 = gi S12_z (14 + 4 * j5_z) 3 := gi_ne eS1x17_z (by omega)
              have f20_y : gi S1x17_z (14 + 4 * j5_z) 12 = gi S12_z (14 + 4 * j5_z) 12 := gi_ne eS1x17_z (by omega)
              have f21_y : gi S1x17_z 10 3 = gi S12_z 10 3 := gi_ne eS1x17_z (by omega)
              unfold f_Pile_decide_112
              refine ok_chk (by omega) ?_
              exact ih S1x17_z v1_ (v2_ + 1) h18_y (by omega) (by omega)
            · unfold f_Pile_decide_109
              refine ok_lt (fun S1x23_z eS1x23_z => ?_)
              have h24_y : CX b S1x23_z := by rw [eS1x23_z]; exact cs_mk_11 h12_y hj5_z (by omega) (by omega)
              have f25_y : gi S1x23_z (14 + 4 * j5_z) 3 = gi S12_z (14 + 4 * j5_z) 3 := gi_ne eS1x23_z (by omega)
              have f26_y : gi S1x23_z (14 + 4 * j5_z) 12 = gi S12_z (14 + 4 * j5_z) 12 := gi_ne eS1x23_z (by omega)
              have f27_y : gi S1x23_z 10 3 = gi S12_z 10 3 := gi_ne eS1x23_z (by omega)
              unfold f_Pile_decide_112
              refine ok_chk (by omega) ?_
              exact ih S1x23_z v1_ (v2_ + 1) h24_y (by omega) (by omega)
          · unfold f_Pile_decide_112
            refine ok_chk (by omega) ?_
            exact ih S v1_ (v2_ + 1) hC (by omega) (by omega)
set_option maxHeartbeats 4000000 in
theorem okl_Pile_decide_41 {b : Nat} : ∀ (n : Nat) (S : SS) (v1_ : Int), CX b S → (0 ≤ v1_ ∧ v1_ ≤ 10) → 10 - v1_ < (n : Int) → okk (f_Pile_decide_41 n S v1_) (fun S1 => CX b S1 ∧ (True)) := by
  intro n
  induction n with
  | zero => intro S v1_ hC hi hm; exfalso; omega
  | succ n ih =>
    intro S v1_ hC hi hm
    have hm : 10 - v1_ < (n : Int) + 1 := by omega
    show okk (f_Pile_decide_41_b (f_Pile_decide_41 n) S v1_) _
    unfold f_Pile_decide_41_b
    refine ok_if (fun c1_y => ?_) (fun c1_y => ?_)
    · refine ok_b1 (ok_Pile_listDone S hC) (fun S1_z h2_y => ?_)
      obtain ⟨h3_y, p4_y⟩ := h2_y
      exact ok_some ⟨h3_y, by trivial⟩
    · exact okl_Pile_decide_49  _ (v1_) (fun S v1_ hC e => ih S v1_ hC (by omega) (by omega)) FU S v1_ 0 hC (by omega) (by unfold FU; omega)
set_option maxHeartbeats 4000000 in
theorem okl_Pile_decide_2 {b : Nat} : ∀ (n : Nat) (S : SS) (v1_ : Int), CX b S → (0 ≤ v1_ ∧ v1_ ≤ 40) → 40 - v1_ < (n : Int) → okk (f_Pile_decide_2 n S v1_) (fun S1 => CX b S1 ∧ (True)) := by
  intro n
  induction n with
  | zero => intro S v1_ hC hi hm; exfalso; omega
  | succ n ih =>
    intro S v1_ hC hi hm
    have hm : 40 - v1_ < (n : Int) + 1 := by omega
    show okk (f_Pile_decide_2_b (f_Pile_decide_2 n) S v1_) _
    unfold f_Pile_decide_2_b
    have b1_y := cx_10_3 hC
    refine ok_if (fun c2_y => ?_) (fun c2_y => ?_)
    · exact okl_Pile_decide_41  FU S 0 hC (by omega) (by unfold FU; omega)
    · refine ok_b1 (ok_Pile_find S v1_ hC) (fun o2_z h3_y => ?_)
      refine ok_on (fun h4_y => ?_) (fun j4_z h4_y => ?_)
      · unfold f_Pile_decide_33
        refine ok_chk (by omega) ?_
        exact ih S (v1_ + 1) hC (by omega) (by omega)
      · have hj4_z : j4_z < 40 := h3_y j4_z h4_y
        refine ok_chk (by omega) ?_
        refine ok_lt (fun S5_z eS5_z => ?_)
        have h6_y : CX b S5_z := by rw [eS5_z]; exact cs_mk_12 hC hj4_z (by omega) (by omega)
        have f7_y : gi S5_z 10 3 = gi S 10 3 := gi_ne eS5_z (by omega)
        have b8_y := und_rng S5_z j4_z
        refine ok_lt (fun S7_z eS7_z => ?_)
        have h9_y : CX b S7_z := by rw [eS7_z]; exact cs_mk_11 h6_y hj4_z (by omega) (by omega)
        have f10_y : gi S7_z 10 3 = gi S5_z 10 3 := gi_ne eS7_z (by omega)
        unfold f_Pile_decide_33
        refine ok_chk (by omega) ?_
        exact ih S7_z (v1_ + 1) h9_y (by omega) (by omega)
set_option maxHeartbeats 4000000 in
theorem ok_Pile_decide {b : Nat} (S : SS) (hC : CX b S) : okk (f_Pile_decide S) (fun S1 => CX b S1 ∧ (True)) := by
  unfold f_Pile_decide
  exact okl_Pile_decide_2  FU S 0 hC (by omega) (by unfold FU; omega)
set_option maxHeartbeats 4000000 in
theorem ok_Setter_takenAt {b : Nat} (S : SS) (v1 : Int) (hC : CX b S) : okk (f_Setter_takenAt S v1) (fun r => ∀ j, r = some j → j < 40) := by
  unfold f_Setter_takenAt
  refine ok_if (fun c2_y => ?_) (fun c2_y => ?_)
  · exact ok_some (fun j hj => by cases hj)
  · have b3_y := cx_178_2 hC
    refine ok_if (fun c4_y => ?_) (fun c4_y => ?_)
    · exact ok_some (fun j hj => by cases hj)
    · refine ok_if (fun c5_y => ?_) (fun c5_y => ?_)
      · refine ok_chk (by omega) ?_
        refine ok_lt (fun o3x1_z eo3x1_z => ?_)
        exact ok_some (fun j hj => (hC).2.2.1 _ j (by rw [← eo3x1_z]; exact hj))
      · exact ok_some (fun j hj => by cases hj)
set_option maxHeartbeats 4000000 in
theorem ok_Setter_isOpen {b : Nat} (S : SS) (v1 : Int) (hC : CX b S) : okk (f_Setter_isOpen S v1) (fun r => True) := by
  unfold f_Setter_isOpen
  refine ok_if (fun c2_y => ?_) (fun c2_y => ?_)
  · exact ok_some (by trivial)
  · refine ok_if (fun c3_y => ?_) (fun c3_y => ?_)
    · exact ok_some (by trivial)
    · refine ok_chk (by omega) ?_
      have b4_y := cx_180 hC (v1).toNat
      refine ok_if (fun c5_y => ?_) (fun c5_y => ?_)
      · exact ok_some (by trivial)
      · exact ok_some (by trivial)
set_option maxHeartbeats 4000000 in
theorem ok_Setter_mind {b : Nat} (S : SS) (v1 : Int) (v2 : Int) (hC : CX b S) (hp0 : 0 ≤ v2 ∧ v2 ≤ 1) : okk (f_Setter_mind S v1 v2) (fun S1 => CX b S1 ∧ (True)) := by
  unfold f_Setter_mind
  refine ok_if (fun c2_y => ?_) (fun c2_y => ?_)
  · exact ok_some ⟨hC, by trivial⟩
  · refine ok_if (fun c3_y => ?_) (fun c3_y => ?_)
    · exact ok_some ⟨hC, by trivial⟩
    · refine ok_chk (by omega) ?_
      refine ok_chk (by omega) ?_
      refine ok_lt (fun S2x1_z eS2x1_z => ?_)
      have h4_y : CX b S2x1_z := by rw [eS2x1_z]; exact cs_180 hC (by omega) (by omega)
      exact ok_some ⟨h4_y, by trivial⟩
set_option maxHeartbeats 4000000 in
theorem okl_Setter_outermostAt_7 {b : Nat} (S : SS) (v1 : Int) (hC : CX b S) : ∀ (n : Nat) (v2_ : Int) (v3_ : Int) (v4_ : Int), (0 ≤ v4_ ∧ v4_ ≤ 40) → 40 - v4_ < (n : Int) → okk (f_Setter_outermostAt_7 S v1 n v2_ v3_ v4_) (fun r => True) := by
  intro n
  induction n with
  | zero => intro v2_ v3_ v4_ hi hm; exfalso; omega
  | succ n ih =>
    intro v2_ v3_ v4_ hi hm
    have hm : 40 - v4_ < (n : Int) + 1 := by omega
    show okk (f_Setter_outermostAt_7_b S v1 (f_Setter_outermostAt_7 S v1 n) v2_ v3_ v4_) _
    unfold f_Setter_outermostAt_7_b
    have b1_y := cx_178_2 hC
    refine ok_if (fun c2_y => ?_) (fun c2_y => ?_)
    · exact ok_some (by trivial)
    · refine ok_b1 (ok_Setter_takenAt S v4_ hC) (fun o2_z h3_y => ?_)
      refine ok_on (fun h4_y => ?_) (fun j4_z h4_y => ?_)
      · unfold f_Setter_outermostAt_95
        refine ok_chk (by omega) ?_
        exact ih v2_ v3_ (v4_ + 1) (by omega) (by omega)
      · have hj4_z : j4_z < 40 := h3_y j4_z h4_y
        refine ok_chk (by omega) ?_
        refine ok_b1 (ok_Setter_isOpen S v4_ hC) (fun r5_z h6_y => ?_)
        refine ok_if (fun c7_y => ?_) (fun c7_y => ?_)
        · have b8_y := cx_mk_2 hC hj4_z
          refine ok_if (fun c9_y => ?_) (fun c9_y => ?_)
          · unfold f_Setter_outermostAt_95
            refine ok_chk (by omega) ?_
            exact ih v2_ v3_ (v4_ + 1) (by omega) (by omega)
          · have b11_y := cx_mk_4 hC hj4_z
            refine ok_if (fun c12_y => ?_) (fun c12_y => ?_)
            · have b13_y := cx_mk_5 hC hj4_z
              refine ok_if (fun c14_y => ?_) (fun c14_y => ?_)
              · unfold f_Setter_outermostAt_86
                unfold f_Setter_outermostAt_95
                refine ok_chk (by omega) ?_
                exact ih v4_ (gi S (14 + 4 * j4_z) 5) (v4_ + 1) (by omega) (by omega)
              · refine ok_if (fun c17_y => ?_) (fun c17_y => ?_)
                · refine ok_if (fun c18_y => ?_) (fun c18_y => ?_)
                  · unfold f_Setter_outermostAt_86
                    unfold f_Setter_outermostAt_95
                    refine ok_chk (by omega) ?_
                    exact ih v4_ (gi S (14 + 4 * j4_z) 5) (v4_ + 1) (by omega) (by omega)
                  · unfold f_Setter_outermostAt_95
                    refine ok_chk (by omega) ?_
                    exact ih v2_ v3_ (v4_ + 1) (by omega) (by omega)
                · unfold f_Setter_outermostAt_95
                  refine ok_chk (by omega) ?_
                  exact ih v2_ v3_ (v4_ + 1) (by omega) (by omega)
            · unfold f_Setter_outermostAt_95
              refine ok_chk (by omega) ?_
              exact ih v2_ v3_ (v4_ + 1) (by omega) (by omega)
        · unfold f_Setter_outermostAt_95
          refine ok_chk (by omega) ?_
          exact ih v2_ v3_ (v4_ + 1) (by omega) (by omega)
set_option maxHeartbeats 4000000 in
theorem ok_Setter_outermostAt {b : Nat} (S : SS) (v1 : Int) (hC : CX b S) : okk (f_Setter_outermostAt S v1) (fun r => True) := by
  unfold f_Setter_outermostAt
  exact okl_Setter_outermostAt_7 S v1 hC FU (-1) (-1) 0 (by omega) (by unfold FU; omega)
set_option maxHeartbeats 4000000 in
theorem okl_Setter_takeDone_7 {b : Nat} (v2 : Int) : ∀ (n : Nat) (S : SS) (v3_ : Int), CX b S → (0 ≤ v3_ ∧ v3_ ≤ 40) → 40 - v3_ < (n : Int) → okk (f_Setter_takeDone_7 v2 n S v3_) (fun S1 => CX b S1 ∧ (True)) := by
  intro n
  induction n with
  | zero => intro S v3_ hC hi hm; exfalso; omega
  | succ n ih =>
    intro S v3_ hC hi hm
    have hm : 40 - v3_ < (n : Int) + 1 := by omega
    show okk (f_Setter_takeDone_7_b v2 (f_Setter_takeDone_7 v2 n) S v3_) _
    unfold f_Setter_takeDone_7_b
    have b1_y := cx_10_5 hC
    refine ok_if (fun c2_y => ?_) (fun c2_y => ?_)
    · exact ok_some ⟨hC, by trivial⟩
    · refine ok_if (fun c3_y => ?_) (fun c3_y => ?_)
      · unfold f_Setter_takeDone_34
        unfold f_Setter_takeDone_35
        refine ok_b1 (ok_Pile_doneNumber S v3_ hC) (fun r1x5_z h6_y => ?_)
        refine ok_b1 (ok_Pile_find S r1x5_z hC) (fun o3x5_z h7_y => ?_)
        refine ok_if (fun c8_y => ?_) (fun c8_y => ?_)
        · refine ok_on (fun h9_y => ?_) (fun j5x5_z h9_y => ?_)
          · unfold f_Setter_takeDone_101
            refine ok_chk (by omega) ?_
            exact ih S (v3_ + 1) hC (by omega) (by omega)
          · have hj5x5_z : j5x5_z < 40 := h7_y j5x5_z h9_y
            refine ok_chk (by omega) ?_
            have b11_y := cx_178_2 hC
            refine ok_if (fun c12_y => ?_) (fun c12_y => ?_)
            · unfold f_Setter_takeDone_101
              refine ok_chk (by omega) ?_
              exact ih S (v3_ + 1) hC (by omega) (by omega)
            · refine ok_chk (by omega) ?_
              refine ok_lt (fun S8x5_z eS8x5_z => ?_)
              have h14_y : CX b S8x5_z := by rw [eS8x5_z]; exact cs_q179 hC hj5x5_z
              have f15_y : gi S8x5_z 10 5 = gi S 10 5 := gi_sq eS8x5_z
              have f16_y : gi S8x5_z 178 2 = gi S 178 2 := gi_sq eS8x5_z
              refine ok_chk (by omega) ?_
              refine ok_lt (fun S10x5_z eS10x5_z => ?_)
              have h17_y : CX b S10x5_z := by rw [eS10x5_z]; exact cs_180 h14_y (by omega) (by omega)
              have f18_y : gi S10x5_z 178 2 = gi S8x5_z 178 2 := gi_ne eS10x5_z (by omega)
              have f19_y : gi S10x5_z 10 5 = gi S8x5_z 10 5 := gi_ne eS10x5_z (by omega)
              refine ok_chk (by omega) ?_
              refine ok_lt (fun S13x5_z eS13x5_z => ?_)
              have h20_y : CX b S13x5_z := by rw [eS13x5_z]; exact cs_178_2 h17_y (by omega) (by omega)
              have f21_y : gi S13x5_z 10 5 = gi S10x5_z 10 5 := gi_ne eS13x5_z (by omega)
              have f22_y : gi S13x5_z 178 2 = (gi S10x5_z 178 2) + 1 := gi_eq eS13x5_z
              unfold f_Setter_takeDone_101
              refine ok_chk (by omega) ?_
              exact ih S13x5_z (v3_ + 1) h20_y (by omega) (by omega)
        · unfold f_Setter_takeDone_101
          refine ok_chk (by omega) ?_
          exact ih S (v3_ + 1) hC (by omega) (by omega)
      · have b25_y := andi1 (shri v2 v3_)
        refine ok_if (fun c26_y => ?_) (fun c26_y => ?_)
        · unfold f_Setter_takeDone_35
          refine ok_b1 (ok_Pile_doneNumber S v3_ hC) (fun r1x27_z h28_y => ?_)
          refine ok_b1 (ok_Pile_find S r1x27_z hC) (fun o3x27_z h29_y => ?_)
          refine ok_if (fun c30_y => ?_) (fun c30_y => ?_)
          · refine ok_on (fun h31_y => ?_) (fun j5x27_z h31_y => ?_)
            · unfold f_Setter_takeDone_101
              refine ok_chk (by omega) ?_
              exact ih S (v3_ + 1) hC (by omega) (by omega)
            · have hj5x27_z : j5x27_z < 40 := h29_y j5x27_z h31_y
              refine ok_chk (by omega) ?_
              have b33_y := cx_178_2 hC
              refine ok_if (fun c34_y => ?_) (fun c34_y => ?_)
              · unfold f_Setter_takeDone_101
                refine ok_chk (by omega) ?_
                exact ih S (v3_ + 1) hC (by omega) (by omega)
              · refine ok_chk (by omega) ?_
                refine ok_lt (fun S8x27_z eS8x27_z => ?_)
                have h36_y : CX b S8x27_z := by rw [eS8x27_z]; exact cs_q179 hC hj5x27_z
                have f37_y : gi S8x27_z 178 2 = gi S 178 2 := gi_sq eS8x27_z
                have f38_y : gi S8x27_z 10 5 = gi S 10 5 := gi_sq eS8x27_z
                refine ok_chk (by omega) ?_
                refine ok_lt (fun S10x27_z eS10x27_z => ?_)
                have h39_y : CX b S10x27_z := by rw [eS10x27_z]; exact cs_180 h36_y (by omega) (by omega)
                have f40_y : gi S10x27_z 10 5 = gi S8x27_z 10 5 := gi_ne eS10x27_z (by omega)
                have f41_y : gi S10x27_z 178 2 = gi S8x27_z 178 2 := gi_ne eS10x27_z (by omega)
                refine ok_chk (by omega) ?_
                refine ok_lt (fun S13x27_z eS13x27_z => ?_)
                have h42_y : CX b S13x27_z := by rw [eS13x27_z]; exact cs_178_2 h39_y (by omega) (by omega)
                have f43_y : gi S13x27_z 178 2 = (gi S10x27_z 178 2) + 1 := gi_eq eS13x27_z
                have f44_y : gi S13x27_z 10 5 = gi S10x27_z 10 5 := gi_ne eS13x27_z (by omega)
                unfold f_Setter_takeDone_101
                refine ok_chk (by omega) ?_
                exact ih S13x27_z (v3_ + 1) h42_y (by omega) (by omega)
          · unfold f_Setter_takeDone_101
            refine ok_chk (by omega) ?_
            exact ih S (v3_ + 1) hC (by omega) (by omega)
        · unfold f_Setter_takeDone_34
          unfold f_Setter_takeDone_35
          refine ok_b1 (ok_Pile_doneNumber S v3_ hC) (fun r1x48_z h49_y => ?_)
          refine ok_b1 (ok_Pile_find S r1x48_z hC) (fun o3x48_z h50_y => ?_)
          refine ok_if (fun c51_y => ?_) (fun c51_y => ?_)
          · refine ok_on (fun h52_y => ?_) (fun j5x48_z h52_y => ?_)
            · unfold f_Setter_takeDone_101
              refine ok_chk (by omega) ?_
              exact ih S (v3_ + 1) hC (by omega) (by omega)
            · have hj5x48_z : j5x48_z < 40 := h50_y j5x48_z h52_y
              refine ok_chk (by omega) ?_
              have b54_y := cx_178_2 hC
              refine ok_if (fun c55_y => ?_) (fun c55_y => ?_)
              · unfold f_Setter_takeDone_101
                refine ok_chk (by omega) ?_
                exact ih S (v3_ + 1) hC (by omega) (by omega)
              · refine ok_chk (by omega) ?_
                refine ok_lt (fun S8x48_z eS8x48_z => ?_)
                have h57_y : CX b S8x48_z := by rw [eS8x48_z]; exact cs_q179 hC hj5x48_z
                have f58_y : gi S8x48_z 178 2 = gi S 178 2 := gi_sq eS8x48_z
                have f59_y : gi S8x48_z 10 5 = gi S 10 5 := gi_sq eS8x48_z
                refine ok_chk (by omega) ?_
                refine ok_lt (fun S10x48_z eS10x48_z => ?_)
                have h60_y : CX b S10x48_z := by rw [eS10x48_z]; exact cs_180 h57_y (by omega) (by omega)
                have f61_y : gi S10x48_z 178 2 = gi S8x48_z 178 2 := gi_ne eS10x48_z (by omega)
                have f62_y : gi S10x48_z 10 5 = gi S8x48_z 10 5 := gi_ne eS10x48_z (by omega)
                refine ok_chk (by omega) ?_
                refine ok_lt (fun S13x48_z eS13x48_z => ?_)
                have h63_y : CX b S13x48_z := by rw [eS13x48_z]; exact cs_178_2 h60_y (by omega) (by omega)
                have f64_y : gi S13x48_z 10 5 = gi S10x48_z 10 5 := gi_ne eS13x48_z (by omega)
                have f65_y : gi S13x48_z 178 2 = (gi S10x48_z 178 2) + 1 := gi_eq eS13x48_z
                unfold f_Setter_takeDone_101
                refine ok_chk (by omega) ?_
                exact ih S13x48_z (v3_ + 1) h63_y (by omega) (by omega)
          · unfold f_Setter_takeDone_101
            refine ok_chk (by omega) ?_
            exact ih S (v3_ + 1) hC (by omega) (by omega)
set_option maxHeartbeats 4000000 in
theorem ok_Setter_takeDone {b : Nat} (S : SS) (v2 : Int) (hC : CX b S) : okk (f_Setter_takeDone S v2) (fun S1 => CX b S1 ∧ (True)) := by
  unfold f_Setter_takeDone
  refine ok_lt (fun S1x1_z eS1x1_z => ?_)
  have h2_y : CX b S1x1_z := by rw [eS1x1_z]; exact cs_178_2 hC (by omega) (by omega)
  have f3_y : gi S1x1_z 178 2 = 0 := gi_eq eS1x1_z
  exact okl_Setter_takeDone_7 v2 FU S1x1_z 0 h2_y (by omega) (by unfold FU; omega)
set_option maxHeartbeats 4000000 in
theorem okl_Setter_setGap_2 (rk : SS → Int → Int → Int → Option SS) (v1 : Int) (v2 : Int) (D : Int) (hrk : ∀ (S : SS) (a b c : Int), CX 1 S → (-2 ≤ a ∧ a ≤ 1000 ∧ -2 ≤ b ∧ b ≤ 1000 ∧ 0 ≤ c ∧ c = D) → okk (rk S a b c) (fun S1 => CX 1 S1 ∧ True)) (hp0 : 0 ≤ v2 ∧ v2 + 1 = D ∧ D ≤ 1000) : ∀ (n : Nat) (S : SS) (v3_ : Int), CX 1 S → (0 ≤ v3_ ∧ v3_ ≤ 40) → 40 - v3_ < (n : Int) → okk (f_Setter_setGap_2 rk v1 v2 n S v3_) (fun S1 => CX 1 S1 ∧ (True)) := by
  intro n
  induction n with
  | zero => intro S v3_ hC hi hm; exfalso; omega
  | succ n ih =>
    intro S v3_ hC hi hm
    have hm : 40 - v3_ < (n : Int) + 1 := by omega
    show okk (f_Setter_setGap_2_b rk v1 v2 (f_Setter_setGap_2 rk v1 v2 n) S v3_) _
    unfold f_Setter_setGap_2_b
    have b1_y := cx_178_2 hC
    refine ok_if (fun c2_y => ?_) (fun c2_y => ?_)
    · exact ok_some ⟨hC, by trivial⟩
    · refine ok_b1 (ok_Setter_takenAt S v3_ hC) (fun o2_z h3_y => ?_)
      refine ok_on (fun h4_y => ?_) (fun j4_z h4_y => ?_)
      · unfold f_Setter_setGap_95
        refine ok_chk (by omega) ?_
        exact ih S (v3_ + 1) hC (by omega) (by omega)
      · have hj4_z : j4_z < 40 := h3_y j4_z h4_y
        refine ok_chk (by omega) ?_
        have b6_y := cx_mk_6 hC hj4_z
        refine ok_if (fun c7_y => ?_) (fun c7_y => ?_)
        · refine ok_b1 (ok_Setter_isOpen S v3_ hC) (fun r6_z h8_y => ?_)
          refine ok_if (fun c9_y => ?_) (fun c9_y => ?_)
          · have b10_y := cx_mk_2 hC hj4_z
            refine ok_if (fun c11_y => ?_) (fun c11_y => ?_)
            · refine ok_on (fun h => absurd h (cx_n hC).2) (fun q18_z h12_y => ?_)
              have hq18_z : shOk q18_z := (hC).2.2.2.1 _ _ h12_y
              refine ok_chk (by omega) ?_
              refine ok_b1 (ok_Sheet_addAll S q18_z (14 + 4 * j4_z + 2) hC hq18_z (show shOk (14 + 4 * j4_z + 2) by omega)) (fun S19_z h13_y => ?_)
              obtain ⟨h14_y, p15_y⟩ := h13_y
              unfold f_Setter_setGap_95
              refine ok_chk (by omega) ?_
              exact ih S19_z (v3_ + 1) h14_y (by omega) (by omega)
            · refine ok_b1 (ok_Setter_mind S v3_ 1 hC (by omega)) (fun S9_z h17_y => ?_)
              obtain ⟨h18_y, p19_y⟩ := h17_y
              refine ok_chk (by omega) ?_
              have b20_y := cx_mk_4 h18_y hj4_z
              have b21_y := cx_mk_5 h18_y hj4_z
              refine ok_b1 (hrk S9_z (gi S9_z (14 + 4 * j4_z) 4) (gi S9_z (14 + 4 * j4_z) 5) (v2 + 1) h18_y (by omega)) (fun S14_z h22_y => ?_)
              obtain ⟨h23_y, p24_y⟩ := h22_y
              refine ok_b1 (ok_Setter_mind S14_z v3_ 0 h23_y (by omega)) (fun S16_z h25_y => ?_)
              obtain ⟨h26_y, p27_y⟩ := h25_y
              unfold f_Setter_setGap_95
              refine ok_chk (by omega) ?_
              exact ih S16_z (v3_ + 1) h26_y (by omega) (by omega)
          · unfold f_Setter_setGap_95
            refine ok_chk (by omega) ?_
            exact ih S (v3_ + 1) hC (by omega) (by omega)
        · unfold f_Setter_setGap_95
          refine ok_chk (by omega) ?_
          exact ih S (v3_ + 1) hC (by omega) (by omega)
set_option maxHeartbeats 4000000 in
theorem ok_Setter_setGap (rk : SS → Int → Int → Int → Option SS) (S : SS) (v1 : Int) (v2 : Int) (D : Int) (hrk : ∀ (S : SS) (a b c : Int), CX 1 S → (-2 ≤ a ∧ a ≤ 1000 ∧ -2 ≤ b ∧ b ≤ 1000 ∧ 0 ≤ c ∧ c = D) → okk (rk S a b c) (fun S1 => CX 1 S1 ∧ True)) (hC : CX 1 S) (hp0 : 0 ≤ v2 ∧ v2 + 1 = D ∧ D ≤ 1000) : okk (f_Setter_setGap rk S v1 v2) (fun S1 => CX 1 S1 ∧ (True)) := by
  unfold f_Setter_setGap
  exact okl_Setter_setGap_2 rk v1 v2 D hrk (by omega) FU S 0 hC (by omega) (by unfold FU; omega)
set_option maxHeartbeats 4000000 in
theorem ok_Setter_setPiece (rk : SS → Int → Int → Int → Option SS) (S : SS) (v1 : Int) (v2 : Int) (D : Int) (hrk : ∀ (S : SS) (a b c : Int), CX 1 S → (-2 ≤ a ∧ a ≤ 1000 ∧ -2 ≤ b ∧ b ≤ 1000 ∧ 0 ≤ c ∧ c = D) → okk (rk S a b c) (fun S1 => CX 1 S1 ∧ True)) (hC : CX 1 S) (hp0 : 0 ≤ v2 ∧ v2 + 1 = D ∧ D ≤ 1000) (hp1 : -2 ≤ v1 ∧ v1 ≤ 1000) : okk (f_Setter_setPiece rk S v1 v2) (fun u => CX 1 u.2 ∧ (True)) := by
  unfold f_Setter_setPiece
  refine ok_b1 (ok_Setter_outermostAt S v1 hC) (fun r1x1_z h2_y => ?_)
  refine ok_b1 (ok_Setter_takenAt S r1x1_z hC) (fun o3x1_z h3_y => ?_)
  refine ok_on (fun h4_y => ?_) (fun j5x1_z h4_y => ?_)
  · refine ok_on (fun h => absurd h (cx_n hC).2) (fun q6x1_z h5_y => ?_)
    have hq6x1_z : shOk q6x1_z := (hC).2.2.2.1 _ _ h5_y
    refine ok_chk (by omega) ?_
    refine ok_on (fun h => absurd h (cx_n hC).1) (fun q7x1_z h6_y => ?_)
    have hq7x1_z : shOk q7x1_z := (hC).2.2.2.1 _ _ h6_y
    refine ok_chk (by omega) ?_
    refine ok_b1 (ok_Sheet_wordAt S q7x1_z v1 hC hq7x1_z) (fun w8x1_z h7_y => ?_)
    refine ok_b1 (ok_Sheet_add S q6x1_z w8x1_z hC hq6x1_z) (fun S10x1_z h8_y => ?_)
    obtain ⟨h9_y, p10_y⟩ := h8_y
    refine ok_chk (by omega) ?_
    exact ok_some ⟨h9_y, by trivial⟩
  · have hj5x1_z : j5x1_z < 40 := h3_y j5x1_z h4_y
    refine ok_chk (by omega) ?_
    have b11_y := cx_mk_2 hC hj5x1_z
    refine ok_if (fun c12_y => ?_) (fun c12_y => ?_)
    · refine ok_on (fun h => absurd h (cx_n hC).2) (fun q14x1_z h13_y => ?_)
      have hq14x1_z : shOk q14x1_z := (hC).2.2.2.1 _ _ h13_y
      refine ok_chk (by omega) ?_
      refine ok_b1 (ok_Sheet_addAll S q14x1_z (14 + 4 * j5x1_z + 2) hC hq14x1_z (show shOk (14 + 4 * j5x1_z + 2) by omega)) (fun S15x1_z h14_y => ?_)
      obtain ⟨h15_y, p16_y⟩ := h14_y
      unfold f_Setter_setPiece_58
      have b18_y := cx_mk_2 h15_y hj5x1_z
      refine ok_if (fun c19_y => ?_) (fun c19_y => ?_)
      · refine ok_b1 (ok_Setter_mind S15x1_z r1x1_z 1 h15_y (by omega)) (fun S4x17_z h20_y => ?_)
        obtain ⟨h21_y, p22_y⟩ := h20_y
        refine ok_b1 (ok_Mark_number S4x17_z j5x1_z 1 h21_y hj5x1_z) (fun r6x17_z h23_y => ?_)
        refine ok_chk (by omega) ?_
        have b24_y := cx_mk_5 h21_y hj5x1_z
        refine ok_b1 (hrk S4x17_z r6x17_z (gi S4x17_z (14 + 4 * j5x1_z) 5) (v2 + 1) h21_y (by omega)) (fun S10x17_z h25_y => ?_)
        obtain ⟨h26_y, p27_y⟩ := h25_y
        refine ok_b1 (ok_Mark_number S10x17_z j5x1_z 1 h26_y hj5x1_z) (fun r13x17_z h28_y => ?_)
        refine ok_chk (by omega) ?_
        refine ok_chk (by omega) ?_
        have b29_y := cx_mk_4 h26_y hj5x1_z
        refine ok_b1 (hrk S10x17_z (gi S10x17_z (14 + 4 * j5x1_z) 4) (r13x17_z - 1) (v2 + 1) h26_y (by omega)) (fun S17x17_z h30_y => ?_)
        obtain ⟨h31_y, p32_y⟩ := h30_y
        refine ok_b1 (ok_Setter_mind S17x17_z r1x1_z 0 h31_y (by omega)) (fun S19x17_z h33_y => ?_)
        obtain ⟨h34_y, p35_y⟩ := h33_y
        have b36_y := cx_mk_5 h34_y hj5x1_z
        refine ok_chk (by omega) ?_
        exact ok_some ⟨h34_y, by trivial⟩
      · have b37_y := cx_mk_5 h15_y hj5x1_z
        refine ok_chk (by omega) ?_
        exact ok_some ⟨h15_y, by trivial⟩
    · unfold f_Setter_setPiece_58
      refine ok_if (fun c39_y => ?_) (fun c39_y => ?_)
      · refine ok_b1 (ok_Setter_mind S r1x1_z 1 hC (by omega)) (fun S4x38_z h40_y => ?_)
        obtain ⟨h41_y, p42_y⟩ := h40_y
        refine ok_b1 (ok_Mark_number S4x38_z j5x1_z 1 h41_y hj5x1_z) (fun r6x38_z h43_y => ?_)
        refine ok_chk (by omega) ?_
        have b44_y := cx_mk_5 h41_y hj5x1_z
        refine ok_b1 (hrk S4x38_z r6x38_z (gi S4x38_z (14 + 4 * j5x1_z) 5) (v2 + 1) h41_y (by omega)) (fun S10x38_z h45_y => ?_)
        obtain ⟨h46_y, p47_y⟩ := h45_y
        refine ok_b1 (ok_Mark_number S10x38_z j5x1_z 1 h46_y hj5x1_z) (fun r13x38_z h48_y => ?_)
        refine ok_chk (by omega) ?_
        refine ok_chk (by omega) ?_
        have b49_y := cx_mk_4 h46_y hj5x1_z
        refine ok_b1 (hrk S10x38_z (gi S10x38_z (14 + 4 * j5x1_z) 4) (r13x38_z - 1) (v2 + 1) h46_y (by omega)) (fun S17x38_z h50_y => ?_)
        obtain ⟨h51_y, p52_y⟩ := h50_y
        refine ok_b1 (ok_Setter_mind S17x38_z r1x1_z 0 h51_y (by omega)) (fun S19x38_z h53_y => ?_)
        obtain ⟨h54_y, p55_y⟩ := h53_y
        have b56_y := cx_mk_5 h54_y hj5x1_z
        refine ok_chk (by omega) ?_
        exact ok_some ⟨h54_y, by trivial⟩
      · have b57_y := cx_mk_5 hC hj5x1_z
        refine ok_chk (by omega) ?_
        exact ok_some ⟨hC, by trivial⟩
set_option maxHeartbeats 4000000 in
theorem okl_Setter_setRowB_13 (rk : SS → Int → Int → Int → Option SS) (v1 : Int) (v2 : Int) (v3 : Int) (D : Int) (hrk : ∀ (S : SS) (a b c : Int), CX 1 S → (-2 ≤ a ∧ a ≤ 1000 ∧ -2 ≤ b ∧ b ≤ 1000 ∧ 0 ≤ c ∧ c = D) → okk (rk S a b c) (fun S1 => CX 1 S1 ∧ True)) (hp0 : 0 ≤ v3 ∧ (v3 ≤ 40 → v3 + 1 = D) ∧ D ≤ 1000) (hp1 : -2 ≤ v1 ∧ v1 ≤ 1000) (hp2 : -2 ≤ v2 ∧ v2 ≤ 1000) : ∀ (n : Nat) (S : SS) (v4_ : Int) (v5_ : Int), CX 1 S → (v3 ≤ 40 ∧ -2 ≤ v5_ ∧ v5_ ≤ 1001) → 1001 - v5_ < (n : Int) → okk (f_Setter_setRowB_13 rk v1 v2 v3 n S v4_ v5_) (fun S1 => CX 1 S1 ∧ (True)) := by
  intro n
  induction n with
  | zero => intro S v4_ v5_ hC hi hm; exfalso; omega
  | succ n ih =>
    intro S v4_ v5_ hC hi hm
    have hm : 1001 - v5_ < (n : Int) + 1 := by omega
    show okk (f_Setter_setRowB_13_b rk v1 v2 v3 (f_Setter_setRowB_13 rk v1 v2 v3 n) S v4_ v5_) _
    unfold f_Setter_setRowB_13_b
    refine ok_if (fun c1_y => ?_) (fun c1_y => ?_)
    · exact ok_some ⟨hC, by trivial⟩
    · refine ok_if (fun c2_y => ?_) (fun c2_y => ?_)
      · refine ok_if (fun c3_y => ?_) (fun c3_y => ?_)
        · unfold f_Setter_setRowB_42
          refine ok_b2 (ok_Setter_setPiece rk S v5_ v3 D hrk hC (by omega) (by omega)) (fun r2x4_z S1x4_z h5_y => ?_)
          obtain ⟨h6_y, p7_y⟩ := h5_y
          unfold f_Setter_setRowB_51
          refine ok_chk (by omega) ?_
          exact ih S1x4_z r2x4_z (v5_ + 1) h6_y (by omega) (by omega)
        · refine ok_b1 (ok_Setter_setGap rk S v5_ v3 D hrk hC (by omega)) (fun S1_z h9_y => ?_)
          obtain ⟨h10_y, p11_y⟩ := h9_y
          unfold f_Setter_setRowB_42
          refine ok_b2 (ok_Setter_setPiece rk S1_z v5_ v3 D hrk h10_y (by omega) (by omega)) (fun r2x12_z S1x12_z h13_y => ?_)
          obtain ⟨h14_y, p15_y⟩ := h13_y
          unfold f_Setter_setRowB_51
          refine ok_chk (by omega) ?_
          exact ih S1x12_z r2x12_z (v5_ + 1) h14_y (by omega) (by omega)
      · unfold f_Setter_setRowB_51
        refine ok_chk (by omega) ?_
        exact ih S v4_ (v5_ + 1) hC (by omega) (by omega)
set_option maxHeartbeats 4000000 in
theorem ok_Setter_setRowB (rk : SS → Int → Int → Int → Option SS) (S : SS) (v1 : Int) (v2 : Int) (v3 : Int) (D : Int) (hrk : ∀ (S : SS) (a b c : Int), CX 1 S → (-2 ≤ a ∧ a ≤ 1000 ∧ -2 ≤ b ∧ b ≤ 1000 ∧ 0 ≤ c ∧ c = D) → okk (rk S a b c) (fun S1 => CX 1 S1 ∧ True)) (hC : CX 1 S) (hp0 : 0 ≤ v3 ∧ (v3 ≤ 40 → v3 + 1 = D) ∧ D ≤ 1000) (hp1 : -2 ≤ v1 ∧ v1 ≤ 1000) (hp2 : -2 ≤ v2 ∧ v2 ≤ 1000) : okk (f_Setter_setRowB rk S v1 v2 v3) (fun S1 => CX 1 S1 ∧ (True)) := by
  unfold f_Setter_setRowB
  refine ok_if (fun c2_y => ?_) (fun c2_y => ?_)
  · exact okl_Setter_setRowB_13 rk v1 v2 v3 D hrk (by omega) (by omega) (by omega) FU S v1 v1 hC (by omega) (by unfold FU; omega)
  · exact ok_some ⟨hC, by trivial⟩
theorem ok_Setter_setRow : ∀ (n : Nat) (S : SS) (a b c : Int), CX 1 S → (-2 ≤ a ∧ a ≤ 1000 ∧ -2 ≤ b ∧ b ≤ 1000 ∧ 0 ≤ c ∧ c ≤ 41 ∧ 42 - c ≤ (n : Int)) → okk (f_Setter_setRow n S a b c) (fun S1 => CX 1 S1 ∧ True) := by
  intro n
  induction n with
  | zero => intro S a b c hC h; exfalso; omega
  | succ n ih =>
    intro S a b c hC h
    have h6 : 42 - c ≤ (n : Int) + 1 := by omega
    exact ok_Setter_setRowB (f_Setter_setRow n) S a b c (if c ≤ 40 then c + 1 else -1) (fun S a b c' hC h' => ih S a b c' hC (by split at h' <;> omega)) hC (by split <;> omega) (by omega) (by omega)
theorem ok_setRow43 (S : SS) (a b c : Int) (hC : CX 1 S) (h : -2 ≤ a ∧ a ≤ 1000 ∧ -2 ≤ b ∧ b ≤ 1000 ∧ 0 ≤ c ∧ c ≤ 1) : okk (f_Setter_setRow 43 S a b c) (fun S1 => CX 1 S1 ∧ True) := ok_Setter_setRow 43 S a b c hC (by omega)
theorem ok_Setter_make_44 (q1 q2 : Nat) (S : SS) (v3_ : Int) (hC : CX 1 S) : okk (f_Setter_make_44 q1 q2 S v3_) (fun S1 => CX 0 S1 ∧ True) := by
  unfold f_Setter_make_44
  refine ok_b1 (ok_Setter_setGap (f_Setter_setRow 43) S v3_ 0 1 (fun S a b c hC h => ok_setRow43 S a b c hC (by omega)) hC (by omega)) (fun S1 h1 => ?_)
  exact ok_some ⟨h1.1.weak, trivial⟩
theorem ok_Setter_make (S : SS) (q1 q2 : Nat) (hC : CX 0 S) (hq1 : shOk q1) (hq2 : shOk q2) : okk (f_Setter_make S q1 q2) (fun S1 => CX 0 S1 ∧ True) := by
  unfold f_Setter_make
  refine ok_lt (fun S1 e1 => ?_)
  have h1 : CX 0 S1 := by rw [e1]; exact cs_q178 hC hq1
  refine ok_lt (fun S2 e2 => ?_)
  have h2 : CX 0 S2 := by rw [e2]; exact cs_q178 h1 hq2
  have n3 : gq S2 178 3 ≠ none := by rw [e2, gq_sq, if_neg (by omega), e1, gq_sq, if_pos ⟨rfl, rfl⟩]; exact fun q => nomatch q
  have n4 : gq S2 178 4 ≠ none := by rw [e2, gq_sq, if_pos ⟨rfl, rfl⟩]; exact fun q => nomatch q
  have h2 : CX 1 S2 := h2.one n3 n4
  refine ok_on (fun h => absurd h n4) (fun q3 h3 => ?_)
  have hq3 : shOk q3 := h2.2.2.2.1 _ _ h3
  refine ok_chk hq3 ?_
  refine ok_lt (fun S4 e4 => ?_)
  have h4 : CX 1 S4 := by rw [e4]; exact cx_Sheet_clear h2 hq3
  refine ok_on (fun h => absurd h (cx_n h4).1) (fun q6 h6 => ?_)
  have hq6 : shOk q6 := h4.2.2.2.1 _ _ h6
  refine ok_chk hq6 ?_
  have b6 := cx_sh h4 hq6
  refine ok_if (fun _ => ok_Setter_make_44 q1 q2 S4 _ h4) (fun _ => ?_)
  refine ok_b1 (ok_Setter_setGap (f_Setter_setRow 43) S4 0 0 1 (fun S a b c hC h => ok_setRow43 S a b c hC (by omega)) h4 (by omega)) (fun S8 h8 => ?_)
  refine ok_chk (by omega) ?_
  refine ok_b1 (ok_setRow43 S8 0 _ 0 h8.1 (by omega)) (fun S11 h11 => ?_)
  exact ok_Setter_make_44 q1 q2 S11 _ h11.1
set_option maxHeartbeats 4000000 in
theorem ok_MP_settle (S : SS) (hC : CX 0 S) : okk (f_MP_settle S) (fun S1 => CX 0 S1 ∧ (True)) := by
  unfold f_MP_settle
  refine ok_b1 (ok_Pile_decide S hC) (fun S1x1_z h2_y => ?_)
  obtain ⟨h3_y, p4_y⟩ := h2_y
  refine ok_b1 (ok_Setter_takeDone S1x1_z 0 h3_y) (fun S3x1_z h5_y => ?_)
  obtain ⟨h6_y, p7_y⟩ := h5_y
  refine ok_b1 (ok_Setter_make S3x1_z 4 8 h6_y (show shOk 4 by decide) (show shOk 8 by decide)) (fun S5x1_z h8_y => ?_)
  obtain ⟨h9_y, p10_y⟩ := h8_y
  exact ok_some ⟨h9_y, by trivial⟩
set_option maxHeartbeats 4000000 in
theorem ok_MP_answer (S : SS) (v1 : Int) (v2 : Int) (hC : CX 0 S) : okk (f_MP_answer S v1 v2) (fun u => CX 0 u.2 ∧ (True)) := by
  unfold f_MP_answer
  refine ok_b1 (ok_Pile_find S v1 hC) (fun o1x1_z h2_y => ?_)
  refine ok_on (fun h3_y => ?_) (fun j3x1_z h3_y => ?_)
  · exact ok_some ⟨hC, by trivial⟩
  · have hj3x1_z : j3x1_z < 40 := h2_y j3x1_z h3_y
    refine ok_chk (by omega) ?_
    have b4_y := cx_mk_11 hC hj3x1_z
    refine ok_if (fun c5_y => ?_) (fun c5_y => ?_)
    · refine ok_lt (fun S5x1_z eS5x1_z => ?_)
      have h6_y : CX 0 S5x1_z := by rw [eS5x1_z]; exact cs_mk_7 hC hj3x1_z (by omega) (by omega)
      have f7_y : gi S5x1_z (14 + 4 * j3x1_z) 11 = gi S (14 + 4 * j3x1_z) 11 := gi_ne eS5x1_z (by omega)
      refine ok_if (fun c8_y => ?_) (fun c8_y => ?_)
      · unfold f_MP_answer_42
        refine ok_chk (by omega) ?_
        refine ok_lt (fun S2x9_z eS2x9_z => ?_)
        have h10_y : CX 0 S2x9_z := by rw [eS2x9_z]; exact cs_mk_8 h6_y hj3x1_z (by omega) (by omega)
        have f11_y : gi S2x9_z (14 + 4 * j3x1_z) 11 = gi S5x1_z (14 + 4 * j3x1_z) 11 := gi_ne eS2x9_z (by omega)
        refine ok_b1 (ok_MP_settle S2x9_z h10_y) (fun S3x9_z h12_y => ?_)
        obtain ⟨h13_y, p14_y⟩ := h12_y
        exact ok_some ⟨h13_y, by trivial⟩
      · unfold f_MP_answer_42
        refine ok_chk (by omega) ?_
        refine ok_lt (fun S2x15_z eS2x15_z => ?_)
        have h16_y : CX 0 S2x15_z := by rw [eS2x15_z]; exact cs_mk_8 h6_y hj3x1_z (by omega) (by omega)
        have f17_y : gi S2x15_z (14 + 4 * j3x1_z) 11 = gi S5x1_z (14 + 4 * j3x1_z) 11 := gi_ne eS2x15_z (by omega)
        refine ok_b1 (ok_MP_settle S2x15_z h16_y) (fun S3x15_z h18_y => ?_)
        obtain ⟨h19_y, p20_y⟩ := h18_y
        exact ok_some ⟨h19_y, by trivial⟩
    · exact ok_some ⟨hC, by trivial⟩
set_option maxHeartbeats 4000000 in
theorem ok_MP_rank (S : SS) (v1 : Int) (v2 : Int) (hC : CX 0 S) : okk (f_MP_rank S v1 v2) (fun u => CX 0 u.2 ∧ (True)) := by
  unfold f_MP_rank
  refine ok_if (fun c2_y => ?_) (fun c2_y => ?_)
  · exact ok_some ⟨hC, by trivial⟩
  · refine ok_if (fun c3_y => ?_) (fun c3_y => ?_)
    · exact ok_some ⟨hC, by trivial⟩
    · refine ok_if (fun c4_y => ?_) (fun c4_y => ?_)
      · exact ok_some ⟨hC, by trivial⟩
      · refine ok_if (fun c5_y => ?_) (fun c5_y => ?_)
        · refine ok_b1 (ok_Pile_rankOf S v1 hC) (fun r1x1_z h6_y => ?_)
          refine ok_chk (by omega) ?_
          refine ok_lt (fun S3x1_z eS3x1_z => ?_)
          have h7_y : CX 0 S3x1_z := by rw [eS3x1_z]; exact cs_12 hC (by omega) (by omega)
          refine ok_b1 (ok_MP_settle S3x1_z h7_y) (fun S4x1_z h8_y => ?_)
          obtain ⟨h9_y, p10_y⟩ := h8_y
          exact ok_some ⟨h9_y, by trivial⟩
        · exact ok_some ⟨hC, by trivial⟩
set_option maxHeartbeats 4000000 in
theorem ok_MP_next (S : SS) (hC : CX 0 S) : okk (f_MP_next S) (fun u => CX 0 u.2 ∧ (True)) := by
  unfold f_MP_next
  have b2_y := cx_sh hC (show shOk 6 by decide)
  refine ok_if (fun c3_y => ?_) (fun c3_y => ?_)
  · exact ok_some ⟨hC, by trivial⟩
  · refine ok_if (fun c4_y => ?_) (fun c4_y => ?_)
    · refine ok_b1 (ok_Sheet_copyFrom S 4 6 hC (show shOk 4 by decide) (show shOk 6 by decide)) (fun S3x1_z h5_y => ?_)
      obtain ⟨h6_y, p7_y⟩ := h5_y
      refine ok_lt (fun S5x1_z eS5x1_z => ?_)
      have h8_y : CX 0 S5x1_z := by rw [eS5x1_z]; exact cx_Sheet_clear h6_y (show shOk 6 by decide)
      refine ok_lt (fun S7x1_z eS7x1_z => ?_)
      have h9_y : CX 0 S7x1_z := by rw [eS7x1_z]; exact cx_Pile_clear h8_y
      refine ok_b1 (ok_MP_settle S7x1_z h9_y) (fun S9x1_z h10_y => ?_)
      obtain ⟨h11_y, p12_y⟩ := h10_y
      have b13_y := cx_sh h11_y (show shOk 4 by decide)
      exact ok_some ⟨h11_y, by trivial⟩
    · exact ok_some ⟨hC, by trivial⟩
set_option maxHeartbeats 4000000 in
theorem okl_Holding_listMissed_7 {b : Nat} : ∀ (n : Nat) (S : SS) (v2_ : Int), CX b S → (0 ≤ v2_ ∧ v2_ ≤ 8) → 8 - v2_ < (n : Int) → okk (f_Holding_listMissed_7 n S v2_) (fun S1 => CX b S1 ∧ (True)) := by
  intro n
  induction n with
  | zero => intro S v2_ hC hi hm; exfalso; omega
  | succ n ih =>
    intro S v2_ hC hi hm
    have hm : 8 - v2_ < (n : Int) + 1 := by omega
    show okk (f_Holding_listMissed_7_b (f_Holding_listMissed_7 n) S v2_) _
    unfold f_Holding_listMissed_7_b
    refine ok_if (fun c1_y => ?_) (fun c1_y => ?_)
    · exact ok_some ⟨hC, by trivial⟩
    · have b2_y := cx_183_8 hC
      have b3_y := andi1 (shri (gi S 183 8) v2_)
      refine ok_if (fun c4_y => ?_) (fun c4_y => ?_)
      · have b5_y := cx_183_9 hC
        refine ok_if (fun c6_y => ?_) (fun c6_y => ?_)
        · unfold f_Holding_listMissed_61
          refine ok_chk (by omega) ?_
          exact ih S (v2_ + 1) hC (by omega) (by omega)
        · refine ok_b1 (ok_Pile_doneNumber S v2_ hC) (fun r6_z h8_y => ?_)
          refine ok_chk (by omega) ?_
          refine ok_lt (fun S8_z eS8_z => ?_)
          have h9_y : CX b S8_z := by rw [eS8_z]; exact cs_186 hC (by omega) (by omega)
          have f10_y : gi S8_z 183 8 = gi S 183 8 := gi_ne eS8_z (by omega)
          have f11_y : gi S8_z 183 9 = gi S 183 9 := gi_ne eS8_z (by omega)
          refine ok_chk (by omega) ?_
          refine ok_lt (fun S11_z eS11_z => ?_)
          have h12_y : CX b S11_z := by rw [eS11_z]; exact cs_183_9 h9_y (by omega) (by omega)
          have f13_y : gi S11_z 183 8 = gi S8_z 183 8 := gi_ne eS11_z (by omega)
          have f14_y : gi S11_z 183 9 = (gi S8_z 183 9) + 1 := gi_eq eS11_z
          unfold f_Holding_listMissed_61
          refine ok_chk (by omega) ?_
          exact ih S11_z (v2_ + 1) h12_y (by omega) (by omega)
      · unfold f_Holding_listMissed_61
        refine ok_chk (by omega) ?_
        exact ih S (v2_ + 1) hC (by omega) (by omega)
set_option maxHeartbeats 4000000 in
theorem ok_Holding_listMissed {b : Nat} (S : SS) (hC : CX b S) : okk (f_Holding_listMissed S) (fun S1 => CX b S1 ∧ (True)) := by
  unfold f_Holding_listMissed
  refine ok_lt (fun S1x1_z eS1x1_z => ?_)
  have h2_y : CX b S1x1_z := by rw [eS1x1_z]; exact cs_183_9 hC (by omega) (by omega)
  have f3_y : gi S1x1_z 183 9 = 0 := gi_eq eS1x1_z
  exact okl_Holding_listMissed_7  FU S1x1_z 0 h2_y (by omega) (by unfold FU; omega)
set_option maxHeartbeats 4000000 in
theorem ok_Holding_note {b : Nat} (S : SS) (v1 : Int) (v2 : Int) (v3 : Int) (hC : CX b S) (hp0 : i32 v1) (hp1 : i32 v2) (hp2 : i32 v3) : okk (f_Holding_note S v1 v2 v3) (fun S1 => CX b S1 ∧ (True)) := by
  unfold f_Holding_note
  have b2_y := cx_183_11 hC
  refine ok_if (fun c3_y => ?_) (fun c3_y => ?_)
  · exact ok_some ⟨hC, by trivial⟩
  · refine ok_if (fun c4_y => ?_) (fun c4_y => ?_)
    · exact ok_some ⟨hC, by trivial⟩
    · refine ok_chk (by omega) ?_
      refine ok_lt (fun S4x1_z eS4x1_z => ?_)
      have h5_y : CX b S4x1_z := by rw [eS4x1_z]; exact cs_187 hC (by omega) (by omega)
      have f6_y : gi S4x1_z 183 11 = gi S 183 11 := gi_ne eS4x1_z (by omega)
      refine ok_chk (by omega) ?_
      refine ok_lt (fun S6x1_z eS6x1_z => ?_)
      have h7_y : CX b S6x1_z := by rw [eS6x1_z]; exact cs_188 h5_y (by omega) (by omega)
      have f8_y : gi S6x1_z 183 11 = gi S4x1_z 183 11 := gi_ne eS6x1_z (by omega)
      refine ok_chk (by omega) ?_
      refine ok_lt (fun S8x1_z eS8x1_z => ?_)
      have h9_y : CX b S8x1_z := by rw [eS8x1_z]; exact cs_189 h7_y (by omega) (by omega)
      have f10_y : gi S8x1_z 183 11 = gi S6x1_z 183 11 := gi_ne eS8x1_z (by omega)
      refine ok_chk (by omega) ?_
      refine ok_lt (fun S11x1_z eS11x1_z => ?_)
      have h11_y : CX b S11x1_z := by rw [eS11x1_z]; exact cs_183_11 h9_y (by omega) (by omega)
      have f12_y : gi S11x1_z 183 11 = (gi S8x1_z 183 11) + 1 := gi_eq eS11x1_z
      exact ok_some ⟨h11_y, by trivial⟩
set_option maxHeartbeats 4000000 in
theorem ok_Holding_tellMissed {b : Nat} (S : SS) (v1 : Int) (hC : CX b S) (hp0 : i32 v1) : okk (f_Holding_tellMissed S v1) (fun r => True) := by
  unfold f_Holding_tellMissed
  refine ok_if (fun c2_y => ?_) (fun c2_y => ?_)
  · refine ok_chk (by omega) ?_
    have b3_y := cx_183_9 hC
    refine ok_if (fun c4_y => ?_) (fun c4_y => ?_)
    · exact ok_some (by trivial)
    · refine ok_if (fun c5_y => ?_) (fun c5_y => ?_)
      · refine ok_chk (by omega) ?_
        have b6_y := cx_186 hC (v1 - 10).toNat
        exact ok_some (by trivial)
      · exact ok_some (by trivial)
  · exact ok_some (by trivial)
set_option maxHeartbeats 4000000 in
theorem ok_Holding_tell {b : Nat} (S : SS) (v1 : Int) (hC : CX b S) (hp0 : i32 v1) : okk (f_Holding_tell S v1) (fun r => True) := by
  unfold f_Holding_tell
  have b2_y := cx_183_7 hC
  refine ok_if (fun c3_y => ?_) (fun c3_y => ?_)
  · exact ok_some (by trivial)
  · refine ok_if (fun c4_y => ?_) (fun c4_y => ?_)
    · have b5_y := cx_183_8 hC
      exact ok_some (by trivial)
    · refine ok_if (fun c6_y => ?_) (fun c6_y => ?_)
      · have b7_y := cx_183_9 hC
        exact ok_some (by trivial)
      · refine ok_if (fun c8_y => ?_) (fun c8_y => ?_)
        · have b9_y := cx_183_10 hC
          exact ok_some (by trivial)
        · refine ok_b1 (ok_Holding_tellMissed S v1 hC (by omega)) (fun r8x1_z h10_y => ?_)
          exact ok_some (by trivial)
set_option maxHeartbeats 4000000 in
theorem ok_Holding_tellChange {b : Nat} (S : SS) (v1 : Int) (v2 : Int) (hC : CX b S) : okk (f_Holding_tellChange S v1 v2) (fun r => True) := by
  unfold f_Holding_tellChange
  refine ok_if (fun c2_y => ?_) (fun c2_y => ?_)
  · exact ok_some (by trivial)
  · have b3_y := cx_183_11 hC
    refine ok_if (fun c4_y => ?_) (fun c4_y => ?_)
    · exact ok_some (by trivial)
    · refine ok_if (fun c5_y => ?_) (fun c5_y => ?_)
      · refine ok_if (fun c6_y => ?_) (fun c6_y => ?_)
        · refine ok_chk (by omega) ?_
          have b7_y := cx_187 hC (v1).toNat
          exact ok_some (by trivial)
        · refine ok_if (fun c8_y => ?_) (fun c8_y => ?_)
          · refine ok_chk (by omega) ?_
            have b9_y := cx_188 hC (v1).toNat
            exact ok_some (by trivial)
          · refine ok_if (fun c10_y => ?_) (fun c10_y => ?_)
            · refine ok_chk (by omega) ?_
              have b11_y := cx_189 hC (v1).toNat
              exact ok_some (by trivial)
            · exact ok_some (by trivial)
      · exact ok_some (by trivial)
theorem so_rng {S : SS} {v : Int} {q : Nat} (h : f_MP_sheetOf S v = some q) : shOk q := by
  unfold f_MP_sheetOf at h
  split at h
  · cases h; decide
  · split at h
    · cases h; decide
    · split at h
      · cases h; decide
      · cases h
set_option maxHeartbeats 4000000 in
theorem ok_MP_sizeOf {b : Nat} (S : SS) (v1 : Int) (hC : CX b S) : okk (f_MP_sizeOf S v1) (fun r => True) := by
  unfold f_MP_sizeOf
  refine ok_lt (fun o1x1_z eo1x1_z => ?_)
  refine ok_on (fun h2_y => ?_) (fun q3x1_z h2_y => ?_)
  · exact ok_some (by trivial)
  · have hq3x1_z : shOk q3x1_z := so_rng (by rw [← eo1x1_z]; exact h2_y)
    refine ok_chk (by omega) ?_
    have b3_y := cx_sh hC hq3x1_z
    exact ok_some (by trivial)
set_option maxHeartbeats 4000000 in
theorem ok_MP_feed {b : Nat} (S : SS) (v1 : Int) (v2 : Int) (v3 : Int) (v4 : Int) (v5 : Int) (hC : CX b S) (hp0 : i32 v1) (hp1 : i32 v2) (hp2 : i32 v3) (hp3 : i32 v4) (hp4 : i32 v5) : okk (f_MP_feed S v1 v2 v3 v4 v5) (fun u => CX b u.2 ∧ (True)) := by
  unfold f_MP_feed
  have b2_y := cx_1_1 hC
  refine ok_chk (by omega) ?_
  refine ok_if (fun c3_y => ?_) (fun c3_y => ?_)
  · refine ok_b1 (ok_Tape_addFour S v1 hC (by omega)) (fun S3x1_z h4_y => ?_)
    obtain ⟨h5_y, p6_y⟩ := h4_y
    refine ok_b1 (ok_Tape_addFour S3x1_z v2 h5_y (by omega)) (fun S5x1_z h7_y => ?_)
    obtain ⟨h8_y, p9_y⟩ := h7_y
    refine ok_b1 (ok_Tape_addFour S5x1_z v3 h8_y (by omega)) (fun S7x1_z h10_y => ?_)
    obtain ⟨h11_y, p12_y⟩ := h10_y
    refine ok_b1 (ok_Tape_addFour S7x1_z v4 h11_y (by omega)) (fun S9x1_z h13_y => ?_)
    obtain ⟨h14_y, p15_y⟩ := h13_y
    refine ok_b1 (ok_Tape_addFour S9x1_z v5 h14_y (by omega)) (fun S11x1_z h16_y => ?_)
    obtain ⟨h17_y, p18_y⟩ := h16_y
    have b19_y := cx_1_1 h17_y
    exact ok_some ⟨h17_y, by trivial⟩
  · exact ok_some ⟨hC, by trivial⟩
set_option maxHeartbeats 4000000 in
theorem ok_MP_end {b : Nat} (S : SS) (v1 : Int) (hC : CX b S) : okk (f_MP_end S v1) (fun u => CX b u.2 ∧ (True)) := by
  unfold f_MP_end
  refine ok_if (fun c2_y => ?_) (fun c2_y => ?_)
  · exact ok_some ⟨hC, by trivial⟩
  · have b3_y := cx_1_1 hC
    refine ok_if (fun c4_y => ?_) (fun c4_y => ?_)
    · refine ok_lt (fun S2x1_z eS2x1_z => ?_)
      have h5_y : CX b S2x1_z := by rw [eS2x1_z]; exact cs_1_1 hC (by omega) (by omega)
      have f6_y : gi S2x1_z 1 1 = v1 := gi_eq eS2x1_z
      exact ok_some ⟨h5_y, by trivial⟩
    · exact ok_some ⟨hC, by trivial⟩
set_option maxHeartbeats 4000000 in
theorem ok_MP_word {b : Nat} (S : SS) (v1 : Int) (v2 : Int) (hC : CX b S) : okk (f_MP_word S v1 v2) (fun r => True) := by
  unfold f_MP_word
  refine ok_lt (fun o1x1_z eo1x1_z => ?_)
  refine ok_on (fun h2_y => ?_) (fun q3x1_z h2_y => ?_)
  · exact ok_some (by trivial)
  · have hq3x1_z : shOk q3x1_z := so_rng (by rw [← eo1x1_z]; exact h2_y)
    refine ok_chk (by omega) ?_
    refine ok_b1 (ok_Sheet_wordAt S q3x1_z v2 hC hq3x1_z) (fun w4x1_z h3_y => ?_)
    exact ok_some (by trivial)
set_option maxHeartbeats 4000000 in
theorem ok_MP_mark {b : Nat} (S : SS) (v1 : Int) (v2 : Int) (hC : CX b S) (hp0 : i32 v2) : okk (f_MP_mark S v1 v2) (fun r => True) := by
  unfold f_MP_mark
  refine ok_b1 (ok_Pile_find S v1 hC) (fun o1x1_z h2_y => ?_)
  refine ok_on (fun h3_y => ?_) (fun j3x1_z h3_y => ?_)
  · exact ok_some (by trivial)
  · have hj3x1_z : j3x1_z < 40 := h2_y j3x1_z h3_y
    refine ok_chk (by omega) ?_
    refine ok_if (fun c4_y => ?_) (fun c4_y => ?_)
    · refine ok_chk (by omega) ?_
      refine ok_b1 (ok_Mark_tellWord S j3x1_z (v2 - 10) hC hj3x1_z) (fun r5x1_z h5_y => ?_)
      exact ok_some (by trivial)
    · refine ok_b1 (ok_Mark_tell S j3x1_z v2 hC hj3x1_z) (fun r7x1_z h6_y => ?_)
      exact ok_some (by trivial)
set_option maxHeartbeats 4000000 in
theorem ok_MP_meet {b : Nat} (S : SS) (v1 : Int) (v2 : Int) (hC : CX b S) : okk (f_MP_meet S v1 v2) (fun r => True) := by
  unfold f_MP_meet
  refine ok_b1 (ok_Pile_findNoStet S v1 hC) (fun o1x1_z h2_y => ?_)
  refine ok_b1 (ok_Pile_findNoStet S v2 hC) (fun o3x1_z h3_y => ?_)
  refine ok_on (fun h4_y => ?_) (fun j5x1_z h4_y => ?_)
  · exact ok_some (by trivial)
  · have hj5x1_z : j5x1_z < 40 := h2_y j5x1_z h4_y
    refine ok_chk (by omega) ?_
    refine ok_on (fun h5_y => ?_) (fun j6x1_z h5_y => ?_)
    · exact ok_some (by trivial)
    · have hj6x1_z : j6x1_z < 40 := h3_y j6x1_z h5_y
      refine ok_chk (by omega) ?_
      refine ok_if (fun c6_y => ?_) (fun c6_y => ?_)
      · exact ok_some (by trivial)
      · refine ok_b1 (ok_Mark_meets S j5x1_z j6x1_z hC hj5x1_z hj6x1_z) (fun r7x1_z h7_y => ?_)
        refine ok_if (fun c8_y => ?_) (fun c8_y => ?_)
        · exact ok_some (by trivial)
        · exact ok_some (by trivial)
set_option maxHeartbeats 4000000 in
theorem ok_MP_within {b : Nat} (S : SS) (v1 : Int) (v2 : Int) (hC : CX b S) : okk (f_MP_within S v1 v2) (fun r => True) := by
  unfold f_MP_within
  refine ok_b1 (ok_Pile_findNoStet S v1 hC) (fun o1x1_z h2_y => ?_)
  refine ok_b1 (ok_Pile_findNoStet S v2 hC) (fun o3x1_z h3_y => ?_)
  refine ok_on (fun h4_y => ?_) (fun j5x1_z h4_y => ?_)
  · exact ok_some (by trivial)
  · have hj5x1_z : j5x1_z < 40 := h2_y j5x1_z h4_y
    refine ok_chk (by omega) ?_
    refine ok_on (fun h5_y => ?_) (fun j6x1_z h5_y => ?_)
    · exact ok_some (by trivial)
    · have hj6x1_z : j6x1_z < 40 := h3_y j6x1_z h5_y
      refine ok_chk (by omega) ?_
      refine ok_if (fun c6_y => ?_) (fun c6_y => ?_)
      · exact ok_some (by trivial)
      · refine ok_b1 (ok_Mark_isWithin S j5x1_z j6x1_z hC hj5x1_z hj6x1_z) (fun r7x1_z h7_y => ?_)
        refine ok_if (fun c8_y => ?_) (fun c8_y => ?_)
        · exact ok_some (by trivial)
        · exact ok_some (by trivial)
set_option maxHeartbeats 4000000 in
theorem ok_MP_costs {b : Nat} (S : SS) (v1 : Int) (v2 : Int) (hC : CX b S) : okk (f_MP_costs S v1 v2) (fun u => CX b u.2 ∧ (True)) := by
  unfold f_MP_costs
  refine ok_if (fun c2_y => ?_) (fun c2_y => ?_)
  · exact ok_some ⟨hC, by trivial⟩
  · refine ok_if (fun c3_y => ?_) (fun c3_y => ?_)
    · exact ok_some ⟨hC, by trivial⟩
    · refine ok_if (fun c4_y => ?_) (fun c4_y => ?_)
      · exact ok_some ⟨hC, by trivial⟩
      · refine ok_if (fun c5_y => ?_) (fun c5_y => ?_)
        · refine ok_lt (fun S1x1_z eS1x1_z => ?_)
          have h6_y : CX b S1x1_z := by rw [eS1x1_z]; exact cs_183_5 hC (by omega) (by omega)
          have f7_y : gi S1x1_z 183 5 = v1 := gi_eq eS1x1_z
          refine ok_lt (fun S2x1_z eS2x1_z => ?_)
          have h8_y : CX b S2x1_z := by rw [eS2x1_z]; exact cs_183_6 h6_y (by omega) (by omega)
          have f9_y : gi S2x1_z 183 6 = v2 := gi_eq eS2x1_z
          have f10_y : gi S2x1_z 183 5 = gi S1x1_z 183 5 := gi_ne eS2x1_z (by omega)
          exact ok_some ⟨h8_y, by trivial⟩
        · exact ok_some ⟨hC, by trivial⟩
set_option maxHeartbeats 4000000 in
theorem ok_MP_held {b : Nat} (S : SS) (v1 : Int) (hC : CX b S) (hp0 : i32 v1) : okk (f_MP_held S v1) (fun r => True) := by
  unfold f_MP_held
  refine ok_b1 (ok_Holding_tell S v1 hC (by omega)) (fun r1x1_z h2_y => ?_)
  exact ok_some (by trivial)
set_option maxHeartbeats 4000000 in
theorem ok_MP_unasked {b : Nat} (S : SS) (v1 : Int) (v2 : Int) (hC : CX b S) : okk (f_MP_unasked S v1 v2) (fun r => True) := by
  unfold f_MP_unasked
  refine ok_b1 (ok_Holding_tellChange S v1 v2 hC) (fun r1x1_z h2_y => ?_)
  exact ok_some (by trivial)
set_option maxHeartbeats 4000000 in
theorem ok_MP_error {b : Nat} (S : SS) (v1 : Int) (v2 : Int) (hC : CX b S) (hp0 : v2 = 0 ∨ v2 = 1) : okk (f_MP_error S v1 v2) (fun u => CX b u.2 ∧ (True)) := by
  unfold f_MP_error
  refine ok_b1 (ok_Pile_findNoStet S v1 hC) (fun o1x1_z h2_y => ?_)
  refine ok_on (fun h3_y => ?_) (fun j3x1_z h3_y => ?_)
  · exact ok_some ⟨hC, by trivial⟩
  · have hj3x1_z : j3x1_z < 40 := h2_y j3x1_z h3_y
    refine ok_chk (by omega) ?_
    refine ok_chk (by omega) ?_
    refine ok_lt (fun S6x1_z eS6x1_z => ?_)
    have h4_y : CX b S6x1_z := by rw [eS6x1_z]; exact cs_mk_9 hC hj3x1_z (by omega) (by omega)
    have b5_y := cx_mk_9 hC hj3x1_z
    refine ok_if (fun c6_y => ?_) (fun c6_y => ?_)
    · exact ok_some ⟨h4_y, by trivial⟩
    · exact ok_some ⟨h4_y, by trivial⟩
set_option maxHeartbeats 4000000 in
theorem ok_MP_price {b : Nat} (S : SS) (v1 : Int) (v2 : Int) (hC : CX b S) : okk (f_MP_price S v1 v2) (fun u => CX b u.2 ∧ (True)) := by
  unfold f_MP_price
  refine ok_if (fun c2_y => ?_) (fun c2_y => ?_)
  · exact ok_some ⟨hC, by trivial⟩
  · refine ok_if (fun c3_y => ?_) (fun c3_y => ?_)
    · exact ok_some ⟨hC, by trivial⟩
    · refine ok_if (fun c4_y => ?_) (fun c4_y => ?_)
      · exact ok_some ⟨hC, by trivial⟩
      · refine ok_if (fun c5_y => ?_) (fun c5_y => ?_)
        · refine ok_b2 (ok_Bill_setPrice S v1 v2 hC (by omega)) (fun r2x1_z S1x1_z h6_y => ?_)
          obtain ⟨h7_y, p8_y⟩ := h6_y
          exact ok_some ⟨h7_y, by trivial⟩
        · exact ok_some ⟨hC, by trivial⟩
set_option maxHeartbeats 4000000 in
theorem ok_MP_pays {b : Nat} (S : SS) (v1 : Int) (hC : CX b S) : okk (f_MP_pays S v1) (fun r => True) := by
  unfold f_MP_pays
  refine ok_if (fun c2_y => ?_) (fun c2_y => ?_)
  · unfold f_MP_pays_12
    refine ok_if (fun c4_y => ?_) (fun c4_y => ?_)
    · unfold f_MP_pays_30
      refine ok_b1 (ok_Bill_sum S 1 hC) (fun r1x5_z h6_y => ?_)
      exact ok_some (by trivial)
    · unfold f_MP_pays_30
      refine ok_b1 (ok_Bill_sum S 0 hC) (fun r1x7_z h8_y => ?_)
      exact ok_some (by trivial)
  · refine ok_if (fun c9_y => ?_) (fun c9_y => ?_)
    · unfold f_MP_pays_12
      refine ok_if (fun c11_y => ?_) (fun c11_y => ?_)
      · unfold f_MP_pays_30
        refine ok_b1 (ok_Bill_sum S 1 hC) (fun r1x12_z h13_y => ?_)
        exact ok_some (by trivial)
      · unfold f_MP_pays_30
        refine ok_b1 (ok_Bill_sum S 0 hC) (fun r1x14_z h15_y => ?_)
        exact ok_some (by trivial)
    · exact ok_some (by trivial)
set_option maxHeartbeats 4000000 in
theorem ok_MP_count {b : Nat} (S : SS) (v1 : Int) (hC : CX b S) : okk (f_MP_count S v1) (fun r => True) := by
  unfold f_MP_count
  refine ok_if (fun c2_y => ?_) (fun c2_y => ?_)
  · refine ok_b1 (ok_MP_sizeOf S v1 hC) (fun r2x1_z h3_y => ?_)
    exact ok_some (by trivial)
  · refine ok_if (fun c4_y => ?_) (fun c4_y => ?_)
    · refine ok_b1 (ok_MP_sizeOf S v1 hC) (fun r5x1_z h5_y => ?_)
      exact ok_some (by trivial)
    · refine ok_if (fun c6_y => ?_) (fun c6_y => ?_)
      · refine ok_b1 (ok_MP_sizeOf S v1 hC) (fun r8x1_z h7_y => ?_)
        exact ok_some (by trivial)
      · refine ok_if (fun c8_y => ?_) (fun c8_y => ?_)
        · have b9_y := cx_10_3 hC
          exact ok_some (by trivial)
        · refine ok_if (fun c10_y => ?_) (fun c10_y => ?_)
          · refine ok_b1 (ok_Pile_tally S 0 hC) (fun r13x1_z h11_y => ?_)
            refine ok_b1 (ok_Pile_tally S 1 hC) (fun r15x1_z h12_y => ?_)
            refine ok_chk (by omega) ?_
            exact ok_some (by trivial)
          · refine ok_if (fun c13_y => ?_) (fun c13_y => ?_)
            · refine ok_b1 (ok_Pile_tally S 0 hC) (fun r19x1_z h14_y => ?_)
              exact ok_some (by trivial)
            · refine ok_if (fun c15_y => ?_) (fun c15_y => ?_)
              · refine ok_b1 (ok_Pile_tally S 1 hC) (fun r22x1_z h16_y => ?_)
                exact ok_some (by trivial)
              · refine ok_if (fun c17_y => ?_) (fun c17_y => ?_)
                · refine ok_b1 (ok_Pile_tally S 2 hC) (fun r25x1_z h18_y => ?_)
                  exact ok_some (by trivial)
                · refine ok_if (fun c19_y => ?_) (fun c19_y => ?_)
                  · refine ok_b1 (ok_Pile_tally S 3 hC) (fun r28x1_z h20_y => ?_)
                    exact ok_some (by trivial)
                  · refine ok_if (fun c21_y => ?_) (fun c21_y => ?_)
                    · have b22_y := cx_1_1 hC
                      exact ok_some (by trivial)
                    · refine ok_if (fun c23_y => ?_) (fun c23_y => ?_)
                      · refine ok_chk (by omega) ?_
                        refine ok_b1 (ok_Pile_rankOf S (v1 - 10) hC) (fun r34x1_z h24_y => ?_)
                        exact ok_some (by trivial)
                      · refine ok_if (fun c25_y => ?_) (fun c25_y => ?_)
                        · refine ok_chk (by omega) ?_
                          refine ok_b1 (ok_Pile_rankOf S (v1 - 10) hC) (fun r38x1_z h26_y => ?_)
                          exact ok_some (by trivial)
                        · refine ok_if (fun c27_y => ?_) (fun c27_y => ?_)
                          · refine ok_chk (by omega) ?_
                            refine ok_b1 (ok_Pile_rankOf S (v1 - 10) hC) (fun r42x1_z h28_y => ?_)
                            exact ok_some (by trivial)
                          · exact ok_some (by trivial)
def RB (S : SS) (W B : Int) : Prop := ∀ k : Nat, (k : Int) ≤ W → gi S 182 k ≤ B
theorem rb_step {S S1 : SS} {W B v x : Int} (e : S1 = si S 182 x.toNat v) (hx : 0 ≤ x) (hv : v ≤ B + 1) (hR : ∀ k : Nat, (k : Int) ≤ W → gi S 182 k ≤ B + 1 ∧ (x ≤ k → gi S 182 k ≤ B)) : ∀ k : Nat, (k : Int) ≤ W → gi S1 182 k ≤ B + 1 ∧ (x + 1 ≤ k → gi S1 182 k ≤ B) := by
  intro k hk
  have h := hR k hk
  rw [e, gi_si]
  by_cases q : 182 = 182 ∧ k = x.toNat
  · rw [if_pos q]; exact ⟨hv, fun h2 => by omega⟩
  · rw [if_neg q]; exact ⟨h.1, fun h2 => h.2 (by omega)⟩
theorem okl_fill {b : Nat} (v1 : Int) (w2 : Int64) (q3 : Nat) (v4 v5 W B z : Int) (hq3 : shOk q3) (hW : W ≤ 300) (hB : 0 ≤ B ∧ B ≤ 100000) (hv4 : 0 ≤ v4 ∧ v4 ≤ 2000) : ∀ (n : Nat) (S : SS) (v8_ v9_ v10_ v11_ : Int), CX b S → (1 ≤ v11_ ∧ v11_ ≤ 302 ∧ v8_ ≤ W ∧ 0 ≤ v9_ ∧ v9_ ≤ B) → (∀ k : Nat, (k : Int) ≤ W → gi S 182 k ≤ B + 1 ∧ (v11_ ≤ k → gi S 182 k ≤ B)) → gi S q3 1 = z → 302 - v11_ < (n : Int) → okk (f_Ruler_fillRow_101 v1 w2 q3 v4 v5 n S v8_ v9_ v10_ v11_) (fun u => CX b u.2 ∧ RB u.2 W (B + 1) ∧ gi u.2 q3 1 = z) := by
  intro n
  induction n with
  | zero => intro S v8_ v9_ v10_ v11_ hC hi hR hz hm; exfalso; omega
  | succ n ih =>
    intro S v8_ v9_ v10_ v11_ hC hi hR hz hm
    have hm : 302 - v11_ < (n : Int) + 1 := by omega
    show okk (f_Ruler_fillRow_101_b v1 w2 q3 v4 v5 (f_Ruler_fillRow_101 v1 w2 q3 v4 v5 n) S v8_ v9_ v10_ v11_) _
    unfold f_Ruler_fillRow_101_b
    refine ok_if (fun h => ok_some ⟨hC, fun k hk => (hR k hk).1, hz⟩) (fun h => ?_)
    have hup := (hR v11_.toNat (by omega)).2 (by omega)
    have lup := cx_182 hC v11_.toNat
    refine ok_chk (by omega) (ok_chk (by omega) (ok_chk (by omega) (ok_b1 (ok_Sheet_wordAt S q3 _ hC hq3) (fun w4 _ => ?_))))
    refine ok_if (fun _ => ?_) (fun _ => ?_)
    · refine ok_chk (by omega) (ok_lt (fun S1 e => ?_))
      have h1 : CX b S1 := by rw [e]; exact cs_182 hC (by omega) (by omega)
      have hR1 := rb_step e (by omega) (by omega) hR
      have hz1 : gi S1 q3 1 = z := by rw [gi_ne e (by omega)]; exact hz
      unfold f_Ruler_fillRow_174
      refine ok_chk (by omega) (ok_chk (by omega) ?_)
      exact ih S1 v8_ _ _ (v11_ + 1) h1 (by omega) hR1 hz1 (by omega)
    · have ll := cx_182 hC (v11_ - 1).toNat
      refine ok_chk (by omega) (ok_chk (by omega) (ok_chk (by omega) (ok_chk (by omega) (ok_lt (fun S1 e => ?_)))))
      have h1 : CX b S1 := by rw [e]; exact cs_182 hC (by omega) (by omega)
      have hR1 := rb_step e (by omega) (by omega) hR
      have hz1 : gi S1 q3 1 = z := by rw [gi_ne e (by omega)]; exact hz
      unfold f_Ruler_fillRow_174
      refine ok_chk (by omega) (ok_chk (by omega) ?_)
      exact ih S1 v8_ _ _ (v11_ + 1) h1 (by omega) hR1 hz1 (by omega)
theorem ok_fill85 {b : Nat} (v1 : Int) (w2 : Int64) (q3 : Nat) (v4 v5 W B z : Int) (hq3 : shOk q3) (hW : W ≤ 300) (hB : 0 ≤ B ∧ B ≤ 100000) (hv4 : 0 ≤ v4 ∧ v4 ≤ 2000) (S : SS) (v7_ v8_ v9_ vt0_ vt1_ : Int) (hC : CX b S) (hR : RB S W B) (hz : gi S q3 1 = z) (h : 1 ≤ v7_ ∧ v7_ ≤ 300 ∧ vt1_ = v7_ - 1 ∧ v8_ ≤ W ∧ 0 ≤ v9_ ∧ v9_ ≤ B ∧ 0 ≤ vt0_ ∧ vt0_ ≤ B + 1) : okk (f_Ruler_fillRow_85 v1 w2 q3 v4 v5 S v7_ v8_ v9_ vt0_ vt1_) (fun u => CX b u.2 ∧ RB u.2 W (B + 1) ∧ gi u.2 q3 1 = z) := by
  unfold f_Ruler_fillRow_85
  refine ok_chk (by omega) (ok_lt (fun S1 e => ?_))
  have h1 : CX b S1 := by rw [e]; exact cs_182 hC (by omega) (by omega)
  have hR1 := rb_step (W := W) (B := B) e (by omega) (by omega) (fun k hk => ⟨by have := hR k hk; omega, fun _ => hR k hk⟩)
  have hz1 : gi S1 q3 1 = z := by rw [gi_ne e (by omega)]; exact hz
  refine ok_chk (by omega) (ok_chk (by omega) ?_)
  exact okl_fill v1 w2 q3 v4 v5 W B z hq3 hW hB hv4 FU S1 v8_ v9_ _ v7_ h1 (by omega) (fun k hk => ⟨(hR1 k hk).1, fun h2 => (hR1 k hk).2 (by omega)⟩) hz1 (by unfold FU; omega)
theorem ok_Ruler_fillRow {b : Nat} (S : SS) (v1 : Int) (w2 : Int64) (q3 : Nat) (v4 v5 W B z : Int) (hC : CX b S) (hq3 : shOk q3) (h1 : 1 ≤ v1 ∧ v1 ≤ 300) (hB : 1001 ≤ B ∧ B ≤ 90000) (hv4 : 0 ≤ v4 ∧ v4 ≤ 2000) (hv5 : 0 ≤ v5 ∧ v5 ≤ 1000) (hz : gi S q3 1 = z) (hW : W = max 0 (z - v4)) (hd : v1 - v5 ≤ W) (hR : RB S W B) : okk (f_Ruler_fillRow S v1 w2 q3 v4 v5) (fun u => CX b u.2 ∧ RB u.2 W (B + 1) ∧ gi u.2 q3 1 = z) := by
  have bq := cx_sh hC hq3
  have hR' : RB S W (B + 1) := fun k hk => by have := hR k hk; omega
  unfold f_Ruler_fillRow
  refine ok_chk (by omega) (ok_chk (by omega) (ok_chk (by omega) ?_))
  refine ok_if (fun _ => ok_chk (by omega) (ok_some ⟨hC, hR', hz⟩)) (fun c1 => ?_)
  refine ok_if (fun c2 => ?_) (fun _ => ok_chk (by omega) (ok_some ⟨hC, hR', hz⟩))
  have lo := cx_182 hC (max 1 (v1 - v5) - 1).toNat
  have hi := hR (max 1 (v1 - v5) - 1).toNat (by omega)
  refine ok_chk (by omega) (ok_chk (by omega) (ok_chk (by omega) ?_))
  refine ok_if (fun c3 => ?_) (fun c3 => ok_chk (by omega) ?_)
  · exact ok_fill85 v1 w2 q3 v4 v5 W B z hq3 (by omega) (by omega) hv4 S _ _ _ _ _ hC hR hz (by omega)
  · exact ok_fill85 v1 w2 q3 v4 v5 W B z hq3 (by omega) (by omega) hv4 S _ _ _ _ _ hC hR hz (by omega)
theorem okl_meas85 {b : Nat} (q1 : Nat) (v2 : Int) (q3 : Nat) (v4 v5 W z : Int) (hq1 : shOk q1) (hq3 : shOk q3) (hv2 : 0 ≤ v2 ∧ v2 ≤ 2000) (hv4 : 0 ≤ v4 ∧ v4 ≤ 2000) (hv5 : 0 ≤ v5 ∧ v5 ≤ 1000) (hW : W = max 0 (z - v4)) (hW2 : W ≤ 300) : ∀ (n : Nat) (S : SS) (v6_ v7_ v8_ v9_ : Int), CX b S → (v7_ = W ∧ v6_ ≤ W + v5 ∧ v6_ ≤ 300 ∧ 1 ≤ v9_ ∧ v9_ ≤ 301 ∧ v8_ = v5 + 1) → RB S W (1000 + v9_) → gi S q3 1 = z → 302 - v9_ < (n : Int) → okk (f_Ruler_measure_85 q1 v2 q3 v4 v5 n S v6_ v7_ v8_ v9_) (fun u => CX b u.2 ∧ (0 ≤ u.1 ∧ u.1 ≤ v5 + 1)) := by
  intro n
  induction n with
  | zero => intro S v6_ v7_ v8_ v9_ hC hi hR hz hm; exfalso; omega
  | succ n ih =>
    intro S v6_ v7_ v8_ v9_ hC hi hR hz hm
    have hm : 302 - v9_ < (n : Int) + 1 := by omega
    show okk (f_Ruler_measure_85_b q1 v2 q3 v4 v5 (f_Ruler_measure_85 q1 v2 q3 v4 v5 n) S v6_ v7_ v8_ v9_) _
    unfold f_Ruler_measure_85_b
    have l7 := cx_182 hC v7_.toNat
    refine ok_if (fun _ => ok_chk (by omega) (ok_some ⟨hC, by dsimp only; omega⟩)) (fun c1 => ?_)
    refine ok_chk (by omega) (ok_chk (by omega) (ok_b1 (ok_Sheet_wordAt S q1 _ hC hq1) (fun w5 _ => ?_)))
    refine ok_b2 (ok_Ruler_fillRow S v9_ w5 q3 v4 v5 W (1000 + v9_) z hC hq3 (by omega) (by omega) hv4 hv5 hz hW (by omega) hR) (fun r8 S7 h => ?_)
    refine ok_if (fun _ => ok_chk (by omega) ?_) (fun _ => ok_some ⟨h.1, by dsimp only; omega⟩)
    exact ih S7 v6_ v7_ v8_ (v9_ + 1) h.1 (by omega) (fun k hk => by have := h.2.1 k hk; dsimp only at this; omega) h.2.2 (by omega)
theorem okl_meas60 {b : Nat} (q1 : Nat) (v2 : Int) (q3 : Nat) (v4 v5 W z : Int) (hq1 : shOk q1) (hq3 : shOk q3) (hv2 : 0 ≤ v2 ∧ v2 ≤ 2000) (hv4 : 0 ≤ v4 ∧ v4 ≤ 2000) (hv5 : 0 ≤ v5 ∧ v5 ≤ 1000) (hW : W = max 0 (z - v4)) (hW2 : W ≤ 300) : ∀ (n : Nat) (S : SS) (v6_ v7_ v8_ v9_ : Int), CX b S → (v7_ = W ∧ v6_ ≤ W + v5 ∧ v6_ ≤ 300 ∧ 0 ≤ v9_ ∧ v9_ ≤ 301 ∧ v8_ = v5 + 1) → (∀ k : Nat, (k : Int) < v9_ → gi S 182 k ≤ 1001) → gi S q3 1 = z → 302 - v9_ < (n : Int) → okk (f_Ruler_measure_60 q1 v2 q3 v4 v5 n S v6_ v7_ v8_ v9_) (fun u => CX b u.2 ∧ (0 ≤ u.1 ∧ u.1 ≤ v5 + 1)) := by
  intro n
  induction n with
  | zero => intro S v6_ v7_ v8_ v9_ hC hi hR hz hm; exfalso; omega
  | succ n ih =>
    intro S v6_ v7_ v8_ v9_ hC hi hR hz hm
    have hm : 302 - v9_ < (n : Int) + 1 := by omega
    show okk (f_Ruler_measure_60_b q1 v2 q3 v4 v5 (f_Ruler_measure_60 q1 v2 q3 v4 v5 n) S v6_ v7_ v8_ v9_) _
    unfold f_Ruler_measure_60_b
    refine ok_if (fun c1 => ?_) (fun c1 => ?_)
    · exact okl_meas85 q1 v2 q3 v4 v5 W z hq1 hq3 hv2 hv4 hv5 hW hW2 FU S v6_ v7_ v8_ 1 hC (by omega) (fun k hk => hR k (by omega)) hz (by unfold FU; omega)
    · refine ok_chk (by omega) (ok_lt (fun S1 e => ?_))
      have h1 : CX b S1 := by rw [e]; exact cs_182 hC (by omega) (by omega)
      have hz1 : gi S1 q3 1 = z := by rw [gi_ne e (by omega)]; exact hz
      refine ok_chk (by omega) ?_
      refine ih S1 v6_ v7_ v8_ (v9_ + 1) h1 (by omega) (fun k hk => ?_) hz1 (by omega)
      rw [e, gi_si]
      by_cases q : 182 = 182 ∧ k = v9_.toNat
      · rw [if_pos q]; omega
      · rw [if_neg q]; exact hR k (by omega)
theorem absi_rng (x : Int) : 0 ≤ absi x ∧ x ≤ absi x ∧ 0 - x ≤ absi x := by
  unfold absi
  split
  all_goals omega
theorem ok_Ruler_measure {b : Nat} (S : SS) (q1 : Nat) (v2 : Int) (q3 : Nat) (v4 v5 : Int) (hC : CX b S) (hq1 : shOk q1) (hq3 : shOk q3) (hp0 : 0 ≤ v2 ∧ v2 ≤ 2000) (hp1 : 0 ≤ v4 ∧ v4 ≤ 2000) (hp2 : -1000 ≤ v5 ∧ v5 ≤ 1000) : okk (f_Ruler_measure S q1 v2 q3 v4 v5) (fun u => CX b u.2 ∧ (u.1 ≤ v5 + 1 ∧ (0 ≤ v5 → 0 ≤ u.1))) := by
  have b1 := cx_sh hC hq1
  have b3 := cx_sh hC hq3
  unfold f_Ruler_measure
  refine ok_chk (by omega) (ok_chk (by omega) (ok_chk (by omega) (ok_chk (by omega) (ok_chk (by omega) ?_))))
  have ha := absi_rng (max 0 (gi S q1 1 - v2) - max 0 (gi S q3 1 - v4))
  refine ok_if (fun _ => ok_some ⟨hC, by dsimp only; omega⟩) (fun c1 => ?_)
  refine ok_if (fun c2 => ?_) (fun _ => ok_some ⟨hC, by dsimp only; omega⟩)
  refine ok_mono (okl_meas60 q1 v2 q3 v4 v5 _ _ hq1 hq3 hp0 hp1 (by omega) rfl (by omega) FU S _ _ _ 0 hC (by omega) (fun k hk => by omega) rfl (by unfold FU; omega)) (fun r h => ⟨h.1, h.2.2, fun _ => h.2.1⟩)
theorem ok_Holding_distanceFor {b : Nat} (S : SS) (v1 : Int) (hC : CX b S) : okk (f_Holding_distanceFor S v1) (fun r => -1 ≤ r ∧ r ≤ 300) := by
  unfold f_Holding_distanceFor
  refine ok_if (fun _ => ok_some (by omega)) (fun c1 => ok_if (fun c2 => ok_chk (by omega) (ok_some ?_)) (fun _ => ok_some (by omega)))
  have h : 0 ≤ v1 / gi S 183 5 := Int.ediv_nonneg (by omega) (by omega)
  omega
set_option maxHeartbeats 4000000 in
theorem okl_Holding_listChanges_33 {b : Nat} (q1 : Nat) (hq1 : shOk q1) : ∀ (n : Nat) (S : SS) (v3_ : Int) (v4_ : Int) (v5_ : Int) (v6_ : Int) (v7_ : Int), CX b S → (0 ≤ v3_ ∧ v3_ ≤ v7_ ∧ 0 ≤ v4_ ∧ v4_ ≤ v7_ ∧ -v7_ ≤ v5_ ∧ v5_ ≤ 400 ∧ v6_ ≤ 600 ∧ 0 ≤ v7_ ∧ v7_ ≤ 600) → 601 - v7_ < (n : Int) → okk (f_Holding_listChanges_33 q1 n S v3_ v4_ v5_ v6_ v7_) (fun S1 => CX b S1 ∧ (True)) := by
  intro n
  induction n with
  | zero => intro S v3_ v4_ v5_ v6_ v7_ hC hi hm; exfalso; omega
  | succ n ih =>
    intro S v3_ v4_ v5_ v6_ v7_ hC hi hm
    have hm : 601 - v7_ < (n : Int) + 1 := by omega
    show okk (f_Holding_listChanges_33_b q1 (f_Holding_listChanges_33 q1 n) S v3_ v4_ v5_ v6_ v7_) _
    unfold f_Holding_listChanges_33_b
    refine ok_if (fun c1_y => ?_) (fun c1_y => ?_)
    · exact ok_some ⟨hC, by trivial⟩
    · have b2_y := cx_sh hC (show shOk 184 by decide)
      refine ok_if (fun c3_y => ?_) (fun c3_y => ?_)
      · unfold f_Holding_listChanges_60
        refine ok_if (fun c5_y => ?_) (fun c5_y => ?_)
        · unfold f_Holding_listChanges_84
          unfold f_Holding_listChanges_85
          refine ok_if (fun c8_y => ?_) (fun c8_y => ?_)
          · unfold f_Holding_listChanges_119
            refine ok_chk (by omega) ?_
            refine ok_if (fun c10_y => ?_) (fun c10_y => ?_)
            · unfold f_Holding_listChanges_167
              refine ok_if (fun c12_y => ?_) (fun c12_y => ?_)
              · unfold f_Holding_listChanges_213
                refine ok_b1 (ok_Holding_note S 2 v3_ v4_ hC (by omega) (by omega) (by omega)) (fun S1x13_z h14_y => ?_)
                obtain ⟨h15_y, p16_y⟩ := h14_y
                refine ok_chk (by omega) ?_
                unfold f_Holding_listChanges_224
                refine ok_chk (by omega) ?_
                exact ih S1x13_z v3_ (v4_ + 1) (v5_ + (-1)) v6_ (v7_ + 1) h15_y (by omega) (by omega)
              · refine ok_chk (by omega) ?_
                refine ok_b2 (ok_Ruler_measure S 184 (v3_ + 1) q1 v4_ (v5_ + (-1)) hC (show shOk 184 by decide) hq1 (by omega) (by omega) (by omega)) (fun r4x11_z S3x11_z h18_y => ?_)
                obtain ⟨h19_y, p20_y⟩ := h18_y
                refine ok_if (fun c21_y => ?_) (fun c21_y => ?_)
                · unfold f_Holding_listChanges_213
                  refine ok_b1 (ok_Holding_note S3x11_z 2 v3_ v4_ h19_y (by omega) (by omega) (by omega)) (fun S1x22_z h23_y => ?_)
                  obtain ⟨h24_y, p25_y⟩ := h23_y
                  refine ok_chk (by omega) ?_
                  unfold f_Holding_listChanges_224
                  refine ok_chk (by omega) ?_
                  exact ih S1x22_z v3_ (v4_ + 1) (v5_ + (-1)) v6_ (v7_ + 1) h24_y (by omega) (by omega)
                · refine ok_b1 (ok_Holding_note S3x11_z 1 v3_ v4_ h19_y (by omega) (by omega) (by omega)) (fun S6x11_z h27_y => ?_)
                  obtain ⟨h28_y, p29_y⟩ := h27_y
                  refine ok_chk (by omega) ?_
                  unfold f_Holding_listChanges_224
                  refine ok_chk (by omega) ?_
                  exact ih S6x11_z (v3_ + 1) v4_ (v5_ + (-1)) v6_ (v7_ + 1) h28_y (by omega) (by omega)
            · refine ok_chk (by omega) ?_
              refine ok_chk (by omega) ?_
              refine ok_b2 (ok_Ruler_measure S 184 (v3_ + 1) q1 (v4_ + 1) (v5_ + (-1)) hC (show shOk 184 by decide) hq1 (by omega) (by omega) (by omega)) (fun r5x9_z S4x9_z h31_y => ?_)
              obtain ⟨h32_y, p33_y⟩ := h31_y
              refine ok_if (fun c34_y => ?_) (fun c34_y => ?_)
              · unfold f_Holding_listChanges_167
                have b36_y := cx_sh h32_y (show shOk 184 by decide)
                refine ok_if (fun c37_y => ?_) (fun c37_y => ?_)
                · unfold f_Holding_listChanges_213
                  refine ok_b1 (ok_Holding_note S4x9_z 2 v3_ v4_ h32_y (by omega) (by omega) (by omega)) (fun S1x38_z h39_y => ?_)
                  obtain ⟨h40_y, p41_y⟩ := h39_y
                  refine ok_chk (by omega) ?_
                  unfold f_Holding_listChanges_224
                  refine ok_chk (by omega) ?_
                  exact ih S1x38_z v3_ (v4_ + 1) (v5_ + (-1)) v6_ (v7_ + 1) h40_y (by omega) (by omega)
                · refine ok_chk (by omega) ?_
                  refine ok_b2 (ok_Ruler_measure S4x9_z 184 (v3_ + 1) q1 v4_ (v5_ + (-1)) h32_y (show shOk 184 by decide) hq1 (by omega) (by omega) (by omega)) (fun r4x35_z S3x35_z h43_y => ?_)
                  obtain ⟨h44_y, p45_y⟩ := h43_y
                  refine ok_if (fun c46_y => ?_) (fun c46_y => ?_)
                  · unfold f_Holding_listChanges_213
                    refine ok_b1 (ok_Holding_note S3x35_z 2 v3_ v4_ h44_y (by omega) (by omega) (by omega)) (fun S1x47_z h48_y => ?_)
                    obtain ⟨h49_y, p50_y⟩ := h48_y
                    refine ok_chk (by omega) ?_
                    unfold f_Holding_listChanges_224
                    refine ok_chk (by omega) ?_
                    exact ih S1x47_z v3_ (v4_ + 1) (v5_ + (-1)) v6_ (v7_ + 1) h49_y (by omega) (by omega)
                  · refine ok_b1 (ok_Holding_note S3x35_z 1 v3_ v4_ h44_y (by omega) (by omega) (by omega)) (fun S6x35_z h52_y => ?_)
                    obtain ⟨h53_y, p54_y⟩ := h52_y
                    refine ok_chk (by omega) ?_
                    unfold f_Holding_listChanges_224
                    refine ok_chk (by omega) ?_
                    exact ih S6x35_z (v3_ + 1) v4_ (v5_ + (-1)) v6_ (v7_ + 1) h53_y (by omega) (by omega)
              · refine ok_b1 (ok_Holding_note S4x9_z 0 v3_ v4_ h32_y (by omega) (by omega) (by omega)) (fun S7x9_z h56_y => ?_)
                obtain ⟨h57_y, p58_y⟩ := h56_y
                refine ok_chk (by omega) ?_
                refine ok_chk (by omega) ?_
                unfold f_Holding_listChanges_224
                refine ok_chk (by omega) ?_
                exact ih S7x9_z (v3_ + 1) (v4_ + 1) (v5_ + (-1)) v6_ (v7_ + 1) h57_y (by omega) (by omega)
          · refine ok_b1 (ok_Sheet_wordAt S 184 v3_ hC (show shOk 184 by decide)) (fun w1x7_z h60_y => ?_)
            refine ok_b1 (ok_Sheet_wordAt S q1 v4_ hC hq1) (fun w3x7_z h61_y => ?_)
            refine ok_if (fun c62_y => ?_) (fun c62_y => ?_)
            · refine ok_chk (by omega) ?_
              refine ok_chk (by omega) ?_
              unfold f_Holding_listChanges_224
              refine ok_chk (by omega) ?_
              exact ih S (v3_ + 1) (v4_ + 1) v5_ v6_ (v7_ + 1) hC (by omega) (by omega)
            · unfold f_Holding_listChanges_119
              refine ok_chk (by omega) ?_
              refine ok_if (fun c65_y => ?_) (fun c65_y => ?_)
              · unfold f_Holding_listChanges_167
                refine ok_if (fun c67_y => ?_) (fun c67_y => ?_)
                · unfold f_Holding_listChanges_213
                  refine ok_b1 (ok_Holding_note S 2 v3_ v4_ hC (by omega) (by omega) (by omega)) (fun S1x68_z h69_y => ?_)
                  obtain ⟨h70_y, p71_y⟩ := h69_y
                  refine ok_chk (by omega) ?_
                  unfold f_Holding_listChanges_224
                  refine ok_chk (by omega) ?_
                  exact ih S1x68_z v3_ (v4_ + 1) (v5_ + (-1)) v6_ (v7_ + 1) h70_y (by omega) (by omega)
                · refine ok_chk (by omega) ?_
                  refine ok_b2 (ok_Ruler_measure S 184 (v3_ + 1) q1 v4_ (v5_ + (-1)) hC (show shOk 184 by decide) hq1 (by omega) (by omega) (by omega)) (fun r4x66_z S3x66_z h73_y => ?_)
                  obtain ⟨h74_y, p75_y⟩ := h73_y
                  refine ok_if (fun c76_y => ?_) (fun c76_y => ?_)
                  · unfold f_Holding_listChanges_213
                    refine ok_b1 (ok_Holding_note S3x66_z 2 v3_ v4_ h74_y (by omega) (by omega) (by omega)) (fun S1x77_z h78_y => ?_)
                    obtain ⟨h79_y, p80_y⟩ := h78_y
                    refine ok_chk (by omega) ?_
                    unfold f_Holding_listChanges_224
                    refine ok_chk (by omega) ?_
                    exact ih S1x77_z v3_ (v4_ + 1) (v5_ + (-1)) v6_ (v7_ + 1) h79_y (by omega) (by omega)
                  · refine ok_b1 (ok_Holding_note S3x66_z 1 v3_ v4_ h74_y (by omega) (by omega) (by omega)) (fun S6x66_z h82_y => ?_)
                    obtain ⟨h83_y, p84_y⟩ := h82_y
                    refine ok_chk (by omega) ?_
                    unfold f_Holding_listChanges_224
                    refine ok_chk (by omega) ?_
                    exact ih S6x66_z (v3_ + 1) v4_ (v5_ + (-1)) v6_ (v7_ + 1) h83_y (by omega) (by omega)
              · refine ok_chk (by omega) ?_
                refine ok_chk (by omega) ?_
                refine ok_b2 (ok_Ruler_measure S 184 (v3_ + 1) q1 (v4_ + 1) (v5_ + (-1)) hC (show shOk 184 by decide) hq1 (by omega) (by omega) (by omega)) (fun r5x64_z S4x64_z h86_y => ?_)
                obtain ⟨h87_y, p88_y⟩ := h86_y
                refine ok_if (fun c89_y => ?_) (fun c89_y => ?_)
                · unfold f_Holding_listChanges_167
                  have b91_y := cx_sh h87_y (show shOk 184 by decide)
                  refine ok_if (fun c92_y => ?_) (fun c92_y => ?_)
                  · unfold f_Holding_listChanges_213
                    refine ok_b1 (ok_Holding_note S4x64_z 2 v3_ v4_ h87_y (by omega) (by omega) (by omega)) (fun S1x93_z h94_y => ?_)
                    obtain ⟨h95_y, p96_y⟩ := h94_y
                    refine ok_chk (by omega) ?_
                    unfold f_Holding_listChanges_224
                    refine ok_chk (by omega) ?_
                    exact ih S1x93_z v3_ (v4_ + 1) (v5_ + (-1)) v6_ (v7_ + 1) h95_y (by omega) (by omega)
                  · refine ok_chk (by omega) ?_
                    refine ok_b2 (ok_Ruler_measure S4x64_z 184 (v3_ + 1) q1 v4_ (v5_ + (-1)) h87_y (show shOk 184 by decide) hq1 (by omega) (by omega) (by omega)) (fun r4x90_z S3x90_z h98_y => ?_)
                    obtain ⟨h99_y, p100_y⟩ := h98_y
                    refine ok_if (fun c101_y => ?_) (fun c101_y => ?_)
                    · unfold f_Holding_listChanges_213
                      refine ok_b1 (ok_Holding_note S3x90_z 2 v3_ v4_ h99_y (by omega) (by omega) (by omega)) (fun S1x102_z h103_y => ?_)
                      obtain ⟨h104_y, p105_y⟩ := h103_y
                      refine ok_chk (by omega) ?_
                      unfold f_Holding_listChanges_224
                      refine ok_chk (by omega) ?_
                      exact ih S1x102_z v3_ (v4_ + 1) (v5_ + (-1)) v6_ (v7_ + 1) h104_y (by omega) (by omega)
                    · refine ok_b1 (ok_Holding_note S3x90_z 1 v3_ v4_ h99_y (by omega) (by omega) (by omega)) (fun S6x90_z h107_y => ?_)
                      obtain ⟨h108_y, p109_y⟩ := h107_y
                      refine ok_chk (by omega) ?_
                      unfold f_Holding_listChanges_224
                      refine ok_chk (by omega) ?_
                      exact ih S6x90_z (v3_ + 1) v4_ (v5_ + (-1)) v6_ (v7_ + 1) h108_y (by omega) (by omega)
                · refine ok_b1 (ok_Holding_note S4x64_z 0 v3_ v4_ h87_y (by omega) (by omega) (by omega)) (fun S7x64_z h111_y => ?_)
                  obtain ⟨h112_y, p113_y⟩ := h111_y
                  refine ok_chk (by omega) ?_
                  refine ok_chk (by omega) ?_
                  unfold f_Holding_listChanges_224
                  refine ok_chk (by omega) ?_
                  exact ih S7x64_z (v3_ + 1) (v4_ + 1) (v5_ + (-1)) v6_ (v7_ + 1) h112_y (by omega) (by omega)
        · have b115_y := cx_sh hC hq1
          refine ok_if (fun c116_y => ?_) (fun c116_y => ?_)
          · unfold f_Holding_listChanges_84
            unfold f_Holding_listChanges_85
            refine ok_if (fun c119_y => ?_) (fun c119_y => ?_)
            · unfold f_Holding_listChanges_119
              refine ok_chk (by omega) ?_
              refine ok_if (fun c121_y => ?_) (fun c121_y => ?_)
              · unfold f_Holding_listChanges_167
                refine ok_if (fun c123_y => ?_) (fun c123_y => ?_)
                · unfold f_Holding_listChanges_213
                  refine ok_b1 (ok_Holding_note S 2 v3_ v4_ hC (by omega) (by omega) (by omega)) (fun S1x124_z h125_y => ?_)
                  obtain ⟨h126_y, p127_y⟩ := h125_y
                  refine ok_chk (by omega) ?_
                  unfold f_Holding_listChanges_224
                  refine ok_chk (by omega) ?_
                  exact ih S1x124_z v3_ (v4_ + 1) (v5_ + (-1)) v6_ (v7_ + 1) h126_y (by omega) (by omega)
                · refine ok_chk (by omega) ?_
                  refine ok_b2 (ok_Ruler_measure S 184 (v3_ + 1) q1 v4_ (v5_ + (-1)) hC (show shOk 184 by decide) hq1 (by omega) (by omega) (by omega)) (fun r4x122_z S3x122_z h129_y => ?_)
                  obtain ⟨h130_y, p131_y⟩ := h129_y
                  refine ok_if (fun c132_y => ?_) (fun c132_y => ?_)
                  · unfold f_Holding_listChanges_213
                    refine ok_b1 (ok_Holding_note S3x122_z 2 v3_ v4_ h130_y (by omega) (by omega) (by omega)) (fun S1x133_z h134_y => ?_)
                    obtain ⟨h135_y, p136_y⟩ := h134_y
                    refine ok_chk (by omega) ?_
                    unfold f_Holding_listChanges_224
                    refine ok_chk (by omega) ?_
                    exact ih S1x133_z v3_ (v4_ + 1) (v5_ + (-1)) v6_ (v7_ + 1) h135_y (by omega) (by omega)
                  · refine ok_b1 (ok_Holding_note S3x122_z 1 v3_ v4_ h130_y (by omega) (by omega) (by omega)) (fun S6x122_z h138_y => ?_)
                    obtain ⟨h139_y, p140_y⟩ := h138_y
                    refine ok_chk (by omega) ?_
                    unfold f_Holding_listChanges_224
                    refine ok_chk (by omega) ?_
                    exact ih S6x122_z (v3_ + 1) v4_ (v5_ + (-1)) v6_ (v7_ + 1) h139_y (by omega) (by omega)
              · refine ok_chk (by omega) ?_
                refine ok_chk (by omega) ?_
                refine ok_b2 (ok_Ruler_measure S 184 (v3_ + 1) q1 (v4_ + 1) (v5_ + (-1)) hC (show shOk 184 by decide) hq1 (by omega) (by omega) (by omega)) (fun r5x120_z S4x120_z h142_y => ?_)
                obtain ⟨h143_y, p144_y⟩ := h142_y
                refine ok_if (fun c145_y => ?_) (fun c145_y => ?_)
                · unfold f_Holding_listChanges_167
                  have b147_y := cx_sh h143_y (show shOk 184 by decide)
                  refine ok_if (fun c148_y => ?_) (fun c148_y => ?_)
                  · unfold f_Holding_listChanges_213
                    refine ok_b1 (ok_Holding_note S4x120_z 2 v3_ v4_ h143_y (by omega) (by omega) (by omega)) (fun S1x149_z h150_y => ?_)
                    obtain ⟨h151_y, p152_y⟩ := h150_y
                    refine ok_chk (by omega) ?_
                    unfold f_Holding_listChanges_224
                    refine ok_chk (by omega) ?_
                    exact ih S1x149_z v3_ (v4_ + 1) (v5_ + (-1)) v6_ (v7_ + 1) h151_y (by omega) (by omega)
                  · refine ok_chk (by omega) ?_
                    refine ok_b2 (ok_Ruler_measure S4x120_z 184 (v3_ + 1) q1 v4_ (v5_ + (-1)) h143_y (show shOk 184 by decide) hq1 (by omega) (by omega) (by omega)) (fun r4x146_z S3x146_z h154_y => ?_)
                    obtain ⟨h155_y, p156_y⟩ := h154_y
                    refine ok_if (fun c157_y => ?_) (fun c157_y => ?_)
                    · unfold f_Holding_listChanges_213
                      refine ok_b1 (ok_Holding_note S3x146_z 2 v3_ v4_ h155_y (by omega) (by omega) (by omega)) (fun S1x158_z h159_y => ?_)
                      obtain ⟨h160_y, p161_y⟩ := h159_y
                      refine ok_chk (by omega) ?_
                      unfold f_Holding_listChanges_224
                      refine ok_chk (by omega) ?_
                      exact ih S1x158_z v3_ (v4_ + 1) (v5_ + (-1)) v6_ (v7_ + 1) h160_y (by omega) (by omega)
                    · refine ok_b1 (ok_Holding_note S3x146_z 1 v3_ v4_ h155_y (by omega) (by omega) (by omega)) (fun S6x146_z h163_y => ?_)
                      obtain ⟨h164_y, p165_y⟩ := h163_y
                      refine ok_chk (by omega) ?_
                      unfold f_Holding_listChanges_224
                      refine ok_chk (by omega) ?_
                      exact ih S6x146_z (v3_ + 1) v4_ (v5_ + (-1)) v6_ (v7_ + 1) h164_y (by omega) (by omega)
                · refine ok_b1 (ok_Holding_note S4x120_z 0 v3_ v4_ h143_y (by omega) (by omega) (by omega)) (fun S7x120_z h167_y => ?_)
                  obtain ⟨h168_y, p169_y⟩ := h167_y
                  refine ok_chk (by omega) ?_
                  refine ok_chk (by omega) ?_
                  unfold f_Holding_listChanges_224
                  refine ok_chk (by omega) ?_
                  exact ih S7x120_z (v3_ + 1) (v4_ + 1) (v5_ + (-1)) v6_ (v7_ + 1) h168_y (by omega) (by omega)
            · refine ok_b1 (ok_Sheet_wordAt S 184 v3_ hC (show shOk 184 by decide)) (fun w1x118_z h171_y => ?_)
              refine ok_b1 (ok_Sheet_wordAt S q1 v4_ hC hq1) (fun w3x118_z h172_y => ?_)
              refine ok_if (fun c173_y => ?_) (fun c173_y => ?_)
              · refine ok_chk (by omega) ?_
                refine ok_chk (by omega) ?_
                unfold f_Holding_listChanges_224
                refine ok_chk (by omega) ?_
                exact ih S (v3_ + 1) (v4_ + 1) v5_ v6_ (v7_ + 1) hC (by omega) (by omega)
              · unfold f_Holding_listChanges_119
                refine ok_chk (by omega) ?_
                refine ok_if (fun c176_y => ?_) (fun c176_y => ?_)
                · unfold f_Holding_listChanges_167
                  refine ok_if (fun c178_y => ?_) (fun c178_y => ?_)
                  · unfold f_Holding_listChanges_213
                    refine ok_b1 (ok_Holding_note S 2 v3_ v4_ hC (by omega) (by omega) (by omega)) (fun S1x179_z h180_y => ?_)
                    obtain ⟨h181_y, p182_y⟩ := h180_y
                    refine ok_chk (by omega) ?_
                    unfold f_Holding_listChanges_224
                    refine ok_chk (by omega) ?_
                    exact ih S1x179_z v3_ (v4_ + 1) (v5_ + (-1)) v6_ (v7_ + 1) h181_y (by omega) (by omega)
                  · refine ok_chk (by omega) ?_
                    refine ok_b2 (ok_Ruler_measure S 184 (v3_ + 1) q1 v4_ (v5_ + (-1)) hC (show shOk 184 by decide) hq1 (by omega) (by omega) (by omega)) (fun r4x177_z S3x177_z h184_y => ?_)
                    obtain ⟨h185_y, p186_y⟩ := h184_y
                    refine ok_if (fun c187_y => ?_) (fun c187_y => ?_)
                    · unfold f_Holding_listChanges_213
                      refine ok_b1 (ok_Holding_note S3x177_z 2 v3_ v4_ h185_y (by omega) (by omega) (by omega)) (fun S1x188_z h189_y => ?_)
                      obtain ⟨h190_y, p191_y⟩ := h189_y
                      refine ok_chk (by omega) ?_
                      unfold f_Holding_listChanges_224
                      refine ok_chk (by omega) ?_
                      exact ih S1x188_z v3_ (v4_ + 1) (v5_ + (-1)) v6_ (v7_ + 1) h190_y (by omega) (by omega)
                    · refine ok_b1 (ok_Holding_note S3x177_z 1 v3_ v4_ h185_y (by omega) (by omega) (by omega)) (fun S6x177_z h193_y => ?_)
                      obtain ⟨h194_y, p195_y⟩ := h193_y
                      refine ok_chk (by omega) ?_
                      unfold f_Holding_listChanges_224
                      refine ok_chk (by omega) ?_
                      exact ih S6x177_z (v3_ + 1) v4_ (v5_ + (-1)) v6_ (v7_ + 1) h194_y (by omega) (by omega)
                · refine ok_chk (by omega) ?_
                  refine ok_chk (by omega) ?_
                  refine ok_b2 (ok_Ruler_measure S 184 (v3_ + 1) q1 (v4_ + 1) (v5_ + (-1)) hC (show shOk 184 by decide) hq1 (by omega) (by omega) (by omega)) (fun r5x175_z S4x175_z h197_y => ?_)
                  obtain ⟨h198_y, p199_y⟩ := h197_y
                  refine ok_if (fun c200_y => ?_) (fun c200_y => ?_)
                  · unfold f_Holding_listChanges_167
                    have b202_y := cx_sh h198_y (show shOk 184 by decide)
                    refine ok_if (fun c203_y => ?_) (fun c203_y => ?_)
                    · unfold f_Holding_listChanges_213
                      refine ok_b1 (ok_Holding_note S4x175_z 2 v3_ v4_ h198_y (by omega) (by omega) (by omega)) (fun S1x204_z h205_y => ?_)
                      obtain ⟨h206_y, p207_y⟩ := h205_y
                      refine ok_chk (by omega) ?_
                      unfold f_Holding_listChanges_224
                      refine ok_chk (by omega) ?_
                      exact ih S1x204_z v3_ (v4_ + 1) (v5_ + (-1)) v6_ (v7_ + 1) h206_y (by omega) (by omega)
                    · refine ok_chk (by omega) ?_
                      refine ok_b2 (ok_Ruler_measure S4x175_z 184 (v3_ + 1) q1 v4_ (v5_ + (-1)) h198_y (show shOk 184 by decide) hq1 (by omega) (by omega) (by omega)) (fun r4x201_z S3x201_z h209_y => ?_)
                      obtain ⟨h210_y, p211_y⟩ := h209_y
                      refine ok_if (fun c212_y => ?_) (fun c212_y => ?_)
                      · unfold f_Holding_listChanges_213
                        refine ok_b1 (ok_Holding_note S3x201_z 2 v3_ v4_ h210_y (by omega) (by omega) (by omega)) (fun S1x213_z h214_y => ?_)
                        obtain ⟨h215_y, p216_y⟩ := h214_y
                        refine ok_chk (by omega) ?_
                        unfold f_Holding_listChanges_224
                        refine ok_chk (by omega) ?_
                        exact ih S1x213_z v3_ (v4_ + 1) (v5_ + (-1)) v6_ (v7_ + 1) h215_y (by omega) (by omega)
                      · refine ok_b1 (ok_Holding_note S3x201_z 1 v3_ v4_ h210_y (by omega) (by omega) (by omega)) (fun S6x201_z h218_y => ?_)
                        obtain ⟨h219_y, p220_y⟩ := h218_y
                        refine ok_chk (by omega) ?_
                        unfold f_Holding_listChanges_224
                        refine ok_chk (by omega) ?_
                        exact ih S6x201_z (v3_ + 1) v4_ (v5_ + (-1)) v6_ (v7_ + 1) h219_y (by omega) (by omega)
                  · refine ok_b1 (ok_Holding_note S4x175_z 0 v3_ v4_ h198_y (by omega) (by omega) (by omega)) (fun S7x175_z h222_y => ?_)
                    obtain ⟨h223_y, p224_y⟩ := h222_y
                    refine ok_chk (by omega) ?_
                    refine ok_chk (by omega) ?_
                    unfold f_Holding_listChanges_224
                    refine ok_chk (by omega) ?_
                    exact ih S7x175_z (v3_ + 1) (v4_ + 1) (v5_ + (-1)) v6_ (v7_ + 1) h223_y (by omega) (by omega)
          · unfold f_Holding_listChanges_85
            refine ok_if (fun c227_y => ?_) (fun c227_y => ?_)
            · unfold f_Holding_listChanges_119
              refine ok_chk (by omega) ?_
              refine ok_if (fun c229_y => ?_) (fun c229_y => ?_)
              · unfold f_Holding_listChanges_167
                refine ok_if (fun c231_y => ?_) (fun c231_y => ?_)
                · unfold f_Holding_listChanges_213
                  refine ok_b1 (ok_Holding_note S 2 v3_ v4_ hC (by omega) (by omega) (by omega)) (fun S1x232_z h233_y => ?_)
                  obtain ⟨h234_y, p235_y⟩ := h233_y
                  refine ok_chk (by omega) ?_
                  unfold f_Holding_listChanges_224
                  refine ok_chk (by omega) ?_
                  exact ih S1x232_z v3_ (v4_ + 1) (v5_ + (-1)) v6_ (v7_ + 1) h234_y (by omega) (by omega)
                · refine ok_chk (by omega) ?_
                  refine ok_b2 (ok_Ruler_measure S 184 (v3_ + 1) q1 v4_ (v5_ + (-1)) hC (show shOk 184 by decide) hq1 (by omega) (by omega) (by omega)) (fun r4x230_z S3x230_z h237_y => ?_)
                  obtain ⟨h238_y, p239_y⟩ := h237_y
                  refine ok_if (fun c240_y => ?_) (fun c240_y => ?_)
                  · unfold f_Holding_listChanges_213
                    refine ok_b1 (ok_Holding_note S3x230_z 2 v3_ v4_ h238_y (by omega) (by omega) (by omega)) (fun S1x241_z h242_y => ?_)
                    obtain ⟨h243_y, p244_y⟩ := h242_y
                    refine ok_chk (by omega) ?_
                    unfold f_Holding_listChanges_224
                    refine ok_chk (by omega) ?_
                    exact ih S1x241_z v3_ (v4_ + 1) (v5_ + (-1)) v6_ (v7_ + 1) h243_y (by omega) (by omega)
                  · refine ok_b1 (ok_Holding_note S3x230_z 1 v3_ v4_ h238_y (by omega) (by omega) (by omega)) (fun S6x230_z h246_y => ?_)
                    obtain ⟨h247_y, p248_y⟩ := h246_y
                    refine ok_chk (by omega) ?_
                    unfold f_Holding_listChanges_224
                    refine ok_chk (by omega) ?_
                    exact ih S6x230_z (v3_ + 1) v4_ (v5_ + (-1)) v6_ (v7_ + 1) h247_y (by omega) (by omega)
              · refine ok_chk (by omega) ?_
                refine ok_chk (by omega) ?_
                refine ok_b2 (ok_Ruler_measure S 184 (v3_ + 1) q1 (v4_ + 1) (v5_ + (-1)) hC (show shOk 184 by decide) hq1 (by omega) (by omega) (by omega)) (fun r5x228_z S4x228_z h250_y => ?_)
                obtain ⟨h251_y, p252_y⟩ := h250_y
                refine ok_if (fun c253_y => ?_) (fun c253_y => ?_)
                · unfold f_Holding_listChanges_167
                  have b255_y := cx_sh h251_y (show shOk 184 by decide)
                  refine ok_if (fun c256_y => ?_) (fun c256_y => ?_)
                  · unfold f_Holding_listChanges_213
                    refine ok_b1 (ok_Holding_note S4x228_z 2 v3_ v4_ h251_y (by omega) (by omega) (by omega)) (fun S1x257_z h258_y => ?_)
                    obtain ⟨h259_y, p260_y⟩ := h258_y
                    refine ok_chk (by omega) ?_
                    unfold f_Holding_listChanges_224
                    refine ok_chk (by omega) ?_
                    exact ih S1x257_z v3_ (v4_ + 1) (v5_ + (-1)) v6_ (v7_ + 1) h259_y (by omega) (by omega)
                  · refine ok_chk (by omega) ?_
                    refine ok_b2 (ok_Ruler_measure S4x228_z 184 (v3_ + 1) q1 v4_ (v5_ + (-1)) h251_y (show shOk 184 by decide) hq1 (by omega) (by omega) (by omega)) (fun r4x254_z S3x254_z h262_y => ?_)
                    obtain ⟨h263_y, p264_y⟩ := h262_y
                    refine ok_if (fun c265_y => ?_) (fun c265_y => ?_)
                    · unfold f_Holding_listChanges_213
                      refine ok_b1 (ok_Holding_note S3x254_z 2 v3_ v4_ h263_y (by omega) (by omega) (by omega)) (fun S1x266_z h267_y => ?_)
                      obtain ⟨h268_y, p269_y⟩ := h267_y
                      refine ok_chk (by omega) ?_
                      unfold f_Holding_listChanges_224
                      refine ok_chk (by omega) ?_
                      exact ih S1x266_z v3_ (v4_ + 1) (v5_ + (-1)) v6_ (v7_ + 1) h268_y (by omega) (by omega)
                    · refine ok_b1 (ok_Holding_note S3x254_z 1 v3_ v4_ h263_y (by omega) (by omega) (by omega)) (fun S6x254_z h271_y => ?_)
                      obtain ⟨h272_y, p273_y⟩ := h271_y
                      refine ok_chk (by omega) ?_
                      unfold f_Holding_listChanges_224
                      refine ok_chk (by omega) ?_
                      exact ih S6x254_z (v3_ + 1) v4_ (v5_ + (-1)) v6_ (v7_ + 1) h272_y (by omega) (by omega)
                · refine ok_b1 (ok_Holding_note S4x228_z 0 v3_ v4_ h251_y (by omega) (by omega) (by omega)) (fun S7x228_z h275_y => ?_)
                  obtain ⟨h276_y, p277_y⟩ := h275_y
                  refine ok_chk (by omega) ?_
                  refine ok_chk (by omega) ?_
                  unfold f_Holding_listChanges_224
                  refine ok_chk (by omega) ?_
                  exact ih S7x228_z (v3_ + 1) (v4_ + 1) (v5_ + (-1)) v6_ (v7_ + 1) h276_y (by omega) (by omega)
            · refine ok_b1 (ok_Sheet_wordAt S 184 v3_ hC (show shOk 184 by decide)) (fun w1x226_z h279_y => ?_)
              refine ok_b1 (ok_Sheet_wordAt S q1 v4_ hC hq1) (fun w3x226_z h280_y => ?_)
              refine ok_if (fun c281_y => ?_) (fun c281_y => ?_)
              · refine ok_chk (by omega) ?_
                refine ok_chk (by omega) ?_
                unfold f_Holding_listChanges_224
                refine ok_chk (by omega) ?_
                exact ih S (v3_ + 1) (v4_ + 1) v5_ v6_ (v7_ + 1) hC (by omega) (by omega)
              · unfold f_Holding_listChanges_119
                refine ok_chk (by omega) ?_
                refine ok_if (fun c284_y => ?_) (fun c284_y => ?_)
                · unfold f_Holding_listChanges_167
                  refine ok_if (fun c286_y => ?_) (fun c286_y => ?_)
                  · unfold f_Holding_listChanges_213
                    refine ok_b1 (ok_Holding_note S 2 v3_ v4_ hC (by omega) (by omega) (by omega)) (fun S1x287_z h288_y => ?_)
                    obtain ⟨h289_y, p290_y⟩ := h288_y
                    refine ok_chk (by omega) ?_
                    unfold f_Holding_listChanges_224
                    refine ok_chk (by omega) ?_
                    exact ih S1x287_z v3_ (v4_ + 1) (v5_ + (-1)) v6_ (v7_ + 1) h289_y (by omega) (by omega)
                  · refine ok_chk (by omega) ?_
                    refine ok_b2 (ok_Ruler_measure S 184 (v3_ + 1) q1 v4_ (v5_ + (-1)) hC (show shOk 184 by decide) hq1 (by omega) (by omega) (by omega)) (fun r4x285_z S3x285_z h292_y => ?_)
                    obtain ⟨h293_y, p294_y⟩ := h292_y
                    refine ok_if (fun c295_y => ?_) (fun c295_y => ?_)
                    · unfold f_Holding_listChanges_213
                      refine ok_b1 (ok_Holding_note S3x285_z 2 v3_ v4_ h293_y (by omega) (by omega) (by omega)) (fun S1x296_z h297_y => ?_)
                      obtain ⟨h298_y, p299_y⟩ := h297_y
                      refine ok_chk (by omega) ?_
                      unfold f_Holding_listChanges_224
                      refine ok_chk (by omega) ?_
                      exact ih S1x296_z v3_ (v4_ + 1) (v5_ + (-1)) v6_ (v7_ + 1) h298_y (by omega) (by omega)
                    · refine ok_b1 (ok_Holding_note S3x285_z 1 v3_ v4_ h293_y (by omega) (by omega) (by omega)) (fun S6x285_z h301_y => ?_)
                      obtain ⟨h302_y, p303_y⟩ := h301_y
                      refine ok_chk (by omega) ?_
                      unfold f_Holding_listChanges_224
                      refine ok_chk (by omega) ?_
                      exact ih S6x285_z (v3_ + 1) v4_ (v5_ + (-1)) v6_ (v7_ + 1) h302_y (by omega) (by omega)
                · refine ok_chk (by omega) ?_
                  refine ok_chk (by omega) ?_
                  refine ok_b2 (ok_Ruler_measure S 184 (v3_ + 1) q1 (v4_ + 1) (v5_ + (-1)) hC (show shOk 184 by decide) hq1 (by omega) (by omega) (by omega)) (fun r5x283_z S4x283_z h305_y => ?_)
                  obtain ⟨h306_y, p307_y⟩ := h305_y
                  refine ok_if (fun c308_y => ?_) (fun c308_y => ?_)
                  · unfold f_Holding_listChanges_167
                    have b310_y := cx_sh h306_y (show shOk 184 by decide)
                    refine ok_if (fun c311_y => ?_) (fun c311_y => ?_)
                    · unfold f_Holding_listChanges_213
                      refine ok_b1 (ok_Holding_note S4x283_z 2 v3_ v4_ h306_y (by omega) (by omega) (by omega)) (fun S1x312_z h313_y => ?_)
                      obtain ⟨h314_y, p315_y⟩ := h313_y
                      refine ok_chk (by omega) ?_
                      unfold f_Holding_listChanges_224
                      refine ok_chk (by omega) ?_
                      exact ih S1x312_z v3_ (v4_ + 1) (v5_ + (-1)) v6_ (v7_ + 1) h314_y (by omega) (by omega)
                    · refine ok_chk (by omega) ?_
                      refine ok_b2 (ok_Ruler_measure S4x283_z 184 (v3_ + 1) q1 v4_ (v5_ + (-1)) h306_y (show shOk 184 by decide) hq1 (by omega) (by omega) (by omega)) (fun r4x309_z S3x309_z h317_y => ?_)
                      obtain ⟨h318_y, p319_y⟩ := h317_y
                      refine ok_if (fun c320_y => ?_) (fun c320_y => ?_)
                      · unfold f_Holding_listChanges_213
                        refine ok_b1 (ok_Holding_note S3x309_z 2 v3_ v4_ h318_y (by omega) (by omega) (by omega)) (fun S1x321_z h322_y => ?_)
                        obtain ⟨h323_y, p324_y⟩ := h322_y
                        refine ok_chk (by omega) ?_
                        unfold f_Holding_listChanges_224
                        refine ok_chk (by omega) ?_
                        exact ih S1x321_z v3_ (v4_ + 1) (v5_ + (-1)) v6_ (v7_ + 1) h323_y (by omega) (by omega)
                      · refine ok_b1 (ok_Holding_note S3x309_z 1 v3_ v4_ h318_y (by omega) (by omega) (by omega)) (fun S6x309_z h326_y => ?_)
                        obtain ⟨h327_y, p328_y⟩ := h326_y
                        refine ok_chk (by omega) ?_
                        unfold f_Holding_listChanges_224
                        refine ok_chk (by omega) ?_
                        exact ih S6x309_z (v3_ + 1) v4_ (v5_ + (-1)) v6_ (v7_ + 1) h327_y (by omega) (by omega)
                  · refine ok_b1 (ok_Holding_note S4x283_z 0 v3_ v4_ h306_y (by omega) (by omega) (by omega)) (fun S7x283_z h330_y => ?_)
                    obtain ⟨h331_y, p332_y⟩ := h330_y
                    refine ok_chk (by omega) ?_
                    refine ok_chk (by omega) ?_
                    unfold f_Holding_listChanges_224
                    refine ok_chk (by omega) ?_
                    exact ih S7x283_z (v3_ + 1) (v4_ + 1) (v5_ + (-1)) v6_ (v7_ + 1) h331_y (by omega) (by omega)
      · have b334_y := cx_sh hC hq1
        refine ok_if (fun c335_y => ?_) (fun c335_y => ?_)
        · exact ok_some ⟨hC, by trivial⟩
        · unfold f_Holding_listChanges_60
          refine ok_if (fun c337_y => ?_) (fun c337_y => ?_)
          · unfold f_Holding_listChanges_84
            unfold f_Holding_listChanges_85
            refine ok_if (fun c340_y => ?_) (fun c340_y => ?_)
            · unfold f_Holding_listChanges_119
              refine ok_chk (by omega) ?_
              refine ok_if (fun c342_y => ?_) (fun c342_y => ?_)
              · unfold f_Holding_listChanges_167
                refine ok_if (fun c344_y => ?_) (fun c344_y => ?_)
                · unfold f_Holding_listChanges_213
                  refine ok_b1 (ok_Holding_note S 2 v3_ v4_ hC (by omega) (by omega) (by omega)) (fun S1x345_z h346_y => ?_)
                  obtain ⟨h347_y, p348_y⟩ := h346_y
                  refine ok_chk (by omega) ?_
                  unfold f_Holding_listChanges_224
                  refine ok_chk (by omega) ?_
                  exact ih S1x345_z v3_ (v4_ + 1) (v5_ + (-1)) v6_ (v7_ + 1) h347_y (by omega) (by omega)
                · refine ok_chk (by omega) ?_
                  refine ok_b2 (ok_Ruler_measure S 184 (v3_ + 1) q1 v4_ (v5_ + (-1)) hC (show shOk 184 by decide) hq1 (by omega) (by omega) (by omega)) (fun r4x343_z S3x343_z h350_y => ?_)
                  obtain ⟨h351_y, p352_y⟩ := h350_y
                  refine ok_if (fun c353_y => ?_) (fun c353_y => ?_)
                  · unfold f_Holding_listChanges_213
                    refine ok_b1 (ok_Holding_note S3x343_z 2 v3_ v4_ h351_y (by omega) (by omega) (by omega)) (fun S1x354_z h355_y => ?_)
                    obtain ⟨h356_y, p357_y⟩ := h355_y
                    refine ok_chk (by omega) ?_
                    unfold f_Holding_listChanges_224
                    refine ok_chk (by omega) ?_
                    exact ih S1x354_z v3_ (v4_ + 1) (v5_ + (-1)) v6_ (v7_ + 1) h356_y (by omega) (by omega)
                  · refine ok_b1 (ok_Holding_note S3x343_z 1 v3_ v4_ h351_y (by omega) (by omega) (by omega)) (fun S6x343_z h359_y => ?_)
                    obtain ⟨h360_y, p361_y⟩ := h359_y
                    refine ok_chk (by omega) ?_
                    unfold f_Holding_listChanges_224
                    refine ok_chk (by omega) ?_
                    exact ih S6x343_z (v3_ + 1) v4_ (v5_ + (-1)) v6_ (v7_ + 1) h360_y (by omega) (by omega)
              · refine ok_chk (by omega) ?_
                refine ok_chk (by omega) ?_
                refine ok_b2 (ok_Ruler_measure S 184 (v3_ + 1) q1 (v4_ + 1) (v5_ + (-1)) hC (show shOk 184 by decide) hq1 (by omega) (by omega) (by omega)) (fun r5x341_z S4x341_z h363_y => ?_)
                obtain ⟨h364_y, p365_y⟩ := h363_y
                refine ok_if (fun c366_y => ?_) (fun c366_y => ?_)
                · unfold f_Holding_listChanges_167
                  have b368_y := cx_sh h364_y (show shOk 184 by decide)
                  refine ok_if (fun c369_y => ?_) (fun c369_y => ?_)
                  · unfold f_Holding_listChanges_213
                    refine ok_b1 (ok_Holding_note S4x341_z 2 v3_ v4_ h364_y (by omega) (by omega) (by omega)) (fun S1x370_z h371_y => ?_)
                    obtain ⟨h372_y, p373_y⟩ := h371_y
                    refine ok_chk (by omega) ?_
                    unfold f_Holding_listChanges_224
                    refine ok_chk (by omega) ?_
                    exact ih S1x370_z v3_ (v4_ + 1) (v5_ + (-1)) v6_ (v7_ + 1) h372_y (by omega) (by omega)
                  · refine ok_chk (by omega) ?_
                    refine ok_b2 (ok_Ruler_measure S4x341_z 184 (v3_ + 1) q1 v4_ (v5_ + (-1)) h364_y (show shOk 184 by decide) hq1 (by omega) (by omega) (by omega)) (fun r4x367_z S3x367_z h375_y => ?_)
                    obtain ⟨h376_y, p377_y⟩ := h375_y
                    refine ok_if (fun c378_y => ?_) (fun c378_y => ?_)
                    · unfold f_Holding_listChanges_213
                      refine ok_b1 (ok_Holding_note S3x367_z 2 v3_ v4_ h376_y (by omega) (by omega) (by omega)) (fun S1x379_z h380_y => ?_)
                      obtain ⟨h381_y, p382_y⟩ := h380_y
                      refine ok_chk (by omega) ?_
                      unfold f_Holding_listChanges_224
                      refine ok_chk (by omega) ?_
                      exact ih S1x379_z v3_ (v4_ + 1) (v5_ + (-1)) v6_ (v7_ + 1) h381_y (by omega) (by omega)
                    · refine ok_b1 (ok_Holding_note S3x367_z 1 v3_ v4_ h376_y (by omega) (by omega) (by omega)) (fun S6x367_z h384_y => ?_)
                      obtain ⟨h385_y, p386_y⟩ := h384_y
                      refine ok_chk (by omega) ?_
                      unfold f_Holding_listChanges_224
                      refine ok_chk (by omega) ?_
                      exact ih S6x367_z (v3_ + 1) v4_ (v5_ + (-1)) v6_ (v7_ + 1) h385_y (by omega) (by omega)
                · refine ok_b1 (ok_Holding_note S4x341_z 0 v3_ v4_ h364_y (by omega) (by omega) (by omega)) (fun S7x341_z h388_y => ?_)
                  obtain ⟨h389_y, p390_y⟩ := h388_y
                  refine ok_chk (by omega) ?_
                  refine ok_chk (by omega) ?_
                  unfold f_Holding_listChanges_224
                  refine ok_chk (by omega) ?_
                  exact ih S7x341_z (v3_ + 1) (v4_ + 1) (v5_ + (-1)) v6_ (v7_ + 1) h389_y (by omega) (by omega)
            · refine ok_b1 (ok_Sheet_wordAt S 184 v3_ hC (show shOk 184 by decide)) (fun w1x339_z h392_y => ?_)
              refine ok_b1 (ok_Sheet_wordAt S q1 v4_ hC hq1) (fun w3x339_z h393_y => ?_)
              refine ok_if (fun c394_y => ?_) (fun c394_y => ?_)
              · refine ok_chk (by omega) ?_
                refine ok_chk (by omega) ?_
                unfold f_Holding_listChanges_224
                refine ok_chk (by omega) ?_
                exact ih S (v3_ + 1) (v4_ + 1) v5_ v6_ (v7_ + 1) hC (by omega) (by omega)
              · unfold f_Holding_listChanges_119
                refine ok_chk (by omega) ?_
                refine ok_if (fun c397_y => ?_) (fun c397_y => ?_)
                · unfold f_Holding_listChanges_167
                  refine ok_if (fun c399_y => ?_) (fun c399_y => ?_)
                  · unfold f_Holding_listChanges_213
                    refine ok_b1 (ok_Holding_note S 2 v3_ v4_ hC (by omega) (by omega) (by omega)) (fun S1x400_z h401_y => ?_)
                    obtain ⟨h402_y, p403_y⟩ := h401_y
                    refine ok_chk (by omega) ?_
                    unfold f_Holding_listChanges_224
                    refine ok_chk (by omega) ?_
                    exact ih S1x400_z v3_ (v4_ + 1) (v5_ + (-1)) v6_ (v7_ + 1) h402_y (by omega) (by omega)
                  · refine ok_chk (by omega) ?_
                    refine ok_b2 (ok_Ruler_measure S 184 (v3_ + 1) q1 v4_ (v5_ + (-1)) hC (show shOk 184 by decide) hq1 (by omega) (by omega) (by omega)) (fun r4x398_z S3x398_z h405_y => ?_)
                    obtain ⟨h406_y, p407_y⟩ := h405_y
                    refine ok_if (fun c408_y => ?_) (fun c408_y => ?_)
                    · unfold f_Holding_listChanges_213
                      refine ok_b1 (ok_Holding_note S3x398_z 2 v3_ v4_ h406_y (by omega) (by omega) (by omega)) (fun S1x409_z h410_y => ?_)
                      obtain ⟨h411_y, p412_y⟩ := h410_y
                      refine ok_chk (by omega) ?_
                      unfold f_Holding_listChanges_224
                      refine ok_chk (by omega) ?_
                      exact ih S1x409_z v3_ (v4_ + 1) (v5_ + (-1)) v6_ (v7_ + 1) h411_y (by omega) (by omega)
                    · refine ok_b1 (ok_Holding_note S3x398_z 1 v3_ v4_ h406_y (by omega) (by omega) (by omega)) (fun S6x398_z h414_y => ?_)
                      obtain ⟨h415_y, p416_y⟩ := h414_y
                      refine ok_chk (by omega) ?_
                      unfold f_Holding_listChanges_224
                      refine ok_chk (by omega) ?_
                      exact ih S6x398_z (v3_ + 1) v4_ (v5_ + (-1)) v6_ (v7_ + 1) h415_y (by omega) (by omega)
                · refine ok_chk (by omega) ?_
                  refine ok_chk (by omega) ?_
                  refine ok_b2 (ok_Ruler_measure S 184 (v3_ + 1) q1 (v4_ + 1) (v5_ + (-1)) hC (show shOk 184 by decide) hq1 (by omega) (by omega) (by omega)) (fun r5x396_z S4x396_z h418_y => ?_)
                  obtain ⟨h419_y, p420_y⟩ := h418_y
                  refine ok_if (fun c421_y => ?_) (fun c421_y => ?_)
                  · unfold f_Holding_listChanges_167
                    have b423_y := cx_sh h419_y (show shOk 184 by decide)
                    refine ok_if (fun c424_y => ?_) (fun c424_y => ?_)
                    · unfold f_Holding_listChanges_213
                      refine ok_b1 (ok_Holding_note S4x396_z 2 v3_ v4_ h419_y (by omega) (by omega) (by omega)) (fun S1x425_z h426_y => ?_)
                      obtain ⟨h427_y, p428_y⟩ := h426_y
                      refine ok_chk (by omega) ?_
                      unfold f_Holding_listChanges_224
                      refine ok_chk (by omega) ?_
                      exact ih S1x425_z v3_ (v4_ + 1) (v5_ + (-1)) v6_ (v7_ + 1) h427_y (by omega) (by omega)
                    · refine ok_chk (by omega) ?_
                      refine ok_b2 (ok_Ruler_measure S4x396_z 184 (v3_ + 1) q1 v4_ (v5_ + (-1)) h419_y (show shOk 184 by decide) hq1 (by omega) (by omega) (by omega)) (fun r4x422_z S3x422_z h430_y => ?_)
                      obtain ⟨h431_y, p432_y⟩ := h430_y
                      refine ok_if (fun c433_y => ?_) (fun c433_y => ?_)
                      · unfold f_Holding_listChanges_213
                        refine ok_b1 (ok_Holding_note S3x422_z 2 v3_ v4_ h431_y (by omega) (by omega) (by omega)) (fun S1x434_z h435_y => ?_)
                        obtain ⟨h436_y, p437_y⟩ := h435_y
                        refine ok_chk (by omega) ?_
                        unfold f_Holding_listChanges_224
                        refine ok_chk (by omega) ?_
                        exact ih S1x434_z v3_ (v4_ + 1) (v5_ + (-1)) v6_ (v7_ + 1) h436_y (by omega) (by omega)
                      · refine ok_b1 (ok_Holding_note S3x422_z 1 v3_ v4_ h431_y (by omega) (by omega) (by omega)) (fun S6x422_z h439_y => ?_)
                        obtain ⟨h440_y, p441_y⟩ := h439_y
                        refine ok_chk (by omega) ?_
                        unfold f_Holding_listChanges_224
                        refine ok_chk (by omega) ?_
                        exact ih S6x422_z (v3_ + 1) v4_ (v5_ + (-1)) v6_ (v7_ + 1) h440_y (by omega) (by omega)
                  · refine ok_b1 (ok_Holding_note S4x396_z 0 v3_ v4_ h419_y (by omega) (by omega) (by omega)) (fun S7x396_z h443_y => ?_)
                    obtain ⟨h444_y, p445_y⟩ := h443_y
                    refine ok_chk (by omega) ?_
                    refine ok_chk (by omega) ?_
                    unfold f_Holding_listChanges_224
                    refine ok_chk (by omega) ?_
                    exact ih S7x396_z (v3_ + 1) (v4_ + 1) (v5_ + (-1)) v6_ (v7_ + 1) h444_y (by omega) (by omega)
          · refine ok_if (fun c447_y => ?_) (fun c447_y => ?_)
            · unfold f_Holding_listChanges_84
              unfold f_Holding_listChanges_85
              refine ok_if (fun c450_y => ?_) (fun c450_y => ?_)
              · unfold f_Holding_listChanges_119
                refine ok_chk (by omega) ?_
                refine ok_if (fun c452_y => ?_) (fun c452_y => ?_)
                · unfold f_Holding_listChanges_167
                  refine ok_if (fun c454_y => ?_) (fun c454_y => ?_)
                  · unfold f_Holding_listChanges_213
                    refine ok_b1 (ok_Holding_note S 2 v3_ v4_ hC (by omega) (by omega) (by omega)) (fun S1x455_z h456_y => ?_)
                    obtain ⟨h457_y, p458_y⟩ := h456_y
                    refine ok_chk (by omega) ?_
                    unfold f_Holding_listChanges_224
                    refine ok_chk (by omega) ?_
                    exact ih S1x455_z v3_ (v4_ + 1) (v5_ + (-1)) v6_ (v7_ + 1) h457_y (by omega) (by omega)
                  · refine ok_chk (by omega) ?_
                    refine ok_b2 (ok_Ruler_measure S 184 (v3_ + 1) q1 v4_ (v5_ + (-1)) hC (show shOk 184 by decide) hq1 (by omega) (by omega) (by omega)) (fun r4x453_z S3x453_z h460_y => ?_)
                    obtain ⟨h461_y, p462_y⟩ := h460_y
                    refine ok_if (fun c463_y => ?_) (fun c463_y => ?_)
                    · unfold f_Holding_listChanges_213
                      refine ok_b1 (ok_Holding_note S3x453_z 2 v3_ v4_ h461_y (by omega) (by omega) (by omega)) (fun S1x464_z h465_y => ?_)
                      obtain ⟨h466_y, p467_y⟩ := h465_y
                      refine ok_chk (by omega) ?_
                      unfold f_Holding_listChanges_224
                      refine ok_chk (by omega) ?_
                      exact ih S1x464_z v3_ (v4_ + 1) (v5_ + (-1)) v6_ (v7_ + 1) h466_y (by omega) (by omega)
                    · refine ok_b1 (ok_Holding_note S3x453_z 1 v3_ v4_ h461_y (by omega) (by omega) (by omega)) (fun S6x453_z h469_y => ?_)
                      obtain ⟨h470_y, p471_y⟩ := h469_y
                      refine ok_chk (by omega) ?_
                      unfold f_Holding_listChanges_224
                      refine ok_chk (by omega) ?_
                      exact ih S6x453_z (v3_ + 1) v4_ (v5_ + (-1)) v6_ (v7_ + 1) h470_y (by omega) (by omega)
                · refine ok_chk (by omega) ?_
                  refine ok_chk (by omega) ?_
                  refine ok_b2 (ok_Ruler_measure S 184 (v3_ + 1) q1 (v4_ + 1) (v5_ + (-1)) hC (show shOk 184 by decide) hq1 (by omega) (by omega) (by omega)) (fun r5x451_z S4x451_z h473_y => ?_)
                  obtain ⟨h474_y, p475_y⟩ := h473_y
                  refine ok_if (fun c476_y => ?_) (fun c476_y => ?_)
                  · unfold f_Holding_listChanges_167
                    have b478_y := cx_sh h474_y (show shOk 184 by decide)
                    refine ok_if (fun c479_y => ?_) (fun c479_y => ?_)
                    · unfold f_Holding_listChanges_213
                      refine ok_b1 (ok_Holding_note S4x451_z 2 v3_ v4_ h474_y (by omega) (by omega) (by omega)) (fun S1x480_z h481_y => ?_)
                      obtain ⟨h482_y, p483_y⟩ := h481_y
                      refine ok_chk (by omega) ?_
                      unfold f_Holding_listChanges_224
                      refine ok_chk (by omega) ?_
                      exact ih S1x480_z v3_ (v4_ + 1) (v5_ + (-1)) v6_ (v7_ + 1) h482_y (by omega) (by omega)
                    · refine ok_chk (by omega) ?_
                      refine ok_b2 (ok_Ruler_measure S4x451_z 184 (v3_ + 1) q1 v4_ (v5_ + (-1)) h474_y (show shOk 184 by decide) hq1 (by omega) (by omega) (by omega)) (fun r4x477_z S3x477_z h485_y => ?_)
                      obtain ⟨h486_y, p487_y⟩ := h485_y
                      refine ok_if (fun c488_y => ?_) (fun c488_y => ?_)
                      · unfold f_Holding_listChanges_213
                        refine ok_b1 (ok_Holding_note S3x477_z 2 v3_ v4_ h486_y (by omega) (by omega) (by omega)) (fun S1x489_z h490_y => ?_)
                        obtain ⟨h491_y, p492_y⟩ := h490_y
                        refine ok_chk (by omega) ?_
                        unfold f_Holding_listChanges_224
                        refine ok_chk (by omega) ?_
                        exact ih S1x489_z v3_ (v4_ + 1) (v5_ + (-1)) v6_ (v7_ + 1) h491_y (by omega) (by omega)
                      · refine ok_b1 (ok_Holding_note S3x477_z 1 v3_ v4_ h486_y (by omega) (by omega) (by omega)) (fun S6x477_z h494_y => ?_)
                        obtain ⟨h495_y, p496_y⟩ := h494_y
                        refine ok_chk (by omega) ?_
                        unfold f_Holding_listChanges_224
                        refine ok_chk (by omega) ?_
                        exact ih S6x477_z (v3_ + 1) v4_ (v5_ + (-1)) v6_ (v7_ + 1) h495_y (by omega) (by omega)
                  · refine ok_b1 (ok_Holding_note S4x451_z 0 v3_ v4_ h474_y (by omega) (by omega) (by omega)) (fun S7x451_z h498_y => ?_)
                    obtain ⟨h499_y, p500_y⟩ := h498_y
                    refine ok_chk (by omega) ?_
                    refine ok_chk (by omega) ?_
                    unfold f_Holding_listChanges_224
                    refine ok_chk (by omega) ?_
                    exact ih S7x451_z (v3_ + 1) (v4_ + 1) (v5_ + (-1)) v6_ (v7_ + 1) h499_y (by omega) (by omega)
              · refine ok_b1 (ok_Sheet_wordAt S 184 v3_ hC (show shOk 184 by decide)) (fun w1x449_z h502_y => ?_)
                refine ok_b1 (ok_Sheet_wordAt S q1 v4_ hC hq1) (fun w3x449_z h503_y => ?_)
                refine ok_if (fun c504_y => ?_) (fun c504_y => ?_)
                · refine ok_chk (by omega) ?_
                  refine ok_chk (by omega) ?_
                  unfold f_Holding_listChanges_224
                  refine ok_chk (by omega) ?_
                  exact ih S (v3_ + 1) (v4_ + 1) v5_ v6_ (v7_ + 1) hC (by omega) (by omega)
                · unfold f_Holding_listChanges_119
                  refine ok_chk (by omega) ?_
                  refine ok_if (fun c507_y => ?_) (fun c507_y => ?_)
                  · unfold f_Holding_listChanges_167
                    refine ok_if (fun c509_y => ?_) (fun c509_y => ?_)
                    · unfold f_Holding_listChanges_213
                      refine ok_b1 (ok_Holding_note S 2 v3_ v4_ hC (by omega) (by omega) (by omega)) (fun S1x510_z h511_y => ?_)
                      obtain ⟨h512_y, p513_y⟩ := h511_y
                      refine ok_chk (by omega) ?_
                      unfold f_Holding_listChanges_224
                      refine ok_chk (by omega) ?_
                      exact ih S1x510_z v3_ (v4_ + 1) (v5_ + (-1)) v6_ (v7_ + 1) h512_y (by omega) (by omega)
                    · refine ok_chk (by omega) ?_
                      refine ok_b2 (ok_Ruler_measure S 184 (v3_ + 1) q1 v4_ (v5_ + (-1)) hC (show shOk 184 by decide) hq1 (by omega) (by omega) (by omega)) (fun r4x508_z S3x508_z h515_y => ?_)
                      obtain ⟨h516_y, p517_y⟩ := h515_y
                      refine ok_if (fun c518_y => ?_) (fun c518_y => ?_)
                      · unfold f_Holding_listChanges_213
                        refine ok_b1 (ok_Holding_note S3x508_z 2 v3_ v4_ h516_y (by omega) (by omega) (by omega)) (fun S1x519_z h520_y => ?_)
                        obtain ⟨h521_y, p522_y⟩ := h520_y
                        refine ok_chk (by omega) ?_
                        unfold f_Holding_listChanges_224
                        refine ok_chk (by omega) ?_
                        exact ih S1x519_z v3_ (v4_ + 1) (v5_ + (-1)) v6_ (v7_ + 1) h521_y (by omega) (by omega)
                      · refine ok_b1 (ok_Holding_note S3x508_z 1 v3_ v4_ h516_y (by omega) (by omega) (by omega)) (fun S6x508_z h524_y => ?_)
                        obtain ⟨h525_y, p526_y⟩ := h524_y
                        refine ok_chk (by omega) ?_
                        unfold f_Holding_listChanges_224
                        refine ok_chk (by omega) ?_
                        exact ih S6x508_z (v3_ + 1) v4_ (v5_ + (-1)) v6_ (v7_ + 1) h525_y (by omega) (by omega)
                  · refine ok_chk (by omega) ?_
                    refine ok_chk (by omega) ?_
                    refine ok_b2 (ok_Ruler_measure S 184 (v3_ + 1) q1 (v4_ + 1) (v5_ + (-1)) hC (show shOk 184 by decide) hq1 (by omega) (by omega) (by omega)) (fun r5x506_z S4x506_z h528_y => ?_)
                    obtain ⟨h529_y, p530_y⟩ := h528_y
                    refine ok_if (fun c531_y => ?_) (fun c531_y => ?_)
                    · unfold f_Holding_listChanges_167
                      have b533_y := cx_sh h529_y (show shOk 184 by decide)
                      refine ok_if (fun c534_y => ?_) (fun c534_y => ?_)
                      · unfold f_Holding_listChanges_213
                        refine ok_b1 (ok_Holding_note S4x506_z 2 v3_ v4_ h529_y (by omega) (by omega) (by omega)) (fun S1x535_z h536_y => ?_)
                        obtain ⟨h537_y, p538_y⟩ := h536_y
                        refine ok_chk (by omega) ?_
                        unfold f_Holding_listChanges_224
                        refine ok_chk (by omega) ?_
                        exact ih S1x535_z v3_ (v4_ + 1) (v5_ + (-1)) v6_ (v7_ + 1) h537_y (by omega) (by omega)
                      · refine ok_chk (by omega) ?_
                        refine ok_b2 (ok_Ruler_measure S4x506_z 184 (v3_ + 1) q1 v4_ (v5_ + (-1)) h529_y (show shOk 184 by decide) hq1 (by omega) (by omega) (by omega)) (fun r4x532_z S3x532_z h540_y => ?_)
                        obtain ⟨h541_y, p542_y⟩ := h540_y
                        refine ok_if (fun c543_y => ?_) (fun c543_y => ?_)
                        · unfold f_Holding_listChanges_213
                          refine ok_b1 (ok_Holding_note S3x532_z 2 v3_ v4_ h541_y (by omega) (by omega) (by omega)) (fun S1x544_z h545_y => ?_)
                          obtain ⟨h546_y, p547_y⟩ := h545_y
                          refine ok_chk (by omega) ?_
                          unfold f_Holding_listChanges_224
                          refine ok_chk (by omega) ?_
                          exact ih S1x544_z v3_ (v4_ + 1) (v5_ + (-1)) v6_ (v7_ + 1) h546_y (by omega) (by omega)
                        · refine ok_b1 (ok_Holding_note S3x532_z 1 v3_ v4_ h541_y (by omega) (by omega) (by omega)) (fun S6x532_z h549_y => ?_)
                          obtain ⟨h550_y, p551_y⟩ := h549_y
                          refine ok_chk (by omega) ?_
                          unfold f_Holding_listChanges_224
                          refine ok_chk (by omega) ?_
                          exact ih S6x532_z (v3_ + 1) v4_ (v5_ + (-1)) v6_ (v7_ + 1) h550_y (by omega) (by omega)
                    · refine ok_b1 (ok_Holding_note S4x506_z 0 v3_ v4_ h529_y (by omega) (by omega) (by omega)) (fun S7x506_z h553_y => ?_)
                      obtain ⟨h554_y, p555_y⟩ := h553_y
                      refine ok_chk (by omega) ?_
                      refine ok_chk (by omega) ?_
                      unfold f_Holding_listChanges_224
                      refine ok_chk (by omega) ?_
                      exact ih S7x506_z (v3_ + 1) (v4_ + 1) (v5_ + (-1)) v6_ (v7_ + 1) h554_y (by omega) (by omega)
            · unfold f_Holding_listChanges_85
              refine ok_if (fun c558_y => ?_) (fun c558_y => ?_)
              · unfold f_Holding_listChanges_119
                refine ok_chk (by omega) ?_
                refine ok_if (fun c560_y => ?_) (fun c560_y => ?_)
                · unfold f_Holding_listChanges_167
                  refine ok_if (fun c562_y => ?_) (fun c562_y => ?_)
                  · unfold f_Holding_listChanges_213
                    refine ok_b1 (ok_Holding_note S 2 v3_ v4_ hC (by omega) (by omega) (by omega)) (fun S1x563_z h564_y => ?_)
                    obtain ⟨h565_y, p566_y⟩ := h564_y
                    refine ok_chk (by omega) ?_
                    unfold f_Holding_listChanges_224
                    refine ok_chk (by omega) ?_
                    exact ih S1x563_z v3_ (v4_ + 1) (v5_ + (-1)) v6_ (v7_ + 1) h565_y (by omega) (by omega)
                  · refine ok_chk (by omega) ?_
                    refine ok_b2 (ok_Ruler_measure S 184 (v3_ + 1) q1 v4_ (v5_ + (-1)) hC (show shOk 184 by decide) hq1 (by omega) (by omega) (by omega)) (fun r4x561_z S3x561_z h568_y => ?_)
                    obtain ⟨h569_y, p570_y⟩ := h568_y
                    refine ok_if (fun c571_y => ?_) (fun c571_y => ?_)
                    · unfold f_Holding_listChanges_213
                      refine ok_b1 (ok_Holding_note S3x561_z 2 v3_ v4_ h569_y (by omega) (by omega) (by omega)) (fun S1x572_z h573_y => ?_)
                      obtain ⟨h574_y, p575_y⟩ := h573_y
                      refine ok_chk (by omega) ?_
                      unfold f_Holding_listChanges_224
                      refine ok_chk (by omega) ?_
                      exact ih S1x572_z v3_ (v4_ + 1) (v5_ + (-1)) v6_ (v7_ + 1) h574_y (by omega) (by omega)
                    · refine ok_b1 (ok_Holding_note S3x561_z 1 v3_ v4_ h569_y (by omega) (by omega) (by omega)) (fun S6x561_z h577_y => ?_)
                      obtain ⟨h578_y, p579_y⟩ := h577_y
                      refine ok_chk (by omega) ?_
                      unfold f_Holding_listChanges_224
                      refine ok_chk (by omega) ?_
                      exact ih S6x561_z (v3_ + 1) v4_ (v5_ + (-1)) v6_ (v7_ + 1) h578_y (by omega) (by omega)
                · refine ok_chk (by omega) ?_
                  refine ok_chk (by omega) ?_
                  refine ok_b2 (ok_Ruler_measure S 184 (v3_ + 1) q1 (v4_ + 1) (v5_ + (-1)) hC (show shOk 184 by decide) hq1 (by omega) (by omega) (by omega)) (fun r5x559_z S4x559_z h581_y => ?_)
                  obtain ⟨h582_y, p583_y⟩ := h581_y
                  refine ok_if (fun c584_y => ?_) (fun c584_y => ?_)
                  · unfold f_Holding_listChanges_167
                    have b586_y := cx_sh h582_y (show shOk 184 by decide)
                    refine ok_if (fun c587_y => ?_) (fun c587_y => ?_)
                    · unfold f_Holding_listChanges_213
                      refine ok_b1 (ok_Holding_note S4x559_z 2 v3_ v4_ h582_y (by omega) (by omega) (by omega)) (fun S1x588_z h589_y => ?_)
                      obtain ⟨h590_y, p591_y⟩ := h589_y
                      refine ok_chk (by omega) ?_
                      unfold f_Holding_listChanges_224
                      refine ok_chk (by omega) ?_
                      exact ih S1x588_z v3_ (v4_ + 1) (v5_ + (-1)) v6_ (v7_ + 1) h590_y (by omega) (by omega)
                    · refine ok_chk (by omega) ?_
                      refine ok_b2 (ok_Ruler_measure S4x559_z 184 (v3_ + 1) q1 v4_ (v5_ + (-1)) h582_y (show shOk 184 by decide) hq1 (by omega) (by omega) (by omega)) (fun r4x585_z S3x585_z h593_y => ?_)
                      obtain ⟨h594_y, p595_y⟩ := h593_y
                      refine ok_if (fun c596_y => ?_) (fun c596_y => ?_)
                      · unfold f_Holding_listChanges_213
                        refine ok_b1 (ok_Holding_note S3x585_z 2 v3_ v4_ h594_y (by omega) (by omega) (by omega)) (fun S1x597_z h598_y => ?_)
                        obtain ⟨h599_y, p600_y⟩ := h598_y
                        refine ok_chk (by omega) ?_
                        unfold f_Holding_listChanges_224
                        refine ok_chk (by omega) ?_
                        exact ih S1x597_z v3_ (v4_ + 1) (v5_ + (-1)) v6_ (v7_ + 1) h599_y (by omega) (by omega)
                      · refine ok_b1 (ok_Holding_note S3x585_z 1 v3_ v4_ h594_y (by omega) (by omega) (by omega)) (fun S6x585_z h602_y => ?_)
                        obtain ⟨h603_y, p604_y⟩ := h602_y
                        refine ok_chk (by omega) ?_
                        unfold f_Holding_listChanges_224
                        refine ok_chk (by omega) ?_
                        exact ih S6x585_z (v3_ + 1) v4_ (v5_ + (-1)) v6_ (v7_ + 1) h603_y (by omega) (by omega)
                  · refine ok_b1 (ok_Holding_note S4x559_z 0 v3_ v4_ h582_y (by omega) (by omega) (by omega)) (fun S7x559_z h606_y => ?_)
                    obtain ⟨h607_y, p608_y⟩ := h606_y
                    refine ok_chk (by omega) ?_
                    refine ok_chk (by omega) ?_
                    unfold f_Holding_listChanges_224
                    refine ok_chk (by omega) ?_
                    exact ih S7x559_z (v3_ + 1) (v4_ + 1) (v5_ + (-1)) v6_ (v7_ + 1) h607_y (by omega) (by omega)
              · refine ok_b1 (ok_Sheet_wordAt S 184 v3_ hC (show shOk 184 by decide)) (fun w1x557_z h610_y => ?_)
                refine ok_b1 (ok_Sheet_wordAt S q1 v4_ hC hq1) (fun w3x557_z h611_y => ?_)
                refine ok_if (fun c612_y => ?_) (fun c612_y => ?_)
                · refine ok_chk (by omega) ?_
                  refine ok_chk (by omega) ?_
                  unfold f_Holding_listChanges_224
                  refine ok_chk (by omega) ?_
                  exact ih S (v3_ + 1) (v4_ + 1) v5_ v6_ (v7_ + 1) hC (by omega) (by omega)
                · unfold f_Holding_listChanges_119
                  refine ok_chk (by omega) ?_
                  refine ok_if (fun c615_y => ?_) (fun c615_y => ?_)
                  · unfold f_Holding_listChanges_167
                    refine ok_if (fun c617_y => ?_) (fun c617_y => ?_)
                    · unfold f_Holding_listChanges_213
                      refine ok_b1 (ok_Holding_note S 2 v3_ v4_ hC (by omega) (by omega) (by omega)) (fun S1x618_z h619_y => ?_)
                      obtain ⟨h620_y, p621_y⟩ := h619_y
                      refine ok_chk (by omega) ?_
                      unfold f_Holding_listChanges_224
                      refine ok_chk (by omega) ?_
                      exact ih S1x618_z v3_ (v4_ + 1) (v5_ + (-1)) v6_ (v7_ + 1) h620_y (by omega) (by omega)
                    · refine ok_chk (by omega) ?_
                      refine ok_b2 (ok_Ruler_measure S 184 (v3_ + 1) q1 v4_ (v5_ + (-1)) hC (show shOk 184 by decide) hq1 (by omega) (by omega) (by omega)) (fun r4x616_z S3x616_z h623_y => ?_)
                      obtain ⟨h624_y, p625_y⟩ := h623_y
                      refine ok_if (fun c626_y => ?_) (fun c626_y => ?_)
                      · unfold f_Holding_listChanges_213
                        refine ok_b1 (ok_Holding_note S3x616_z 2 v3_ v4_ h624_y (by omega) (by omega) (by omega)) (fun S1x627_z h628_y => ?_)
                        obtain ⟨h629_y, p630_y⟩ := h628_y
                        refine ok_chk (by omega) ?_
                        unfold f_Holding_listChanges_224
                        refine ok_chk (by omega) ?_
                        exact ih S1x627_z v3_ (v4_ + 1) (v5_ + (-1)) v6_ (v7_ + 1) h629_y (by omega) (by omega)
                      · refine ok_b1 (ok_Holding_note S3x616_z 1 v3_ v4_ h624_y (by omega) (by omega) (by omega)) (fun S6x616_z h632_y => ?_)
                        obtain ⟨h633_y, p634_y⟩ := h632_y
                        refine ok_chk (by omega) ?_
                        unfold f_Holding_listChanges_224
                        refine ok_chk (by omega) ?_
                        exact ih S6x616_z (v3_ + 1) v4_ (v5_ + (-1)) v6_ (v7_ + 1) h633_y (by omega) (by omega)
                  · refine ok_chk (by omega) ?_
                    refine ok_chk (by omega) ?_
                    refine ok_b2 (ok_Ruler_measure S 184 (v3_ + 1) q1 (v4_ + 1) (v5_ + (-1)) hC (show shOk 184 by decide) hq1 (by omega) (by omega) (by omega)) (fun r5x614_z S4x614_z h636_y => ?_)
                    obtain ⟨h637_y, p638_y⟩ := h636_y
                    refine ok_if (fun c639_y => ?_) (fun c639_y => ?_)
                    · unfold f_Holding_listChanges_167
                      have b641_y := cx_sh h637_y (show shOk 184 by decide)
                      refine ok_if (fun c642_y => ?_) (fun c642_y => ?_)
                      · unfold f_Holding_listChanges_213
                        refine ok_b1 (ok_Holding_note S4x614_z 2 v3_ v4_ h637_y (by omega) (by omega) (by omega)) (fun S1x643_z h644_y => ?_)
                        obtain ⟨h645_y, p646_y⟩ := h644_y
                        refine ok_chk (by omega) ?_
                        unfold f_Holding_listChanges_224
                        refine ok_chk (by omega) ?_
                        exact ih S1x643_z v3_ (v4_ + 1) (v5_ + (-1)) v6_ (v7_ + 1) h645_y (by omega) (by omega)
                      · refine ok_chk (by omega) ?_
                        refine ok_b2 (ok_Ruler_measure S4x614_z 184 (v3_ + 1) q1 v4_ (v5_ + (-1)) h637_y (show shOk 184 by decide) hq1 (by omega) (by omega) (by omega)) (fun r4x640_z S3x640_z h648_y => ?_)
                        obtain ⟨h649_y, p650_y⟩ := h648_y
                        refine ok_if (fun c651_y => ?_) (fun c651_y => ?_)
                        · unfold f_Holding_listChanges_213
                          refine ok_b1 (ok_Holding_note S3x640_z 2 v3_ v4_ h649_y (by omega) (by omega) (by omega)) (fun S1x652_z h653_y => ?_)
                          obtain ⟨h654_y, p655_y⟩ := h653_y
                          refine ok_chk (by omega) ?_
                          unfold f_Holding_listChanges_224
                          refine ok_chk (by omega) ?_
                          exact ih S1x652_z v3_ (v4_ + 1) (v5_ + (-1)) v6_ (v7_ + 1) h654_y (by omega) (by omega)
                        · refine ok_b1 (ok_Holding_note S3x640_z 1 v3_ v4_ h649_y (by omega) (by omega) (by omega)) (fun S6x640_z h657_y => ?_)
                          obtain ⟨h658_y, p659_y⟩ := h657_y
                          refine ok_chk (by omega) ?_
                          unfold f_Holding_listChanges_224
                          refine ok_chk (by omega) ?_
                          exact ih S6x640_z (v3_ + 1) v4_ (v5_ + (-1)) v6_ (v7_ + 1) h658_y (by omega) (by omega)
                    · refine ok_b1 (ok_Holding_note S4x614_z 0 v3_ v4_ h637_y (by omega) (by omega) (by omega)) (fun S7x614_z h661_y => ?_)
                      obtain ⟨h662_y, p663_y⟩ := h661_y
                      refine ok_chk (by omega) ?_
                      refine ok_chk (by omega) ?_
                      unfold f_Holding_listChanges_224
                      refine ok_chk (by omega) ?_
                      exact ih S7x614_z (v3_ + 1) (v4_ + 1) (v5_ + (-1)) v6_ (v7_ + 1) h662_y (by omega) (by omega)
set_option maxHeartbeats 4000000 in
theorem ok_Holding_listChanges {b : Nat} (S : SS) (q1 : Nat) (hC : CX b S) (hq1 : shOk q1) : okk (f_Holding_listChanges S q1) (fun S1 => CX b S1 ∧ (True)) := by
  unfold f_Holding_listChanges
  refine ok_lt (fun S1x1_z eS1x1_z => ?_)
  have h2_y : CX b S1x1_z := by rw [eS1x1_z]; exact cs_183_11 hC (by omega) (by omega)
  have f3_y : gi S1x1_z 183 11 = 0 := gi_eq eS1x1_z
  have b4_y := cx_sh h2_y (show shOk 184 by decide)
  have b5_y := cx_sh h2_y hq1
  refine ok_chk (by omega) ?_
  have b6_y := cx_183_10 h2_y
  exact okl_Holding_listChanges_33 q1 hq1 FU S1x1_z 0 0 (gi S1x1_z 183 10) ((gi S1x1_z 184 1) + (gi S1x1_z q1 1)) 0 h2_y (by omega) (by unfold FU; omega)
set_option maxHeartbeats 4000000 in
theorem ok_MP_distance {b : Nat} (S : SS) (v1 : Int) (v2 : Int) (hC : CX b S) : okk (f_MP_distance S v1 v2) (fun u => CX b u.2 ∧ (True)) := by
  unfold f_MP_distance
  refine ok_lt (fun o1x1_z eo1x1_z => ?_)
  refine ok_lt (fun o3x1_z eo3x1_z => ?_)
  refine ok_on (fun h2_y => ?_) (fun q5x1_z h2_y => ?_)
  · exact ok_some ⟨hC, by trivial⟩
  · have hq5x1_z : shOk q5x1_z := so_rng (by rw [← eo1x1_z]; exact h2_y)
    refine ok_chk (by omega) ?_
    refine ok_on (fun h3_y => ?_) (fun q6x1_z h3_y => ?_)
    · exact ok_some ⟨hC, by trivial⟩
    · have hq6x1_z : shOk q6x1_z := so_rng (by rw [← eo3x1_z]; exact h3_y)
      refine ok_chk (by omega) ?_
      refine ok_b2 (ok_Ruler_measure S q5x1_z 0 q6x1_z 0 300 hC hq5x1_z hq6x1_z (by omega) (by omega) (by omega)) (fun r8x1_z S7x1_z h4_y => ?_)
      obtain ⟨h5_y, p6_y⟩ := h4_y
      exact ok_some ⟨h5_y, by trivial⟩
theorem stl_all : ∀ i : Nat, i < 13 → shri (stl i) 0 = stl i ∧ 1 ≤ stl i ∧ stl i ≤ 100 := by decide
theorem stl_rng {i : Nat} (h : i < 13) : 1 ≤ stl i ∧ stl i ≤ 100 := (stl_all i h).2
theorem len_rng (S : SS) {i : Nat} (h : i < 13) : f_length S i = stl i ∧ 1 ≤ stl i ∧ stl i ≤ 100 := stl_all i h
theorem toc_rng (a : Int) : 0 ≤ toc a ∧ toc a < 65536 := by
  unfold toc
  generalize (oi a).toUInt32 = u
  have h : (u % 65536).toNat < 65536 := by rw [UInt32.toNat_mod]; exact Nat.mod_lt _ (by decide)
  generalize u % 65536 = w at h
  have e : w.toInt32.toInt = (w.toNat : Int) := by
    show w.toBitVec.toInt = _
    rw [BitVec.toInt_eq_toNat_cond, if_pos (by show 2 * w.toNat < 2 ^ 32; omega)]
    rfl
  rw [e]
  omega
theorem num6_all : ∀ k : Nat, k < 6 → 0 ≤ num6 k ∧ num6 k ≤ 3 := by decide
theorem ok_charAt {b : Nat} (S : SS) (i0 : Nat) (v1 : Int) (hC : CX b S) (hi0 : i0 < 13) (hp0 : 0 ≤ v1 ∧ v1 < stl i0) : okk (f_charAt S i0 v1) (fun r => True) := by
  unfold f_charAt
  refine ok_if (fun h => absurd (show (1 : Int) = 0 from h) (by decide)) (fun _ => ?_)
  refine ok_b1 (R := fun r => 0 ≤ r ∧ r < 65536) ?_ (fun r h => ok_chk h (ok_some trivial))
  unfold f_l1charAt
  refine ok_b1 (R := fun _ => True) ?_ (fun _ _ => ok_chk hp0 (ok_chk (toc_rng _) (ok_some (toc_rng _))))
  unfold f_checkIndex f_preCheck
  exact ⟨(), by rw [if_neg (by omega), if_pos (by omega)]; rfl, trivial⟩
set_option maxHeartbeats 4000000 in
theorem okl_indexOfChar_7 {b : Nat} (S : SS) (i0 : Nat) (v1 : Int) (v2 : Int) (v3 : Int) (hC : CX b S) (hi0 : i0 < 13) (hp0 : 0 ≤ v2 ∧ v2 < v3 ∧ v3 ≤ stl i0 ∧ stl i0 ≤ 100) : ∀ (n : Nat) (v4_ : Int) (v5_ : Int), (0 ≤ v5_ ∧ v5_ ≤ 100) → 100 - v5_ < (n : Int) → okk (f_indexOfChar_7 S i0 v1 v2 v3 n v4_ v5_) (fun r => True) := by
  intro n
  induction n with
  | zero => intro v4_ v5_ hi hm; exfalso; omega
  | succ n ih =>
    intro v4_ v5_ hi hm
    have hm : 100 - v5_ < (n : Int) + 1 := by omega
    show okk (f_indexOfChar_7_b S i0 v1 v2 v3 (f_indexOfChar_7 S i0 v1 v2 v3 n) v4_ v5_) _
    unfold f_indexOfChar_7_b
    refine ok_if (fun c1_y => ?_) (fun c1_y => ?_)
    · exact ok_some (by trivial)
    · have b2_y := stl_rng hi0
      refine ok_chk (by omega) ?_
      refine ok_if (fun c3_y => ?_) (fun c3_y => ?_)
      · exact ok_some (by trivial)
      · refine ok_chk (by omega) ?_
        exact ih v4_ (v5_ + 1) (by omega) (by omega)
set_option maxHeartbeats 4000000 in
theorem ok_indexOfChar {b : Nat} (S : SS) (i0 : Nat) (v1 : Int) (v2 : Int) (v3 : Int) (hC : CX b S) (hi0 : i0 < 13) (hp0 : 0 ≤ v2 ∧ v2 < v3 ∧ v3 ≤ stl i0 ∧ stl i0 ≤ 100) : okk (f_indexOfChar S i0 v1 v2 v3) (fun r => True) := by
  unfold f_indexOfChar
  have b2_y := tob_rng v1
  exact okl_indexOfChar_7 S i0 v1 v2 v3 hC hi0 (by omega) FU (tob v1) v2 (by omega) (by unfold FU; omega)
set_option maxHeartbeats 4000000 in
theorem ok_l1indexOf {b : Nat} (S : SS) (i0 : Nat) (v1 : Int) (v2 : Int) (v3 : Int) (hC : CX b S) (hi0 : i0 < 13) : okk (f_l1indexOf S i0 v1 v2 v3) (fun r => True) := by
  unfold f_l1indexOf
  refine ok_if (fun c2_y => ?_) (fun c2_y => ?_)
  · exact ok_some (by trivial)
  · have b3_y := stl_rng hi0
    refine ok_if (fun c4_y => ?_) (fun c4_y => ?_)
    · refine ok_b1 (ok_indexOfChar S i0 v1 (max v2 0) (min v3 (stl i0)) hC hi0 (by omega)) (fun r5x1_z h5_y => ?_)
      exact ok_some (by trivial)
    · exact ok_some (by trivial)
set_option maxHeartbeats 4000000 in
theorem ok_indexOf2 {b : Nat} (S : SS) (i0 : Nat) (v1 : Int) (v2 : Int) (hC : CX b S) (hi0 : i0 < 13) : okk (f_indexOf2 S i0 v1 v2) (fun r => True) := by
  unfold f_indexOf2
  refine ok_if (fun h => absurd (show (1 : Int) = 0 from h) (by decide)) (fun _ => ?_)
  have b2_y := len_rng S hi0
  refine ok_b1 (ok_l1indexOf S i0 v1 v2 (f_length S i0) hC hi0) (fun r3x1_z h3_y => ?_)
  exact ok_some (by trivial)
set_option maxHeartbeats 4000000 in
theorem ok_indexOf {b : Nat} (S : SS) (i0 : Nat) (v1 : Int) (hC : CX b S) (hi0 : i0 < 13) : okk (f_indexOf S i0 v1) (fun r => True) := by
  unfold f_indexOf
  refine ok_b1 (ok_indexOf2 S i0 v1 0 hC hi0) (fun r1x1_z h2_y => ?_)
  exact ok_some (by trivial)
set_option maxHeartbeats 4000000 in
theorem ok_MP_isOfWord {b : Nat} (S : SS) (v0 : Int) (hC : CX b S) : okk (f_MP_isOfWord S v0) (fun r => r = 0 ∨ r = 1) := by
  unfold f_MP_isOfWord
  refine ok_if (fun c2_y => ?_) (fun c2_y => ?_)
  · refine ok_if (fun c3_y => ?_) (fun c3_y => ?_)
    · refine ok_if (fun c4_y => ?_) (fun c4_y => ?_)
      · unfold f_MP_isOfWord_28
        refine ok_if (fun c6_y => ?_) (fun c6_y => ?_)
        · exact ok_some (by omega)
        · refine ok_if (fun c7_y => ?_) (fun c7_y => ?_)
          · exact ok_some (by omega)
          · have b8_y := toc_rng v0
            refine ok_b1 (ok_indexOf S 0 (toc v0) hC (by decide)) (fun r2x5_z h9_y => ?_)
            refine ok_if (fun c10_y => ?_) (fun c10_y => ?_)
            · exact ok_some (by omega)
            · exact ok_some (by omega)
      · refine ok_if (fun c11_y => ?_) (fun c11_y => ?_)
        · unfold f_MP_isOfWord_28
          refine ok_if (fun c13_y => ?_) (fun c13_y => ?_)
          · exact ok_some (by omega)
          · refine ok_if (fun c14_y => ?_) (fun c14_y => ?_)
            · exact ok_some (by omega)
            · have b15_y := toc_rng v0
              refine ok_b1 (ok_indexOf S 0 (toc v0) hC (by decide)) (fun r2x12_z h16_y => ?_)
              refine ok_if (fun c17_y => ?_) (fun c17_y => ?_)
              · exact ok_some (by omega)
              · exact ok_some (by omega)
        · exact ok_some (by omega)
    · exact ok_some (by omega)
  · exact ok_some (by omega)
set_option maxHeartbeats 4000000 in
theorem ok_SheetReader_addWord {b : Nat} (S : SS) (w1 : Int64) (v2 : Int) (hC : CX b S) : okk (f_SheetReader_addWord S w1 v2) (fun S1 => CX b S1 ∧ (True)) := by
  unfold f_SheetReader_addWord
  refine ok_if (fun c2_y => ?_) (fun c2_y => ?_)
  · exact ok_some ⟨hC, by trivial⟩
  · refine ok_b1 (ok_Sheet_add S 175 w1 hC (show shOk 175 by decide)) (fun S1x1_z h3_y => ?_)
    obtain ⟨h4_y, p5_y⟩ := h3_y
    exact ok_some ⟨h4_y, by trivial⟩
set_option maxHeartbeats 4000000 in
theorem okl_SheetReader_readProof_20 {b : Nat} (v2 : Int) (hp0 : v2 ≤ 300) : ∀ (n : Nat) (S : SS) (w4_ : Int64) (v6_ : Int) (v7_ : Int), CX b S → (0 ≤ v6_ ∧ v6_ ≤ 8 ∧ 0 ≤ v7_ ∧ v7_ ≤ 2000) → 2000 - v7_ < (n : Int) → okk (f_SheetReader_readProof_20 v2 n S w4_ v6_ v7_) (fun u => CX b u.2 ∧ (u.1 = 0 ∨ u.1 = 1)) := by
  intro n
  induction n with
  | zero => intro S w4_ v6_ v7_ hC hi hm; exfalso; omega
  | succ n ih =>
    intro S w4_ v6_ v7_ hC hi hm
    have hm : 2000 - v7_ < (n : Int) + 1 := by omega
    show okk (f_SheetReader_readProof_20_b v2 (f_SheetReader_readProof_20 v2 n) S w4_ v6_ v7_) _
    unfold f_SheetReader_readProof_20_b
    have b1_y := cx_1_1 hC
    refine ok_if (fun c2_y => ?_) (fun c2_y => ?_)
    · refine ok_b1 (ok_SheetReader_addWord S w4_ v6_ hC) (fun S2_z h3_y => ?_)
      obtain ⟨h4_y, p5_y⟩ := h3_y
      exact ok_some ⟨h4_y, by omega⟩
    · have b7_y := cx_1_1 hC
      refine ok_b1 (ok_Tape_byteAt S v7_ hC) (fun r4_z h6_y => ?_)
      refine ok_if (fun c8_y => ?_) (fun c8_y => ?_)
      · refine ok_b1 (ok_MP_isOfWord S r4_z hC) (fun r7_z h9_y => ?_)
        refine ok_if (fun c10_y => ?_) (fun c10_y => ?_)
        · unfold f_SheetReader_readProof_77
          refine ok_b2 (ok_Fault_tellOf S 1 v7_ hC (by omega) (by omega)) (fun r2x11_z S1x11_z h12_y => ?_)
          obtain ⟨h13_y, p14_y⟩ := h12_y
          refine ok_chk (by omega) ?_
          exact ok_some ⟨h13_y, by omega⟩
        · refine ok_if (fun c15_y => ?_) (fun c15_y => ?_)
          · unfold f_SheetReader_readProof_77
            refine ok_b2 (ok_Fault_tellOf S 1 v7_ hC (by omega) (by omega)) (fun r2x16_z S1x16_z h17_y => ?_)
            obtain ⟨h18_y, p19_y⟩ := h17_y
            refine ok_chk (by omega) ?_
            exact ok_some ⟨h18_y, by omega⟩
          · refine ok_if (fun c20_y => ?_) (fun c20_y => ?_)
            · have b21_y := cx_sh hC (show shOk 175 by decide)
              refine ok_if (fun c22_y => ?_) (fun c22_y => ?_)
              · unfold f_SheetReader_readProof_109
                refine ok_chk (by omega) ?_
                unfold f_SheetReader_readProof_123
                refine ok_chk (by omega) ?_
                exact ih S ((lsh w4_ 8) ||| (i2l r4_z)) (v6_ + 1) (v7_ + 1) hC (by omega) (by omega)
              · refine ok_b2 (ok_Fault_tellOf S 3 v7_ hC (by omega) (by omega)) (fun r11_z S10_z h25_y => ?_)
                obtain ⟨h26_y, p27_y⟩ := h25_y
                refine ok_chk (by omega) ?_
                exact ok_some ⟨h26_y, by omega⟩
            · unfold f_SheetReader_readProof_109
              refine ok_chk (by omega) ?_
              unfold f_SheetReader_readProof_123
              refine ok_chk (by omega) ?_
              exact ih S ((lsh w4_ 8) ||| (i2l r4_z)) (v6_ + 1) (v7_ + 1) hC (by omega) (by omega)
      · refine ok_b1 (ok_SheetReader_addWord S w4_ v6_ hC) (fun S14_z h30_y => ?_)
        obtain ⟨h31_y, p32_y⟩ := h30_y
        unfold f_SheetReader_readProof_123
        refine ok_chk (by omega) ?_
        exact ih S14_z (0 : Int64) 0 (v7_ + 1) h31_y (by omega) (by omega)
set_option maxHeartbeats 4000000 in
theorem ok_SheetReader_readProof {b : Nat} (S : SS) (v2 : Int) (hC : CX b S) (hp0 : v2 ≤ 300) : okk (f_SheetReader_readProof S v2) (fun u => CX b u.2 ∧ (u.1 = 0 ∨ u.1 = 1)) := by
  unfold f_SheetReader_readProof
  refine ok_lt (fun S1x1_z eS1x1_z => ?_)
  have h2_y : CX b S1x1_z := by rw [eS1x1_z]; exact cx_Sheet_clear hC (show shOk 175 by decide)
  refine ok_lt (fun S3x1_z eS3x1_z => ?_)
  have h3_y : CX b S3x1_z := by rw [eS3x1_z]; exact cx_Fault_clear h2_y
  exact okl_SheetReader_readProof_20 v2 (by omega) FU S3x1_z 0 0 0 h3_y (by omega) (by unfold FU; omega)
set_option maxHeartbeats 4000000 in
theorem ok_MP_first (S : SS) (hC : CX 0 S) : okk (f_MP_first S) (fun u => CX 0 u.2 ∧ (True)) := by
  unfold f_MP_first
  refine ok_b2 (ok_SheetReader_readProof S 60 hC (by omega)) (fun r2x1_z S1x1_z h2_y => ?_)
  obtain ⟨h3_y, p4_y⟩ := h2_y
  refine ok_lt (fun S4x1_z eS4x1_z => ?_)
  have h5_y : CX 0 S4x1_z := by rw [eS4x1_z]; exact cs_1_1 h3_y (by omega) (by omega)
  have f6_y : gi S4x1_z 1 1 = 0 := gi_eq eS4x1_z
  refine ok_if (fun c7_y => ?_) (fun c7_y => ?_)
  · exact ok_some ⟨h5_y, by trivial⟩
  · refine ok_b1 (ok_Sheet_copyFrom S4x1_z 4 175 h5_y (show shOk 4 by decide) (show shOk 175 by decide)) (fun S5x1_z h8_y => ?_)
    obtain ⟨h9_y, p10_y⟩ := h8_y
    refine ok_lt (fun S7x1_z eS7x1_z => ?_)
    have h11_y : CX 0 S7x1_z := by rw [eS7x1_z]; exact cx_Pile_clear h9_y
    refine ok_b1 (ok_MP_settle S7x1_z h11_y) (fun S9x1_z h12_y => ?_)
    obtain ⟨h13_y, p14_y⟩ := h12_y
    have b15_y := cx_sh h13_y (show shOk 4 by decide)
    exact ok_some ⟨h13_y, by trivial⟩
set_option maxHeartbeats 4000000 in
theorem ok_MP_second (S : SS) (hC : CX 0 S) : okk (f_MP_second S) (fun u => CX 0 u.2 ∧ (True)) := by
  unfold f_MP_second
  refine ok_b2 (ok_SheetReader_readProof S 150 hC (by omega)) (fun r2x1_z S1x1_z h2_y => ?_)
  obtain ⟨h3_y, p4_y⟩ := h2_y
  refine ok_lt (fun S4x1_z eS4x1_z => ?_)
  have h5_y : CX 0 S4x1_z := by rw [eS4x1_z]; exact cs_1_1 h3_y (by omega) (by omega)
  have f6_y : gi S4x1_z 1 1 = 0 := gi_eq eS4x1_z
  refine ok_if (fun c7_y => ?_) (fun c7_y => ?_)
  · exact ok_some ⟨h5_y, by trivial⟩
  · refine ok_b1 (ok_Sheet_copyFrom S4x1_z 6 175 h5_y (show shOk 6 by decide) (show shOk 175 by decide)) (fun S5x1_z h8_y => ?_)
    obtain ⟨h9_y, p10_y⟩ := h8_y
    have b11_y := cx_sh h9_y (show shOk 6 by decide)
    exact ok_some ⟨h9_y, by trivial⟩
set_option maxHeartbeats 4000000 in
theorem okl_MarkReader_skipBlanks_5 {b : Nat} (hb : 2 ≤ b) : ∀ (n : Nat) (S : SS) (v1_ : Int), CX b S → (0 ≤ v1_ ∧ v1_ ≤ 2000) → 2000 - v1_ < (n : Int) → okk (f_MarkReader_skipBlanks_5 n S v1_) (fun S1 => CX b S1 ∧ (True)) := by
  intro n
  induction n with
  | zero => intro S v1_ hC hi hm; exfalso; omega
  | succ n ih =>
    intro S v1_ hC hi hm
    have hm : 2000 - v1_ < (n : Int) + 1 := by omega
    show okk (f_MarkReader_skipBlanks_5_b (f_MarkReader_skipBlanks_5 n) S v1_) _
    unfold f_MarkReader_skipBlanks_5_b
    refine ok_chk ((hC).2.2.2.2.2 hb).1.1 ?_
    have b1_y := cx_1_1 hC
    refine ok_if (fun c2_y => ?_) (fun c2_y => ?_)
    · exact ok_some ⟨hC, by trivial⟩
    · refine ok_chk ((hC).2.2.2.2.2 hb).1.1 ?_
      have b4_y := cx_1_1 hC
      refine ok_b1 (ok_Tape_byteAt S v1_ hC) (fun r2_z h3_y => ?_)
      refine ok_if (fun c5_y => ?_) (fun c5_y => ?_)
      · exact ok_some ⟨hC, by trivial⟩
      · refine ok_chk (by omega) ?_
        refine ok_lt (fun S6_z eS6_z => ?_)
        have h6_y : CX b S6_z := by rw [eS6_z]; exact cs_177_4 hC (by omega) (by omega)
        have f7_y : gi S6_z 177 4 = v1_ + 1 := gi_eq eS6_z
        have f8_y : gi S6_z 1 1 = gi S 1 1 := gi_ne eS6_z (by omega)
        refine ok_chk (by omega) ?_
        exact ih S6_z (v1_ + 1) h6_y (by omega) (by omega)
set_option maxHeartbeats 4000000 in
theorem ok_MarkReader_skipBlanks {b : Nat} (S : SS) (hC : CX b S) (hb : 2 ≤ b) : okk (f_MarkReader_skipBlanks S) (fun S1 => CX b S1 ∧ (True)) := by
  unfold f_MarkReader_skipBlanks
  have b2_y := cx_177_4 hC
  exact okl_MarkReader_skipBlanks_5  hb FU S (gi S 177 4) hC (by omega) (by unfold FU; omega)
def DG (S : SS) : Prop := gi S 177 6 = 2 → ∀ k : Nat, gi S 177 5 ≤ (k : Int) → (k : Int) < gi S 177 4 → (k : Int) < gi S 1 1 ∧ 48 ≤ andi (gi S 2 k) 255 ∧ andi (gi S 2 k) 255 ≤ 57
theorem ok_byteAt2 {b : Nat} (S : SS) (v : Int) (hC : CX b S) : okk (f_Tape_byteAt S v) (fun r => -1 ≤ r ∧ r ≤ 255 ∧ (0 ≤ v → v < gi S 1 1 → r = andi (gi S 2 v.toNat) 255)) := by
  have h1 := cx_1_1 hC
  have h2 := andi255 (gi S 2 v.toNat)
  unfold f_Tape_byteAt
  refine ok_if (fun _ => ok_some (by omega)) (fun _ => ok_if (fun _ => ok_some (by omega)) (fun _ => ok_if (fun _ => ok_chk (by omega) (ok_some (by omega))) (fun _ => ok_some (by omega))))
theorem sort2 {S : SS} {v : Int} (h : f_MarkReader_sortOf S v = 2) : 48 ≤ v ∧ v ≤ 57 := by
  unfold f_MarkReader_sortOf f_MP_isSmall f_MP_isDigit at h
  repeat' split at h
  all_goals omega
theorem sort_rng (S : SS) (v : Int) : 0 ≤ f_MarkReader_sortOf S v ∧ f_MarkReader_sortOf S v ≤ 2 := by
  unfold f_MarkReader_sortOf
  repeat' split
  all_goals omega
theorem okl_token {b : Nat} (hb : 2 ≤ b) : ∀ (n : Nat) (S : SS) (v1_ : Int), CX b S → DG S → (0 ≤ v1_ ∧ v1_ ≤ 2000 ∧ v1_ = gi S 177 4) → 2000 - v1_ < (n : Int) → okk (f_MarkReader_readToken_67 n S v1_) (fun S1 => CX b S1 ∧ DG S1) := by
  intro n
  induction n with
  | zero => intro S v1_ hC hD hi hm; exfalso; omega
  | succ n ih =>
    intro S v1_ hC hD hi hm
    have hm : 2000 - v1_ < (n : Int) + 1 := by omega
    show okk (f_MarkReader_readToken_67_b (f_MarkReader_readToken_67 n) S v1_) _
    unfold f_MarkReader_readToken_67_b
    have h1 := cx_1_1 hC
    refine ok_chk (hC.2.2.2.2.2 hb).1.1 (ok_if (fun _ => ok_some ⟨hC, hD⟩) (fun c1 => ok_chk (hC.2.2.2.2.2 hb).1.1 (ok_b1 (ok_byteAt2 S v1_ hC) (fun r2 h2 => ok_if (fun c2 => ?_) (fun _ => ok_some ⟨hC, hD⟩)))))
    refine ok_chk (by omega) (ok_lt (fun S7 e => ok_chk (by omega) ?_))
    have h7 : CX b S7 := by rw [e]; exact cs_177_4 hC (by omega) (by omega)
    have e4 : gi S7 177 4 = v1_ + 1 := gi_eq e
    have e5 : gi S7 177 5 = gi S 177 5 := gi_ne e (by omega)
    have e6 : gi S7 177 6 = gi S 177 6 := gi_ne e (by omega)
    have e1 : gi S7 1 1 = gi S 1 1 := gi_ne e (by omega)
    refine ih S7 (v1_ + 1) h7 (fun h6 k k1 k2 => ?_) (by omega) (by omega)
    have e2 : gi S7 2 k = gi S 2 k := gi_ne e (by omega)
    rw [e1, e2]
    by_cases q : (k : Int) < v1_
    · exact hD (by omega) k (by omega) (by omega)
    · have hk : v1_.toNat = k := by omega
      have h3 := h2.2.2 (by omega) (by omega)
      rw [hk] at h3
      have h4 := sort2 (c2.trans (by omega))
      rw [← h3]
      exact ⟨by omega, h4⟩
theorem ok_token54 {b : Nat} (S : SS) (hC : CX b S) (hb : 2 ≤ b) (hD : DG S) : okk (f_MarkReader_readToken_54 S) (fun S1 => CX b S1 ∧ DG S1) := by
  have h4 := cx_177_4 hC
  unfold f_MarkReader_readToken_54
  exact ok_if (fun _ => ok_some ⟨hC, hD⟩) (fun _ => okl_token hb FU S _ hC hD (by omega) (by unfold FU; omega))
theorem ok_MarkReader_readToken {b : Nat} (S : SS) (hC : CX b S) (hb : 2 ≤ b) : okk (f_MarkReader_readToken S) (fun S1 => CX b S1 ∧ DG S1) := by
  unfold f_MarkReader_readToken
  refine ok_b1 (ok_MarkReader_skipBlanks S hC hb) (fun S1 h1 => ?_)
  have h1 := h1.1
  have b4 := cx_177_4 h1
  refine ok_lt (fun S4 e4 => ?_)
  have h4 : CX b S4 := by rw [e4]; exact cs_177_5 h1 (by omega) (by omega)
  have f5 : gi S4 177 5 = gi S1 177 4 := gi_eq e4
  have f4 : gi S4 177 4 = gi S1 177 4 := gi_ne e4 (by omega)
  refine ok_chk (h4.2.2.2.2.2 hb).1.1 (ok_b1 (ok_byteAt2 S4 _ h4) (fun r6 h6 => ok_lt (fun S9 e9 => ?_)))
  have sr := sort_rng S4 r6
  have h9 : CX b S9 := by rw [e9]; exact cs_177_6 h4 (by omega) (by omega)
  have g6 : gi S9 177 6 = f_MarkReader_sortOf S4 r6 := gi_eq e9
  have g5 : gi S9 177 5 = gi S4 177 5 := gi_ne e9 (by omega)
  have g4 : gi S9 177 4 = gi S4 177 4 := gi_ne e9 (by omega)
  have g1 : gi S9 1 1 = gi S4 1 1 := gi_ne e9 (by omega)
  have bs := cx_1_1 h9
  have b94 := cx_177_4 h9
  refine ok_chk (h9.2.2.2.2.2 hb).1.1 (ok_if (fun c1 => ?_) (fun c1 => ?_))
  · exact ok_token54 S9 h9 hb (fun _ k k1 k2 => by omega)
  · refine ok_chk (by omega) (ok_lt (fun S14 e => ?_))
    have h14 : CX b S14 := by rw [e]; exact cs_177_4 h9 (by omega) (by omega)
    have k4 : gi S14 177 4 = gi S9 177 4 + 1 := gi_eq e
    have k5 : gi S14 177 5 = gi S9 177 5 := gi_ne e (by omega)
    have k6 : gi S14 177 6 = gi S9 177 6 := gi_ne e (by omega)
    have k1' : gi S14 1 1 = gi S9 1 1 := gi_ne e (by omega)
    refine ok_token54 S14 h14 hb (fun q6 k k1 k2 => ?_)
    have e2 : gi S14 2 k = gi S4 2 k := by rw [gi_ne e (by omega), gi_ne e9 (by omega)]
    have hk : (gi S4 177 4).toNat = k := by omega
    have h3 := h6.2.2 (by omega) (by omega)
    rw [hk] at h3
    have hs := sort2 (S := S4) (v := r6) (by omega)
    rw [k1', e2, ← h3]
    exact ⟨by omega, hs⟩
theorem okl_number {b : Nat} (S : SS) (hC : CX b S) (hb : 2 ≤ b) (hD : DG S) (h6 : gi S 177 6 = 2) (hl : gi S 177 4 - gi S 177 5 ≤ 3) : ∀ (n : Nat) (v1_ v2_ : Int), ((v2_ = gi S 177 5 ∧ v1_ = 0) ∨ (v2_ = gi S 177 5 + 1 ∧ 0 ≤ v1_ ∧ v1_ ≤ 9) ∨ (v2_ = gi S 177 5 + 2 ∧ 0 ≤ v1_ ∧ v1_ ≤ 99) ∨ (v2_ = gi S 177 5 + 3 ∧ 0 ≤ v1_ ∧ v1_ ≤ 999)) → gi S 177 5 + 3 - v2_ < (n : Int) → okk (f_MarkReader_numberRead_7 S n v1_ v2_) (fun r => 0 ≤ r ∧ r ≤ 999) := by
  intro n
  induction n with
  | zero => intro v1_ v2_ hi hm; exfalso; omega
  | succ n ih =>
    intro v1_ v2_ hi hm
    have hm : gi S 177 5 + 3 - v2_ < (n : Int) + 1 := by omega
    show okk (f_MarkReader_numberRead_7_b S (f_MarkReader_numberRead_7 S n) v1_ v2_) _
    unfold f_MarkReader_numberRead_7_b
    have b5 := cx_177_5 hC
    have b4 := cx_177_4 hC
    refine ok_if (fun _ => ok_some (by omega)) (fun c1 => ?_)
    have hk := hD h6 v2_.toNat (by omega) (by omega)
    refine ok_chk (by omega) (ok_chk (hC.2.2.2.2.2 hb).1.1 (ok_b1 (ok_byteAt2 S v2_ hC) (fun r3 h3 => ?_)))
    have h4 := h3.2.2 (by omega) (by omega)
    rw [← h4] at hk
    exact ok_chk (by omega) (ok_chk (by omega) (ok_chk (by omega) (ih _ _ (by omega) (by omega))))
theorem ok_MarkReader_numberRead {b : Nat} (S : SS) (hC : CX b S) (hb : 2 ≤ b) (hD : DG S) (hp0 : gi S 177 6 = 2) (hp1 : gi S 177 4 - gi S 177 5 ≤ 3) : okk (f_MarkReader_numberRead S) (fun r => 0 ≤ r ∧ r ≤ 999) := by
  unfold f_MarkReader_numberRead
  exact okl_number S hC hb hD hp0 hp1 FU 0 _ (by omega) (by unfold FU; omega)
theorem markAt_lt {S : SS} {v : Int} {j : Nat} (h : f_Pile_markAt S v = some (some j)) : v < 40 := by
  unfold f_Pile_markAt at h
  by_cases c1 : v < 40
  · exact c1
  · exfalso
    repeat' split at h
    all_goals first | omega | (cases h; done) | skip
    all_goals first | (rw [w_chkN (by omega)] at h; cases h) | skip
theorem pblank_lt {b : Nat} {S S1 : SS} {j : Nat} (hC : CX b S) (h : f_Pile_blank S = some (some j, S1)) : gi S 10 3 + gi S 10 4 < 40 := by
  have b3 := cx_10_3 hC
  have b4 := cx_10_4 hC
  unfold f_Pile_blank at h
  rw [w_chkP (by omega)] at h
  cases q : f_Pile_markAt S (gi S 10 3 + gi S 10 4) with
  | none => rw [q] at h; cases h
  | some o =>
    cases o with
    | none => rw [q] at h; cases h
    | some j2 => exact markAt_lt q
theorem ok_Pile_blank2 {b : Nat} (S : SS) (hC : CX b S) : okk (f_Pile_blank S) (fun u => CX b u.2 ∧ (∀ j, u.1 = some j → j < 40 ∧ gi S 10 3 + gi S 10 4 < 40)) := by
  obtain ⟨⟨o, S1⟩, e, h⟩ := ok_Pile_blank S hC
  refine ⟨(o, S1), e, h.1, fun j hj => ⟨h.2 j hj, pblank_lt (j := j) (S1 := S1) hC ?_⟩⟩
  rw [e, show o = some j from hj]
set_option maxHeartbeats 4000000 in
theorem ok_MarkReader_refuse {b : Nat} (S : SS) (v1 : Int) (hC : CX b S) (hb : 2 ≤ b) (hp0 : i32 v1) : okk (f_MarkReader_refuse S v1) (fun u => CX b u.2 ∧ (u.1 = 0)) := by
  unfold f_MarkReader_refuse
  refine ok_chk ((hC).2.2.2.2.2 hb).1.2.2 ?_
  have b2_y := cx_177_5 hC
  refine ok_b2 (ok_Fault_tellOf S v1 (gi S 177 5) hC (by omega) (by omega)) (fun r3x1_z S2x1_z h3_y => ?_)
  obtain ⟨h4_y, p5_y⟩ := h3_y
  refine ok_chk (by omega) ?_
  exact ok_some ⟨h4_y, by omega⟩
set_option maxHeartbeats 4000000 in
theorem ok_MarkReader_mayBeginMove {b : Nat} (S : SS) (v1 : Int) (v2 : Int) (v3 : Int) (v4 : Int) (hC : CX b S) (hp0 : -1 ≤ v1 ∧ v1 ≤ 999) (hp1 : -1 ≤ v2 ∧ v2 ≤ 999) (hp2 : -1 ≤ v3 ∧ v3 ≤ 999) : okk (f_MarkReader_mayBeginMove S v1 v2 v3 v4) (fun r => r = 0 ∨ r = 1) := by
  unfold f_MarkReader_mayBeginMove
  refine ok_if (fun c2_y => ?_) (fun c2_y => ?_)
  · have b3_y := cx_177_3 hC
    refine ok_if (fun c4_y => ?_) (fun c4_y => ?_)
    · exact ok_some (by omega)
    · refine ok_if (fun c5_y => ?_) (fun c5_y => ?_)
      · exact ok_some (by omega)
      · refine ok_if (fun c6_y => ?_) (fun c6_y => ?_)
        · exact ok_some (by omega)
        · exact ok_some (by omega)
  · refine ok_if (fun c7_y => ?_) (fun c7_y => ?_)
    · refine ok_if (fun c8_y => ?_) (fun c8_y => ?_)
      · exact ok_some (by omega)
      · have b9_y := cx_177_3 hC
        refine ok_if (fun c10_y => ?_) (fun c10_y => ?_)
        · exact ok_some (by omega)
        · refine ok_if (fun c11_y => ?_) (fun c11_y => ?_)
          · exact ok_some (by omega)
          · refine ok_chk (by omega) ?_
            refine ok_if (fun c12_y => ?_) (fun c12_y => ?_)
            · exact ok_some (by omega)
            · exact ok_some (by omega)
    · refine ok_if (fun c13_y => ?_) (fun c13_y => ?_)
      · exact ok_some (by omega)
      · refine ok_chk (by omega) ?_
        refine ok_if (fun c14_y => ?_) (fun c14_y => ?_)
        · exact ok_some (by omega)
        · have b15_y := cx_177_3 hC
          refine ok_if (fun c16_y => ?_) (fun c16_y => ?_)
          · exact ok_some (by omega)
          · exact ok_some (by omega)
set_option maxHeartbeats 4000000 in
theorem ok_MarkReader_mayBegin {b : Nat} (S : SS) (j1 : Nat) (v2 : Int) (hC : CX b S) (hb : 2 ≤ b) (hj1 : j1 < 40) : okk (f_MarkReader_mayBegin S j1 v2) (fun r => r = 0 ∨ r = 1) := by
  unfold f_MarkReader_mayBegin
  refine ok_b1 (ok_Mark_number S j1 0 hC hj1) (fun r1x1_z h2_y => ?_)
  refine ok_b1 (ok_Mark_number S j1 1 hC hj1) (fun r3x1_z h3_y => ?_)
  refine ok_b1 (ok_Mark_number S j1 2 hC hj1) (fun r5x1_z h4_y => ?_)
  have b5_y := cx_mk_2 hC hj1
  refine ok_if (fun c6_y => ?_) (fun c6_y => ?_)
  · refine ok_if (fun c7_y => ?_) (fun c7_y => ?_)
    · have b8_y := cx_177_3 hC
      refine ok_if (fun c9_y => ?_) (fun c9_y => ?_)
      · exact ok_some (by omega)
      · exact ok_some (by omega)
    · refine ok_if (fun c10_y => ?_) (fun c10_y => ?_)
      · exact ok_some (by omega)
      · have b11_y := cx_177_3 hC
        refine ok_if (fun c12_y => ?_) (fun c12_y => ?_)
        · exact ok_some (by omega)
        · exact ok_some (by omega)
  · refine ok_if (fun c13_y => ?_) (fun c13_y => ?_)
    · have b14_y := cx_177_3 hC
      refine ok_if (fun c15_y => ?_) (fun c15_y => ?_)
      · exact ok_some (by omega)
      · exact ok_some (by omega)
    · refine ok_if (fun c16_y => ?_) (fun c16_y => ?_)
      · refine ok_if (fun c17_y => ?_) (fun c17_y => ?_)
        · have b18_y := cx_177_3 hC
          refine ok_if (fun c19_y => ?_) (fun c19_y => ?_)
          · exact ok_some (by omega)
          · exact ok_some (by omega)
        · refine ok_if (fun c20_y => ?_) (fun c20_y => ?_)
          · exact ok_some (by omega)
          · have b21_y := cx_177_3 hC
            refine ok_if (fun c22_y => ?_) (fun c22_y => ?_)
            · exact ok_some (by omega)
            · exact ok_some (by omega)
      · refine ok_if (fun c23_y => ?_) (fun c23_y => ?_)
        · refine ok_if (fun c24_y => ?_) (fun c24_y => ?_)
          · refine ok_chk (by omega) ?_
            have b25_y := cx_177_3 hC
            refine ok_if (fun c26_y => ?_) (fun c26_y => ?_)
            · exact ok_some (by omega)
            · exact ok_some (by omega)
          · refine ok_if (fun c27_y => ?_) (fun c27_y => ?_)
            · refine ok_if (fun c28_y => ?_) (fun c28_y => ?_)
              · exact ok_some (by omega)
              · have b29_y := cx_177_3 hC
                refine ok_if (fun c30_y => ?_) (fun c30_y => ?_)
                · exact ok_some (by omega)
                · exact ok_some (by omega)
            · refine ok_if (fun c31_y => ?_) (fun c31_y => ?_)
              · exact ok_some (by omega)
              · have b32_y := cx_177_3 hC
                refine ok_if (fun c33_y => ?_) (fun c33_y => ?_)
                · exact ok_some (by omega)
                · exact ok_some (by omega)
        · refine ok_if (fun c34_y => ?_) (fun c34_y => ?_)
          · refine ok_b1 (ok_MarkReader_mayBeginMove S r1x1_z r3x1_z r5x1_z v2 hC (by omega) (by omega) (by omega)) (fun r22x1_z h35_y => ?_)
            refine ok_chk (by omega) ?_
            exact ok_some (by omega)
          · refine ok_chk ((hC).2.2.2.2.2 hb).1.2.1 ?_
            refine ok_b1 (ok_Pile_canBeStet S r1x1_z hC) (fun r25x1_z h36_y => ?_)
            refine ok_chk (by omega) ?_
            exact ok_some (by omega)
set_option maxHeartbeats 4000000 in
theorem okl_MarkReader_isToken_20 {b : Nat} (S : SS) (i1 : Nat) (hC : CX b S) (hb : 2 ≤ b) (hi1 : i1 < 13) : ∀ (n : Nat) (v2_ : Int), (0 ≤ v2_ ∧ v2_ ≤ 100) → 100 - v2_ < (n : Int) → okk (f_MarkReader_isToken_20 S i1 n v2_) (fun r => r = 0 ∨ r = 1) := by
  intro n
  induction n with
  | zero => intro v2_ hi hm; exfalso; omega
  | succ n ih =>
    intro v2_ hi hm
    have hm : 100 - v2_ < (n : Int) + 1 := by omega
    show okk (f_MarkReader_isToken_20_b S i1 (f_MarkReader_isToken_20 S i1 n) v2_) _
    unfold f_MarkReader_isToken_20_b
    have b1_y := len_rng S hi1
    refine ok_if (fun c2_y => ?_) (fun c2_y => ?_)
    · exact ok_some (by omega)
    · refine ok_chk ((hC).2.2.2.2.2 hb).1.1 ?_
      have b3_y := cx_177_5 hC
      refine ok_chk (by omega) ?_
      have b5_y := cx_1_1 hC
      refine ok_b1 (ok_Tape_byteAt S ((gi S 177 5) + v2_) hC) (fun r4_z h4_y => ?_)
      refine ok_b1 (ok_charAt S i1 v2_ hC hi1 (by omega)) (fun r6_z h6_y => ?_)
      refine ok_if (fun c7_y => ?_) (fun c7_y => ?_)
      · refine ok_chk (by omega) ?_
        exact ih (v2_ + 1) (by omega) (by omega)
      · exact ok_some (by omega)
set_option maxHeartbeats 4000000 in
theorem ok_MarkReader_isToken {b : Nat} (S : SS) (i1 : Nat) (hC : CX b S) (hb : 2 ≤ b) (hi1 : i1 < 13) : okk (f_MarkReader_isToken S i1) (fun r => r = 0 ∨ r = 1) := by
  unfold f_MarkReader_isToken
  have b2_y := cx_177_4 hC
  have b3_y := cx_177_5 hC
  refine ok_chk (by omega) ?_
  have b4_y := len_rng S hi1
  refine ok_if (fun c5_y => ?_) (fun c5_y => ?_)
  · exact okl_MarkReader_isToken_20 S i1 hC hb hi1 FU 0 (by omega) (by unfold FU; omega)
  · exact ok_some (by omega)
set_option maxHeartbeats 4000000 in
theorem ok_MarkReader_handNamed {b : Nat} (S : SS) (hC : CX b S) (hb : 2 ≤ b) : okk (f_MarkReader_handNamed S) (fun r => -1 ≤ r ∧ r ≤ 2) := by
  unfold f_MarkReader_handNamed
  refine ok_b1 (ok_MarkReader_isToken S 1 hC hb (by decide)) (fun r1x1_z h2_y => ?_)
  refine ok_if (fun c3_y => ?_) (fun c3_y => ?_)
  · refine ok_b1 (ok_MarkReader_isToken S 2 hC hb (by decide)) (fun r3x1_z h4_y => ?_)
    refine ok_if (fun c5_y => ?_) (fun c5_y => ?_)
    · refine ok_b1 (ok_MarkReader_isToken S 3 hC hb (by decide)) (fun r5x1_z h6_y => ?_)
      refine ok_if (fun c7_y => ?_) (fun c7_y => ?_)
      · exact ok_some (by omega)
      · exact ok_some (by omega)
    · exact ok_some (by omega)
  · exact ok_some (by omega)
set_option maxHeartbeats 4000000 in
theorem ok_MarkReader_kindNamed {b : Nat} (S : SS) (hC : CX b S) (hb : 2 ≤ b) : okk (f_MarkReader_kindNamed S) (fun r => -1 ≤ r ∧ r ≤ 5) := by
  unfold f_MarkReader_kindNamed
  refine ok_b1 (ok_MarkReader_isToken S 5 hC hb (by decide)) (fun r1x1_z h2_y => ?_)
  refine ok_if (fun c3_y => ?_) (fun c3_y => ?_)
  · refine ok_b1 (ok_MarkReader_isToken S 6 hC hb (by decide)) (fun r3x1_z h4_y => ?_)
    refine ok_if (fun c5_y => ?_) (fun c5_y => ?_)
    · refine ok_b1 (ok_MarkReader_isToken S 7 hC hb (by decide)) (fun r5x1_z h6_y => ?_)
      refine ok_if (fun c7_y => ?_) (fun c7_y => ?_)
      · refine ok_b1 (ok_MarkReader_isToken S 8 hC hb (by decide)) (fun r7x1_z h8_y => ?_)
        refine ok_if (fun c9_y => ?_) (fun c9_y => ?_)
        · refine ok_b1 (ok_MarkReader_isToken S 9 hC hb (by decide)) (fun r9x1_z h10_y => ?_)
          refine ok_if (fun c11_y => ?_) (fun c11_y => ?_)
          · refine ok_b1 (ok_MarkReader_isToken S 10 hC hb (by decide)) (fun r11x1_z h12_y => ?_)
            refine ok_if (fun c13_y => ?_) (fun c13_y => ?_)
            · exact ok_some (by omega)
            · exact ok_some (by omega)
          · exact ok_some (by omega)
        · exact ok_some (by omega)
      · exact ok_some (by omega)
    · exact ok_some (by omega)
  · exact ok_some (by omega)
set_option maxHeartbeats 4000000 in
theorem okl_MarkReader_readNumbers_33 {b : Nat} (j1 : Nat) (hb : 2 ≤ b) (hj1 : j1 < 40) : ∀ (n : Nat) (S : SS) (v2_ : Int) (v3_ : Int), CX b S → (0 ≤ v2_ ∧ v2_ ≤ 3 ∧ 0 ≤ v3_ ∧ v3_ ≤ 3) → 3 - v3_ < (n : Int) → okk (f_MarkReader_readNumbers_33 j1 n S v2_ v3_) (fun u => CX b u.2 ∧ (u.1 = 0 ∨ u.1 = 1)) := by
  intro n
  induction n with
  | zero => intro S v2_ v3_ hC hi hm; exfalso; omega
  | succ n ih =>
    intro S v2_ v3_ hC hi hm
    have hm : 3 - v3_ < (n : Int) + 1 := by omega
    show okk (f_MarkReader_readNumbers_33_b j1 (f_MarkReader_readNumbers_33 j1 n) S v2_ v3_) _
    unfold f_MarkReader_readNumbers_33_b
    refine ok_if (fun c1_y => ?_) (fun c1_y => ?_)
    · exact ok_some ⟨hC, by omega⟩
    · refine ok_b1 (ok_MarkReader_readToken S hC hb) (fun S1_z h2_y => ?_)
      obtain ⟨h3_y, p4_y⟩ := h2_y
      refine ok_if (fun c5_y => ?_) (fun c5_y => ?_)
      · have b6_y := cx_177_4 h3_y
        have b7_y := cx_177_5 h3_y
        refine ok_chk (by omega) ?_
        refine ok_if (fun c8_y => ?_) (fun c8_y => ?_)
        · refine ok_b1 (ok_MarkReader_numberRead S1_z h3_y hb p4_y (by omega) (by omega)) (fun r7_z h9_y => ?_)
          refine ok_b1 (ok_Mark_setNumber S1_z j1 v3_ r7_z h3_y hj1 (by omega)) (fun S9_z h10_y => ?_)
          obtain ⟨h11_y, p12_y⟩ := h10_y
          refine ok_b1 (ok_MarkReader_mayBegin S9_z j1 v3_ h11_y hb hj1) (fun r11_z h13_y => ?_)
          refine ok_if (fun c14_y => ?_) (fun c14_y => ?_)
          · refine ok_b2 (ok_MarkReader_refuse S9_z 2 h11_y hb (by omega)) (fun r15_z S14_z h15_y => ?_)
            obtain ⟨h16_y, p17_y⟩ := h15_y
            refine ok_chk (by omega) ?_
            exact ok_some ⟨h16_y, by omega⟩
          · refine ok_chk (by omega) ?_
            exact ih S9_z v2_ (v3_ + 1) h11_y (by omega) (by omega)
        · unfold f_MarkReader_readNumbers_63
          refine ok_b2 (ok_MarkReader_refuse S1_z 1 h3_y hb (by omega)) (fun r2x18_z S1x18_z h19_y => ?_)
          obtain ⟨h20_y, p21_y⟩ := h19_y
          refine ok_chk (by omega) ?_
          exact ok_some ⟨h20_y, by omega⟩
      · unfold f_MarkReader_readNumbers_63
        refine ok_b2 (ok_MarkReader_refuse S1_z 1 h3_y hb (by omega)) (fun r2x22_z S1x22_z h23_y => ?_)
        obtain ⟨h24_y, p25_y⟩ := h23_y
        refine ok_chk (by omega) ?_
        exact ok_some ⟨h24_y, by omega⟩
set_option maxHeartbeats 4000000 in
theorem ok_MarkReader_readNumbers {b : Nat} (S : SS) (j1 : Nat) (hC : CX b S) (hb : 2 ≤ b) (hj1 : j1 < 40) : okk (f_MarkReader_readNumbers S j1) (fun u => CX b u.2 ∧ (u.1 = 0 ∨ u.1 = 1)) := by
  unfold f_MarkReader_readNumbers
  have b2_y := cx_mk_2 hC hj1
  refine ok_if (fun c3_y => ?_) (fun c3_y => ?_)
  · unfold f_MarkReader_readNumbers_18
    unfold f_MarkReader_readNumbers_30
    exact okl_MarkReader_readNumbers_33 j1 hb hj1 FU S 0 0 hC (by omega) (by unfold FU; omega)
  · refine ok_if (fun c6_y => ?_) (fun c6_y => ?_)
    · refine ok_chk (by omega) ?_
      unfold f_MarkReader_readNumbers_30
      have b8_y := num6_all (gi S (14 + 4 * j1) 2).toNat (by omega)
      exact okl_MarkReader_readNumbers_33 j1 hb hj1 FU S (num6 (gi S (14 + 4 * j1) 2).toNat) 0 hC (by omega) (by unfold FU; omega)
    · unfold f_MarkReader_readNumbers_18
      unfold f_MarkReader_readNumbers_30
      exact okl_MarkReader_readNumbers_33 j1 hb hj1 FU S 0 0 hC (by omega) (by unfold FU; omega)
set_option maxHeartbeats 4000000 in
theorem okl_MarkReader_readWord_11 {b : Nat} (j1 : Nat) (hb : 2 ≤ b) (hj1 : j1 < 40) : ∀ (n : Nat) (S : SS) (w2_ : Int64) (v4_ : Int) (v5_ : Int), CX b S → (0 ≤ v5_ ∧ v5_ ≤ 2000) → 2000 - v5_ < (n : Int) → okk (f_MarkReader_readWord_11 j1 n S w2_ v4_ v5_) (fun u => CX b u.2 ∧ (u.1 = 0 ∨ u.1 = 1)) := by
  intro n
  induction n with
  | zero => intro S w2_ v4_ v5_ hC hi hm; exfalso; omega
  | succ n ih =>
    intro S w2_ v4_ v5_ hC hi hm
    have hm : 2000 - v5_ < (n : Int) + 1 := by omega
    show okk (f_MarkReader_readWord_11_b j1 (f_MarkReader_readWord_11 j1 n) S w2_ v4_ v5_) _
    unfold f_MarkReader_readWord_11_b
    refine ok_chk ((hC).2.2.2.2.2 hb).1.1 ?_
    have b1_y := cx_1_1 hC
    refine ok_if (fun c2_y => ?_) (fun c2_y => ?_)
    · unfold f_MarkReader_readWord_95
      refine ok_if (fun c4_y => ?_) (fun c4_y => ?_)
      · unfold f_MarkReader_readWord_114
        refine ok_b2 (ok_MarkReader_refuse S 1 hC hb (by omega)) (fun r2x5_z S1x5_z h6_y => ?_)
        obtain ⟨h7_y, p8_y⟩ := h6_y
        refine ok_chk (by omega) ?_
        exact ok_some ⟨h7_y, by omega⟩
      · have b9_y := cx_177_4 hC
        have b10_y := cx_177_5 hC
        refine ok_chk (by omega) ?_
        refine ok_if (fun c11_y => ?_) (fun c11_y => ?_)
        · have b12_y := cx_sh hC (show shOk (14 + 4 * j1 + 2) by omega)
          refine ok_if (fun c13_y => ?_) (fun c13_y => ?_)
          · refine ok_b1 (ok_Sheet_add S (14 + 4 * j1 + 2) w2_ hC (show shOk (14 + 4 * j1 + 2) by omega)) (fun S5x3_z h14_y => ?_)
            obtain ⟨h15_y, p16_y⟩ := h14_y
            exact ok_some ⟨h15_y, by omega⟩
          · refine ok_b2 (ok_MarkReader_refuse S 3 hC hb (by omega)) (fun r8x3_z S7x3_z h17_y => ?_)
            obtain ⟨h18_y, p19_y⟩ := h17_y
            refine ok_chk (by omega) ?_
            exact ok_some ⟨h18_y, by omega⟩
        · unfold f_MarkReader_readWord_114
          refine ok_b2 (ok_MarkReader_refuse S 1 hC hb (by omega)) (fun r2x20_z S1x20_z h21_y => ?_)
          obtain ⟨h22_y, p23_y⟩ := h21_y
          refine ok_chk (by omega) ?_
          exact ok_some ⟨h22_y, by omega⟩
    · refine ok_chk ((hC).2.2.2.2.2 hb).1.1 ?_
      have b25_y := cx_1_1 hC
      refine ok_b1 (ok_Tape_byteAt S v5_ hC) (fun r2_z h24_y => ?_)
      refine ok_if (fun c26_y => ?_) (fun c26_y => ?_)
      · refine ok_if (fun c27_y => ?_) (fun c27_y => ?_)
        · unfold f_MarkReader_readWord_95
          refine ok_if (fun c29_y => ?_) (fun c29_y => ?_)
          · unfold f_MarkReader_readWord_114
            refine ok_b2 (ok_MarkReader_refuse S 1 hC hb (by omega)) (fun r2x30_z S1x30_z h31_y => ?_)
            obtain ⟨h32_y, p33_y⟩ := h31_y
            refine ok_chk (by omega) ?_
            exact ok_some ⟨h32_y, by omega⟩
          · have b34_y := cx_177_4 hC
            have b35_y := cx_177_5 hC
            refine ok_chk (by omega) ?_
            refine ok_if (fun c36_y => ?_) (fun c36_y => ?_)
            · have b37_y := cx_sh hC (show shOk (14 + 4 * j1 + 2) by omega)
              refine ok_if (fun c38_y => ?_) (fun c38_y => ?_)
              · refine ok_b1 (ok_Sheet_add S (14 + 4 * j1 + 2) w2_ hC (show shOk (14 + 4 * j1 + 2) by omega)) (fun S5x28_z h39_y => ?_)
                obtain ⟨h40_y, p41_y⟩ := h39_y
                exact ok_some ⟨h40_y, by omega⟩
              · refine ok_b2 (ok_MarkReader_refuse S 3 hC hb (by omega)) (fun r8x28_z S7x28_z h42_y => ?_)
                obtain ⟨h43_y, p44_y⟩ := h42_y
                refine ok_chk (by omega) ?_
                exact ok_some ⟨h43_y, by omega⟩
            · unfold f_MarkReader_readWord_114
              refine ok_b2 (ok_MarkReader_refuse S 1 hC hb (by omega)) (fun r2x45_z S1x45_z h46_y => ?_)
              obtain ⟨h47_y, p48_y⟩ := h46_y
              refine ok_chk (by omega) ?_
              exact ok_some ⟨h47_y, by omega⟩
        · refine ok_if (fun c49_y => ?_) (fun c49_y => ?_)
          · unfold f_MarkReader_readWord_69
            unfold f_MarkReader_readWord_70
            refine ok_chk (by omega) ?_
            refine ok_lt (fun S3x51_z eS3x51_z => ?_)
            have h52_y : CX b S3x51_z := by rw [eS3x51_z]; exact cs_177_4 hC (by omega) (by omega)
            have f53_y : gi S3x51_z 177 4 = v5_ + 1 := gi_eq eS3x51_z
            have f54_y : gi S3x51_z 1 1 = gi S 1 1 := gi_ne eS3x51_z (by omega)
            refine ok_chk (by omega) ?_
            exact ih S3x51_z ((lsh w2_ 8) ||| (i2l r2_z)) 0 (v5_ + 1) h52_y (by omega) (by omega)
          · refine ok_b1 (ok_MP_isOfWord S r2_z hC) (fun r5_z h55_y => ?_)
            refine ok_if (fun c56_y => ?_) (fun c56_y => ?_)
            · unfold f_MarkReader_readWord_69
              unfold f_MarkReader_readWord_70
              refine ok_chk (by omega) ?_
              refine ok_lt (fun S3x58_z eS3x58_z => ?_)
              have h59_y : CX b S3x58_z := by rw [eS3x58_z]; exact cs_177_4 hC (by omega) (by omega)
              have f60_y : gi S3x58_z 177 4 = v5_ + 1 := gi_eq eS3x58_z
              have f61_y : gi S3x58_z 1 1 = gi S 1 1 := gi_ne eS3x58_z (by omega)
              refine ok_chk (by omega) ?_
              exact ih S3x58_z ((lsh w2_ 8) ||| (i2l r2_z)) 0 (v5_ + 1) h59_y (by omega) (by omega)
            · unfold f_MarkReader_readWord_70
              refine ok_chk (by omega) ?_
              refine ok_lt (fun S3x62_z eS3x62_z => ?_)
              have h63_y : CX b S3x62_z := by rw [eS3x62_z]; exact cs_177_4 hC (by omega) (by omega)
              have f64_y : gi S3x62_z 177 4 = v5_ + 1 := gi_eq eS3x62_z
              have f65_y : gi S3x62_z 1 1 = gi S 1 1 := gi_ne eS3x62_z (by omega)
              refine ok_chk (by omega) ?_
              exact ih S3x62_z ((lsh w2_ 8) ||| (i2l r2_z)) 1 (v5_ + 1) h63_y (by omega) (by omega)
      · unfold f_MarkReader_readWord_95
        refine ok_if (fun c67_y => ?_) (fun c67_y => ?_)
        · unfold f_MarkReader_readWord_114
          refine ok_b2 (ok_MarkReader_refuse S 1 hC hb (by omega)) (fun r2x68_z S1x68_z h69_y => ?_)
          obtain ⟨h70_y, p71_y⟩ := h69_y
          refine ok_chk (by omega) ?_
          exact ok_some ⟨h70_y, by omega⟩
        · have b72_y := cx_177_4 hC
          have b73_y := cx_177_5 hC
          refine ok_chk (by omega) ?_
          refine ok_if (fun c74_y => ?_) (fun c74_y => ?_)
          · have b75_y := cx_sh hC (show shOk (14 + 4 * j1 + 2) by omega)
            refine ok_if (fun c76_y => ?_) (fun c76_y => ?_)
            · refine ok_b1 (ok_Sheet_add S (14 + 4 * j1 + 2) w2_ hC (show shOk (14 + 4 * j1 + 2) by omega)) (fun S5x66_z h77_y => ?_)
              obtain ⟨h78_y, p79_y⟩ := h77_y
              exact ok_some ⟨h78_y, by omega⟩
            · refine ok_b2 (ok_MarkReader_refuse S 3 hC hb (by omega)) (fun r8x66_z S7x66_z h80_y => ?_)
              obtain ⟨h81_y, p82_y⟩ := h80_y
              refine ok_chk (by omega) ?_
              exact ok_some ⟨h81_y, by omega⟩
          · unfold f_MarkReader_readWord_114
            refine ok_b2 (ok_MarkReader_refuse S 1 hC hb (by omega)) (fun r2x83_z S1x83_z h84_y => ?_)
            obtain ⟨h85_y, p86_y⟩ := h84_y
            refine ok_chk (by omega) ?_
            exact ok_some ⟨h85_y, by omega⟩
set_option maxHeartbeats 4000000 in
theorem ok_MarkReader_readWord {b : Nat} (S : SS) (j1 : Nat) (hC : CX b S) (hb : 2 ≤ b) (hj1 : j1 < 40) : okk (f_MarkReader_readWord S j1) (fun u => CX b u.2 ∧ (u.1 = 0 ∨ u.1 = 1)) := by
  unfold f_MarkReader_readWord
  have b2_y := cx_177_5 hC
  exact okl_MarkReader_readWord_11 j1 hb hj1 FU S 0 1 (gi S 177 5) hC (by omega) (by unfold FU; omega)
set_option maxHeartbeats 4000000 in
theorem okl_MarkReader_readWords_2 {b : Nat} (j1 : Nat) (hb : 2 ≤ b) (hj1 : j1 < 40) : ∀ (n : Nat) (S : SS) (v2_ : Int), CX b S → (0 ≤ v2_ ∧ v2_ ≤ 8) → 8 - v2_ < (n : Int) → okk (f_MarkReader_readWords_2 j1 n S v2_) (fun u => CX b u.2 ∧ (u.1 = 0 ∨ u.1 = 1)) := by
  intro n
  induction n with
  | zero => intro S v2_ hC hi hm; exfalso; omega
  | succ n ih =>
    intro S v2_ hC hi hm
    have hm : 8 - v2_ < (n : Int) + 1 := by omega
    show okk (f_MarkReader_readWords_2_b j1 (f_MarkReader_readWords_2 j1 n) S v2_) _
    unfold f_MarkReader_readWords_2_b
    refine ok_if (fun c1_y => ?_) (fun c1_y => ?_)
    · exact ok_some ⟨hC, by omega⟩
    · refine ok_b1 (ok_MarkReader_skipBlanks S hC hb) (fun S1_z h2_y => ?_)
      obtain ⟨h3_y, p4_y⟩ := h2_y
      have b5_y := cx_177_4 h3_y
      refine ok_lt (fun S4_z eS4_z => ?_)
      have h6_y : CX b S4_z := by rw [eS4_z]; exact cs_177_5 h3_y (by omega) (by omega)
      have f7_y : gi S4_z 177 5 = gi S1_z 177 4 := gi_eq eS4_z
      have f8_y : gi S4_z 177 4 = gi S1_z 177 4 := gi_ne eS4_z (by omega)
      refine ok_chk ((h6_y).2.2.2.2.2 hb).1.1 ?_
      have b10_y := cx_1_1 h6_y
      refine ok_b1 (ok_Tape_byteAt S4_z (gi S4_z 177 4) h6_y) (fun r6_z h9_y => ?_)
      refine ok_if (fun c11_y => ?_) (fun c11_y => ?_)
      · unfold f_MarkReader_readWords_47
        refine ok_b2 (ok_MarkReader_refuse S4_z 1 h6_y hb (by omega)) (fun r2x12_z S1x12_z h13_y => ?_)
        obtain ⟨h14_y, p15_y⟩ := h13_y
        refine ok_chk (by omega) ?_
        exact ok_some ⟨h14_y, by omega⟩
      · refine ok_if (fun c16_y => ?_) (fun c16_y => ?_)
        · refine ok_if (fun c17_y => ?_) (fun c17_y => ?_)
          · unfold f_MarkReader_readWords_47
            refine ok_b2 (ok_MarkReader_refuse S4_z 1 h6_y hb (by omega)) (fun r2x18_z S1x18_z h19_y => ?_)
            obtain ⟨h20_y, p21_y⟩ := h19_y
            refine ok_chk (by omega) ?_
            exact ok_some ⟨h20_y, by omega⟩
          · unfold f_MarkReader_readWords_53
            refine ok_if (fun c23_y => ?_) (fun c23_y => ?_)
            · refine ok_chk (by omega) ?_
              refine ok_lt (fun S7x22_z eS7x22_z => ?_)
              have h24_y : CX b S7x22_z := by rw [eS7x22_z]; exact cs_177_4 h6_y (by omega) (by omega)
              have f25_y : gi S7x22_z 177 4 = (gi S4_z 177 4) + 1 := gi_eq eS7x22_z
              have f26_y : gi S7x22_z 177 5 = gi S4_z 177 5 := gi_ne eS7x22_z (by omega)
              exact ok_some ⟨h24_y, by omega⟩
            · refine ok_b2 (ok_MarkReader_readWord S4_z j1 h6_y hb hj1) (fun r2x22_z S1x22_z h27_y => ?_)
              obtain ⟨h28_y, p29_y⟩ := h27_y
              refine ok_if (fun c30_y => ?_) (fun c30_y => ?_)
              · exact ok_some ⟨h28_y, by omega⟩
              · refine ok_chk (by omega) ?_
                exact ih S1x22_z (v2_ + 1) h28_y (by omega) (by omega)
        · unfold f_MarkReader_readWords_53
          refine ok_if (fun c32_y => ?_) (fun c32_y => ?_)
          · refine ok_chk (by omega) ?_
            refine ok_lt (fun S7x31_z eS7x31_z => ?_)
            have h33_y : CX b S7x31_z := by rw [eS7x31_z]; exact cs_177_4 h6_y (by omega) (by omega)
            have f34_y : gi S7x31_z 177 4 = (gi S4_z 177 4) + 1 := gi_eq eS7x31_z
            have f35_y : gi S7x31_z 177 5 = gi S4_z 177 5 := gi_ne eS7x31_z (by omega)
            exact ok_some ⟨h33_y, by omega⟩
          · refine ok_b2 (ok_MarkReader_readWord S4_z j1 h6_y hb hj1) (fun r2x31_z S1x31_z h36_y => ?_)
            obtain ⟨h37_y, p38_y⟩ := h36_y
            refine ok_if (fun c39_y => ?_) (fun c39_y => ?_)
            · exact ok_some ⟨h37_y, by omega⟩
            · refine ok_chk (by omega) ?_
              exact ih S1x31_z (v2_ + 1) h37_y (by omega) (by omega)
set_option maxHeartbeats 4000000 in
theorem ok_MarkReader_readWords {b : Nat} (S : SS) (j1 : Nat) (hC : CX b S) (hb : 2 ≤ b) (hj1 : j1 < 40) : okk (f_MarkReader_readWords S j1) (fun u => CX b u.2 ∧ (u.1 = 0 ∨ u.1 = 1)) := by
  unfold f_MarkReader_readWords
  exact okl_MarkReader_readWords_2 j1 hb hj1 FU S 0 hC (by omega) (by unfold FU; omega)
set_option maxHeartbeats 4000000 in
theorem ok_MarkReader_readLine {b : Nat} (S : SS) (hC : CX b S) (hb : 2 ≤ b) : okk (f_MarkReader_readLine S) (fun u => CX b u.2 ∧ ((u.1 = 0 ∨ u.1 = 1) ∧ (u.1 = 0 ∨ (b : Int) < 42))) := by
  unfold f_MarkReader_readLine
  refine ok_b1 (ok_MarkReader_handNamed S hC hb) (fun r1x1_z h2_y => ?_)
  refine ok_if (fun c3_y => ?_) (fun c3_y => ?_)
  · refine ok_b2 (ok_MarkReader_refuse S 1 hC hb (by omega)) (fun r20x1_z S19x1_z h4_y => ?_)
    obtain ⟨h5_y, p6_y⟩ := h4_y
    refine ok_chk (by omega) ?_
    exact ok_some ⟨h5_y, by omega⟩
  · refine ok_chk ((hC).2.2.2.2.2 hb).1.2.1 ?_
    refine ok_b2 (ok_Pile_blank2 S hC) (fun o4x1_z S3x1_z h7_y => ?_)
    obtain ⟨h8_y, p9_y⟩ := h7_y
    refine ok_on (fun h10_y => ?_) (fun j6x1_z h10_y => ?_)
    · refine ok_b2 (ok_MarkReader_refuse S3x1_z 3 h8_y hb (by omega)) (fun r8x1_z S7x1_z h11_y => ?_)
      obtain ⟨h12_y, p13_y⟩ := h11_y
      refine ok_chk (by omega) ?_
      exact ok_some ⟨h12_y, by omega⟩
    · have hj6x1_z : j6x1_z < 40 := (p9_y j6x1_z h10_y).1
      have s14_y := (p9_y j6x1_z h10_y).2
      have s15_y := ((hC).2.2.2.2.2 hb).2
      refine ok_chk (by omega) ?_
      refine ok_lt (fun S11x1_z eS11x1_z => ?_)
      have h16_y : CX b S11x1_z := by rw [eS11x1_z]; exact cs_mk_3 h8_y hj6x1_z (by omega) (by omega)
      refine ok_b1 (ok_MarkReader_readToken S11x1_z h16_y hb) (fun S12x1_z h17_y => ?_)
      obtain ⟨h18_y, p19_y⟩ := h17_y
      refine ok_b1 (ok_MarkReader_isToken S12x1_z 4 h18_y hb (by decide)) (fun r14x1_z h20_y => ?_)
      refine ok_if (fun c21_y => ?_) (fun c21_y => ?_)
      · unfold f_MarkReader_readLine_61
        refine ok_b1 (ok_MarkReader_kindNamed S12x1_z h18_y hb) (fun r1x22_z h23_y => ?_)
        refine ok_lt (fun S3x22_z eS3x22_z => ?_)
        have h24_y : CX b S3x22_z := by rw [eS3x22_z]; exact cs_mk_2 h18_y hj6x1_z (by omega) (by omega)
        have b25_y := cx_mk_2 h24_y hj6x1_z
        refine ok_if (fun c26_y => ?_) (fun c26_y => ?_)
        · unfold f_MarkReader_readLine_92
          refine ok_b2 (ok_MarkReader_refuse S3x22_z 1 h24_y hb (by omega)) (fun r2x27_z S1x27_z h28_y => ?_)
          obtain ⟨h29_y, p30_y⟩ := h28_y
          refine ok_chk (by omega) ?_
          exact ok_some ⟨h29_y, by omega⟩
        · have b31_y := cx_mk_7 h24_y hj6x1_z
          refine ok_if (fun c32_y => ?_) (fun c32_y => ?_)
          · unfold f_MarkReader_readLine_98
            refine ok_b2 (ok_MarkReader_readNumbers S3x22_z j6x1_z h24_y hb hj6x1_z) (fun r2x33_z S1x33_z h34_y => ?_)
            obtain ⟨h35_y, p36_y⟩ := h34_y
            refine ok_if (fun c37_y => ?_) (fun c37_y => ?_)
            · exact ok_some ⟨h35_y, by omega⟩
            · refine ok_b1 (ok_Mark_place S1x33_z j6x1_z h35_y hj6x1_z) (fun S4x33_z h38_y => ?_)
              obtain ⟨h39_y, p40_y⟩ := h38_y
              refine ok_b1 (ok_MarkReader_readToken S4x33_z h39_y hb) (fun S6x33_z h41_y => ?_)
              obtain ⟨h42_y, p43_y⟩ := h41_y
              have b44_y := cx_mk_2 h42_y hj6x1_z
              refine ok_if (fun c45_y => ?_) (fun c45_y => ?_)
              · unfold f_MarkReader_readLine_132
                refine ok_b1 (ok_MarkReader_isToken S6x33_z 11 h42_y hb (by decide)) (fun r1x46_z h47_y => ?_)
                refine ok_if (fun c48_y => ?_) (fun c48_y => ?_)
                · refine ok_b2 (ok_MarkReader_refuse S6x33_z 1 h42_y hb (by omega)) (fun r4x46_z S3x46_z h49_y => ?_)
                  obtain ⟨h50_y, p51_y⟩ := h49_y
                  refine ok_chk (by omega) ?_
                  exact ok_some ⟨h50_y, by omega⟩
                · refine ok_b2 (ok_MarkReader_readWords S6x33_z j6x1_z h42_y hb hj6x1_z) (fun r8x46_z S7x46_z h52_y => ?_)
                  obtain ⟨h53_y, p54_y⟩ := h52_y
                  refine ok_chk (by omega) ?_
                  exact ok_some ⟨h53_y, by omega⟩
              · refine ok_if (fun c55_y => ?_) (fun c55_y => ?_)
                · unfold f_MarkReader_readLine_132
                  refine ok_b1 (ok_MarkReader_isToken S6x33_z 11 h42_y hb (by decide)) (fun r1x56_z h57_y => ?_)
                  refine ok_if (fun c58_y => ?_) (fun c58_y => ?_)
                  · refine ok_b2 (ok_MarkReader_refuse S6x33_z 1 h42_y hb (by omega)) (fun r4x56_z S3x56_z h59_y => ?_)
                    obtain ⟨h60_y, p61_y⟩ := h59_y
                    refine ok_chk (by omega) ?_
                    exact ok_some ⟨h60_y, by omega⟩
                  · refine ok_b2 (ok_MarkReader_readWords S6x33_z j6x1_z h42_y hb hj6x1_z) (fun r8x56_z S7x56_z h62_y => ?_)
                    obtain ⟨h63_y, p64_y⟩ := h62_y
                    refine ok_chk (by omega) ?_
                    exact ok_some ⟨h63_y, by omega⟩
                · refine ok_b1 (ok_MarkReader_isToken S6x33_z 12 h42_y hb (by decide)) (fun r10x33_z h65_y => ?_)
                  refine ok_if (fun c66_y => ?_) (fun c66_y => ?_)
                  · refine ok_b2 (ok_MarkReader_refuse S6x33_z 1 h42_y hb (by omega)) (fun r13x33_z S12x33_z h67_y => ?_)
                    obtain ⟨h68_y, p69_y⟩ := h67_y
                    refine ok_if (fun c70_y => ?_) (fun c70_y => ?_)
                    · exact ok_some ⟨h68_y, by omega⟩
                    · exact ok_some ⟨h68_y, by omega⟩
                  · exact ok_some ⟨h42_y, by omega⟩
          · refine ok_if (fun c71_y => ?_) (fun c71_y => ?_)
            · unfold f_MarkReader_readLine_92
              refine ok_b2 (ok_MarkReader_refuse S3x22_z 1 h24_y hb (by omega)) (fun r2x72_z S1x72_z h73_y => ?_)
              obtain ⟨h74_y, p75_y⟩ := h73_y
              refine ok_chk (by omega) ?_
              exact ok_some ⟨h74_y, by omega⟩
            · unfold f_MarkReader_readLine_98
              refine ok_b2 (ok_MarkReader_readNumbers S3x22_z j6x1_z h24_y hb hj6x1_z) (fun r2x76_z S1x76_z h77_y => ?_)
              obtain ⟨h78_y, p79_y⟩ := h77_y
              refine ok_if (fun c80_y => ?_) (fun c80_y => ?_)
              · exact ok_some ⟨h78_y, by omega⟩
              · refine ok_b1 (ok_Mark_place S1x76_z j6x1_z h78_y hj6x1_z) (fun S4x76_z h81_y => ?_)
                obtain ⟨h82_y, p83_y⟩ := h81_y
                refine ok_b1 (ok_MarkReader_readToken S4x76_z h82_y hb) (fun S6x76_z h84_y => ?_)
                obtain ⟨h85_y, p86_y⟩ := h84_y
                have b87_y := cx_mk_2 h85_y hj6x1_z
                refine ok_if (fun c88_y => ?_) (fun c88_y => ?_)
                · unfold f_MarkReader_readLine_132
                  refine ok_b1 (ok_MarkReader_isToken S6x76_z 11 h85_y hb (by decide)) (fun r1x89_z h90_y => ?_)
                  refine ok_if (fun c91_y => ?_) (fun c91_y => ?_)
                  · refine ok_b2 (ok_MarkReader_refuse S6x76_z 1 h85_y hb (by omega)) (fun r4x89_z S3x89_z h92_y => ?_)
                    obtain ⟨h93_y, p94_y⟩ := h92_y
                    refine ok_chk (by omega) ?_
                    exact ok_some ⟨h93_y, by omega⟩
                  · refine ok_b2 (ok_MarkReader_readWords S6x76_z j6x1_z h85_y hb hj6x1_z) (fun r8x89_z S7x89_z h95_y => ?_)
                    obtain ⟨h96_y, p97_y⟩ := h95_y
                    refine ok_chk (by omega) ?_
                    exact ok_some ⟨h96_y, by omega⟩
                · refine ok_if (fun c98_y => ?_) (fun c98_y => ?_)
                  · unfold f_MarkReader_readLine_132
                    refine ok_b1 (ok_MarkReader_isToken S6x76_z 11 h85_y hb (by decide)) (fun r1x99_z h100_y => ?_)
                    refine ok_if (fun c101_y => ?_) (fun c101_y => ?_)
                    · refine ok_b2 (ok_MarkReader_refuse S6x76_z 1 h85_y hb (by omega)) (fun r4x99_z S3x99_z h102_y => ?_)
                      obtain ⟨h103_y, p104_y⟩ := h102_y
                      refine ok_chk (by omega) ?_
                      exact ok_some ⟨h103_y, by omega⟩
                    · refine ok_b2 (ok_MarkReader_readWords S6x76_z j6x1_z h85_y hb hj6x1_z) (fun r8x99_z S7x99_z h105_y => ?_)
                      obtain ⟨h106_y, p107_y⟩ := h105_y
                      refine ok_chk (by omega) ?_
                      exact ok_some ⟨h106_y, by omega⟩
                  · refine ok_b1 (ok_MarkReader_isToken S6x76_z 12 h85_y hb (by decide)) (fun r10x76_z h108_y => ?_)
                    refine ok_if (fun c109_y => ?_) (fun c109_y => ?_)
                    · refine ok_b2 (ok_MarkReader_refuse S6x76_z 1 h85_y hb (by omega)) (fun r13x76_z S12x76_z h110_y => ?_)
                      obtain ⟨h111_y, p112_y⟩ := h110_y
                      refine ok_if (fun c113_y => ?_) (fun c113_y => ?_)
                      · exact ok_some ⟨h111_y, by omega⟩
                      · exact ok_some ⟨h111_y, by omega⟩
                    · exact ok_some ⟨h85_y, by omega⟩
      · refine ok_lt (fun S16x1_z eS16x1_z => ?_)
        have h114_y : CX b S16x1_z := by rw [eS16x1_z]; exact cs_mk_7 h18_y hj6x1_z (by omega) (by omega)
        refine ok_b1 (ok_MarkReader_readToken S16x1_z h114_y hb) (fun S17x1_z h115_y => ?_)
        obtain ⟨h116_y, p117_y⟩ := h115_y
        unfold f_MarkReader_readLine_61
        refine ok_b1 (ok_MarkReader_kindNamed S17x1_z h116_y hb) (fun r1x118_z h119_y => ?_)
        refine ok_lt (fun S3x118_z eS3x118_z => ?_)
        have h120_y : CX b S3x118_z := by rw [eS3x118_z]; exact cs_mk_2 h116_y hj6x1_z (by omega) (by omega)
        have b121_y := cx_mk_2 h120_y hj6x1_z
        refine ok_if (fun c122_y => ?_) (fun c122_y => ?_)
        · unfold f_MarkReader_readLine_92
          refine ok_b2 (ok_MarkReader_refuse S3x118_z 1 h120_y hb (by omega)) (fun r2x123_z S1x123_z h124_y => ?_)
          obtain ⟨h125_y, p126_y⟩ := h124_y
          refine ok_chk (by omega) ?_
          exact ok_some ⟨h125_y, by omega⟩
        · have b127_y := cx_mk_7 h120_y hj6x1_z
          refine ok_if (fun c128_y => ?_) (fun c128_y => ?_)
          · unfold f_MarkReader_readLine_98
            refine ok_b2 (ok_MarkReader_readNumbers S3x118_z j6x1_z h120_y hb hj6x1_z) (fun r2x129_z S1x129_z h130_y => ?_)
            obtain ⟨h131_y, p132_y⟩ := h130_y
            refine ok_if (fun c133_y => ?_) (fun c133_y => ?_)
            · exact ok_some ⟨h131_y, by omega⟩
            · refine ok_b1 (ok_Mark_place S1x129_z j6x1_z h131_y hj6x1_z) (fun S4x129_z h134_y => ?_)
              obtain ⟨h135_y, p136_y⟩ := h134_y
              refine ok_b1 (ok_MarkReader_readToken S4x129_z h135_y hb) (fun S6x129_z h137_y => ?_)
              obtain ⟨h138_y, p139_y⟩ := h137_y
              have b140_y := cx_mk_2 h138_y hj6x1_z
              refine ok_if (fun c141_y => ?_) (fun c141_y => ?_)
              · unfold f_MarkReader_readLine_132
                refine ok_b1 (ok_MarkReader_isToken S6x129_z 11 h138_y hb (by decide)) (fun r1x142_z h143_y => ?_)
                refine ok_if (fun c144_y => ?_) (fun c144_y => ?_)
                · refine ok_b2 (ok_MarkReader_refuse S6x129_z 1 h138_y hb (by omega)) (fun r4x142_z S3x142_z h145_y => ?_)
                  obtain ⟨h146_y, p147_y⟩ := h145_y
                  refine ok_chk (by omega) ?_
                  exact ok_some ⟨h146_y, by omega⟩
                · refine ok_b2 (ok_MarkReader_readWords S6x129_z j6x1_z h138_y hb hj6x1_z) (fun r8x142_z S7x142_z h148_y => ?_)
                  obtain ⟨h149_y, p150_y⟩ := h148_y
                  refine ok_chk (by omega) ?_
                  exact ok_some ⟨h149_y, by omega⟩
              · refine ok_if (fun c151_y => ?_) (fun c151_y => ?_)
                · unfold f_MarkReader_readLine_132
                  refine ok_b1 (ok_MarkReader_isToken S6x129_z 11 h138_y hb (by decide)) (fun r1x152_z h153_y => ?_)
                  refine ok_if (fun c154_y => ?_) (fun c154_y => ?_)
                  · refine ok_b2 (ok_MarkReader_refuse S6x129_z 1 h138_y hb (by omega)) (fun r4x152_z S3x152_z h155_y => ?_)
                    obtain ⟨h156_y, p157_y⟩ := h155_y
                    refine ok_chk (by omega) ?_
                    exact ok_some ⟨h156_y, by omega⟩
                  · refine ok_b2 (ok_MarkReader_readWords S6x129_z j6x1_z h138_y hb hj6x1_z) (fun r8x152_z S7x152_z h158_y => ?_)
                    obtain ⟨h159_y, p160_y⟩ := h158_y
                    refine ok_chk (by omega) ?_
                    exact ok_some ⟨h159_y, by omega⟩
                · refine ok_b1 (ok_MarkReader_isToken S6x129_z 12 h138_y hb (by decide)) (fun r10x129_z h161_y => ?_)
                  refine ok_if (fun c162_y => ?_) (fun c162_y => ?_)
                  · refine ok_b2 (ok_MarkReader_refuse S6x129_z 1 h138_y hb (by omega)) (fun r13x129_z S12x129_z h163_y => ?_)
                    obtain ⟨h164_y, p165_y⟩ := h163_y
                    refine ok_if (fun c166_y => ?_) (fun c166_y => ?_)
                    · exact ok_some ⟨h164_y, by omega⟩
                    · exact ok_some ⟨h164_y, by omega⟩
                  · exact ok_some ⟨h138_y, by omega⟩
          · refine ok_if (fun c167_y => ?_) (fun c167_y => ?_)
            · unfold f_MarkReader_readLine_92
              refine ok_b2 (ok_MarkReader_refuse S3x118_z 1 h120_y hb (by omega)) (fun r2x168_z S1x168_z h169_y => ?_)
              obtain ⟨h170_y, p171_y⟩ := h169_y
              refine ok_chk (by omega) ?_
              exact ok_some ⟨h170_y, by omega⟩
            · unfold f_MarkReader_readLine_98
              refine ok_b2 (ok_MarkReader_readNumbers S3x118_z j6x1_z h120_y hb hj6x1_z) (fun r2x172_z S1x172_z h173_y => ?_)
              obtain ⟨h174_y, p175_y⟩ := h173_y
              refine ok_if (fun c176_y => ?_) (fun c176_y => ?_)
              · exact ok_some ⟨h174_y, by omega⟩
              · refine ok_b1 (ok_Mark_place S1x172_z j6x1_z h174_y hj6x1_z) (fun S4x172_z h177_y => ?_)
                obtain ⟨h178_y, p179_y⟩ := h177_y
                refine ok_b1 (ok_MarkReader_readToken S4x172_z h178_y hb) (fun S6x172_z h180_y => ?_)
                obtain ⟨h181_y, p182_y⟩ := h180_y
                have b183_y := cx_mk_2 h181_y hj6x1_z
                refine ok_if (fun c184_y => ?_) (fun c184_y => ?_)
                · unfold f_MarkReader_readLine_132
                  refine ok_b1 (ok_MarkReader_isToken S6x172_z 11 h181_y hb (by decide)) (fun r1x185_z h186_y => ?_)
                  refine ok_if (fun c187_y => ?_) (fun c187_y => ?_)
                  · refine ok_b2 (ok_MarkReader_refuse S6x172_z 1 h181_y hb (by omega)) (fun r4x185_z S3x185_z h188_y => ?_)
                    obtain ⟨h189_y, p190_y⟩ := h188_y
                    refine ok_chk (by omega) ?_
                    exact ok_some ⟨h189_y, by omega⟩
                  · refine ok_b2 (ok_MarkReader_readWords S6x172_z j6x1_z h181_y hb hj6x1_z) (fun r8x185_z S7x185_z h191_y => ?_)
                    obtain ⟨h192_y, p193_y⟩ := h191_y
                    refine ok_chk (by omega) ?_
                    exact ok_some ⟨h192_y, by omega⟩
                · refine ok_if (fun c194_y => ?_) (fun c194_y => ?_)
                  · unfold f_MarkReader_readLine_132
                    refine ok_b1 (ok_MarkReader_isToken S6x172_z 11 h181_y hb (by decide)) (fun r1x195_z h196_y => ?_)
                    refine ok_if (fun c197_y => ?_) (fun c197_y => ?_)
                    · refine ok_b2 (ok_MarkReader_refuse S6x172_z 1 h181_y hb (by omega)) (fun r4x195_z S3x195_z h198_y => ?_)
                      obtain ⟨h199_y, p200_y⟩ := h198_y
                      refine ok_chk (by omega) ?_
                      exact ok_some ⟨h199_y, by omega⟩
                    · refine ok_b2 (ok_MarkReader_readWords S6x172_z j6x1_z h181_y hb hj6x1_z) (fun r8x195_z S7x195_z h201_y => ?_)
                      obtain ⟨h202_y, p203_y⟩ := h201_y
                      refine ok_chk (by omega) ?_
                      exact ok_some ⟨h202_y, by omega⟩
                  · refine ok_b1 (ok_MarkReader_isToken S6x172_z 12 h181_y hb (by decide)) (fun r10x172_z h204_y => ?_)
                    refine ok_if (fun c205_y => ?_) (fun c205_y => ?_)
                    · refine ok_b2 (ok_MarkReader_refuse S6x172_z 1 h181_y hb (by omega)) (fun r13x172_z S12x172_z h206_y => ?_)
                      obtain ⟨h207_y, p208_y⟩ := h206_y
                      refine ok_if (fun c209_y => ?_) (fun c209_y => ?_)
                      · exact ok_some ⟨h207_y, by omega⟩
                      · exact ok_some ⟨h207_y, by omega⟩
                    · exact ok_some ⟨h181_y, by omega⟩
theorem okl_marks (v3 : Int) : ∀ (n : Nat) (b : Nat) (S : SS) (v5_ : Int), 2 ≤ b → b ≤ 42 → CX b S → (0 ≤ v5_ ∧ v5_ ≤ 41) → 41 - v5_ < (n : Int) → okk (f_MarkReader_readMarks_44 v3 n S v5_) (fun u => CX 0 u.2 ∧ (gi u.2 10 3 + gi u.2 10 4 ≤ 40 ∧ (u.1 = 0 ∨ u.1 = 1))) := by
  intro n
  induction n with
  | zero => intro b S v5_ hb hb2 hC hi hm; exfalso; omega
  | succ n ih =>
    intro b S v5_ hb hb2 hC hi hm
    have hm : 41 - v5_ < (n : Int) + 1 := by omega
    show okk (f_MarkReader_readMarks_44_b v3 (f_MarkReader_readMarks_44 v3 n) S v5_) _
    unfold f_MarkReader_readMarks_44_b
    have s0 := (hC.2.2.2.2.2 hb).2
    refine ok_if (fun _ => ok_some ⟨hC.weak, by dsimp only; omega⟩) (fun c1 => ?_)
    refine ok_b1 (ok_MarkReader_readToken S hC hb) (fun S1 h1 => ?_)
    have h1 := h1.1
    have s1 := (h1.2.2.2.2.2 hb).2
    refine ok_chk (h1.2.2.2.2.2 hb).1.1 (ok_if (fun _ => ?_) (fun _ => ok_some ⟨h1.weak, by dsimp only; omega⟩))
    refine ok_b2 (ok_MarkReader_readLine S1 h1 hb) (fun r6 S5 h5 => ?_)
    have p5 := h5.2
    have h5 := h5.1
    dsimp only at h5 p5
    have s5 := (h5.2.2.2.2.2 hb).2
    have b3 := cx_10_3 h5
    have b4 := cx_10_4 h5
    refine ok_if (fun _ => ok_some ⟨h5.weak, by dsimp only; omega⟩) (fun c2 => ?_)
    refine ok_chk (h5.2.2.2.2.2 hb).1.2.1 (ok_chk (by omega) (ok_lt (fun S10 e => ok_chk (by omega) ?_)))
    have e3 : gi S10 10 3 = gi S5 10 3 := gi_ne e (by omega)
    have e4 : gi S10 10 4 = gi S5 10 4 + 1 := gi_eq e
    have h10 : CX 0 S10 := by rw [e]; exact cs_10_4 h5.weak (by decide) (by omega) (by omega)
    have h10 : CX (b - 1 + 2) S10 := h10.two (by rw [e]; exact (h5.2.2.2.2.2 hb).1) (by omega)
    exact ih (b - 1 + 2) S10 (v5_ + 1) (by omega) (by omega) h10 (by omega) (by omega)
theorem ok_MarkReader_readMarks (S : SS) (v3 : Int) (hC : CX 0 S) (hp0 : gi S 10 3 ≤ 40) (hp1 : 0 ≤ v3 ∧ v3 ≤ 60) : okk (f_MarkReader_readMarks S v3) (fun u => CX 0 u.2 ∧ (gi u.2 10 3 + gi u.2 10 4 ≤ 40 ∧ (u.1 = 0 ∨ u.1 = 1))) := by
  unfold f_MarkReader_readMarks
  refine ok_lt (fun S1 e1 => ok_lt (fun S2 e2 => ok_lt (fun S3 e3 => ok_lt (fun S4 e4 => ok_lt (fun S5 e5 => ?_)))))
  have h1 : CX 0 S1 := by rw [e1]; exact cs_q177 hC (by decide)
  have h2 : CX 0 S2 := by rw [e2]; exact cs_q177 h1 (by decide)
  have h3 : CX 0 S3 := by rw [e3]; exact cs_q177 h2 (by decide)
  have h4 : CX 0 S4 := by rw [e4]; exact cs_177_3 h3 (by omega) (by omega)
  have h5 : CX 0 S5 := by rw [e5]; exact cs_177_4 h4 (by omega) (by omega)
  have q : ∀ k, gq S5 177 k = if k = 2 then some 3 else if k = 1 then some 10 else if k = 0 then some 1 else gq S 177 k := by
    intro k
    rw [e5, show ∀ v, gq (si S4 177 4 v) 177 k = gq S4 177 k from fun _ => rfl, e4, show ∀ v, gq (si S3 177 3 v) 177 k = gq S3 177 k from fun _ => rfl, e3, gq_sq, e2, gq_sq, e1, gq_sq]
    by_cases k2 : k = 2
    · rw [if_pos ⟨rfl, k2⟩, if_pos k2]
    · rw [if_neg (by omega), if_neg k2]
      by_cases k1 : k = 1
      · rw [if_pos ⟨rfl, k1⟩, if_pos k1]
      · rw [if_neg (by omega), if_neg k1]
        by_cases k0 : k = 0
        · rw [if_pos ⟨rfl, k0⟩, if_pos k0]
        · rw [if_neg (by omega), if_neg k0]
  have q3 : gq S5 177 0 = some 1 ∧ gq S5 177 1 = some 10 ∧ gq S5 177 2 = some 3 := ⟨by rw [q]; rfl, by rw [q]; rfl, by rw [q]; rfl⟩
  refine ok_chk q3.2.2 (ok_lt (fun S6 e6 => ?_))
  have h6 : CX 0 S6 := by rw [e6]; exact cx_Fault_clear h5
  have q6 : gq S6 177 0 = some 1 ∧ gq S6 177 1 = some 10 ∧ gq S6 177 2 = some 3 := by rw [e6]; exact q3
  refine ok_chk q6.2.1 (ok_lt (fun S8 e8 => ?_))
  have h8 : CX 0 S8 := by rw [e8]; exact cs_10_4 h6 (by decide) (by omega) (by omega)
  have q8 : gq S8 177 0 = some 1 ∧ gq S8 177 1 = some 10 ∧ gq S8 177 2 = some 3 := by rw [e8]; exact q6
  have b8 := cx_10_3 h8
  have z8 : gi S8 10 4 = 0 := gi_eq e8
  have h8 : CX ((gi S8 10 3).toNat + 2) S8 := h8.two q8 (by omega)
  exact okl_marks v3 FU _ S8 0 (by omega) (by omega) h8 (by omega) (by unfold FU; omega)
theorem ok_MP_marks (S : SS) (hC : CX 0 S) : okk (f_MP_marks S) (fun u => CX 0 u.2 ∧ True) := by
  have hs : gi S 4 1 ≤ 60 := (cx_sh hC (show shOk 4 by decide)).2.1
  have b4 := cx_sh hC (show shOk 4 by decide)
  have b3 := cx_10_3 hC
  unfold f_MP_marks
  refine ok_b2 (ok_MarkReader_readMarks S _ hC (by omega) (by omega)) (fun r3 S2 h2 => ok_lt (fun S5 e5 => ?_))
  have p2 := h2.2
  have h2 := h2.1
  dsimp only at h2 p2
  have h5 : CX 0 S5 := by rw [e5]; exact cs_1_1 h2 (by omega) (by omega)
  have f3 : gi S5 10 3 = gi S2 10 3 := gi_ne e5 (by omega)
  have f4 : gi S5 10 4 = gi S2 10 4 := gi_ne e5 (by omega)
  refine ok_if (fun _ => ok_some ⟨h5, trivial⟩) (fun _ => ?_)
  refine ok_b2 (ok_Pile_accept S5 h5 (by omega)) (fun r7 S6 h6 => ?_)
  refine ok_b1 (ok_MP_settle S6 h6.1) (fun S9 h9 => ?_)
  exact ok_some ⟨h9.1, trivial⟩
def bcb (o : Option Int) : Bool := match o with
  | some r => decide (0 ≤ r ∧ r ≤ 63)
  | none => false
set_option maxRecDepth 100000 in
theorem bc_all : ∀ n : Nat, n < 256 → bcb (f_bitCount SZ (n : Int)) = true := by decide +kernel
theorem ok_bitCount {b : Nat} (S : SS) (v : Int) (hC : CX b S) (hv : 0 ≤ v ∧ v ≤ 255) : okk (f_bitCount S v) (fun r => 0 ≤ r ∧ r ≤ 63) := by
  have h := bc_all v.toNat (by omega)
  rw [show ((v.toNat : Nat) : Int) = v by omega] at h
  show okk (f_bitCount SZ v) _
  cases q : f_bitCount SZ v with
  | none => rw [q] at h; cases h
  | some r => rw [q] at h; exact ok_some (of_decide_eq_true h)
theorem shl1_all : ∀ n : Nat, n < 9 → 1 ≤ shli 1 (n : Int) ∧ shli 1 (n : Int) ≤ 256 := by decide +kernel
theorem shl1 (k : Int) (h : 0 ≤ k ∧ k ≤ 8) : 1 ≤ shli 1 k ∧ shli 1 k ≤ 256 := by
  have h := shl1_all k.toNat (by omega)
  rw [show ((k.toNat : Nat) : Int) = k by omega] at h
  exact h
theorem mulr {a c : Int} (ha : 0 ≤ a ∧ a ≤ 400) (hc : 0 ≤ c ∧ c ≤ 9) : 0 ≤ a * c ∧ a * c ≤ 3600 := by
  have h1 := Int.mul_nonneg ha.1 hc.1
  have h2 : a * c ≤ 400 * 9 := Int.mul_le_mul ha.2 hc.2 hc.1 (by omega)
  omega
theorem okl_weigh (q2 q3 : Nat) (hq2 : shOk q2) (hq3 : shOk q3) : ∀ (n : Nat) (S : SS) (v6_ v7_ v8_ v9_ : Int), CX 0 S → (0 ≤ v6_ ∧ v6_ ≤ 100000 ∧ 0 ≤ v9_ ∧ v9_ ≤ 256 ∧ v8_ ≤ 256) → 256 - v9_ < (n : Int) → okk (f_Holding_weigh_23 q2 q3 n S v6_ v7_ v8_ v9_) (fun u => CX 0 u.2 ∧ True) := by
  intro n
  induction n with
  | zero => intro S v6_ v7_ v8_ v9_ hC hi hm; exfalso; omega
  | succ n ih =>
    intro S v6_ v7_ v8_ v9_ hC hi hm
    have hm : 256 - v9_ < (n : Int) + 1 := by omega
    show okk (f_Holding_weigh_23_b q2 q3 (f_Holding_weigh_23 q2 q3 n) S v6_ v7_ v8_ v9_) _
    unfold f_Holding_weigh_23_b
    refine ok_if (fun _ => ?_) (fun c1 => ?_)
    · refine ok_lt (fun S1 e1 => ?_)
      have h1 : CX 0 S1 := by rw [e1]; exact cs_183_7 hC (by omega) (by omega)
      refine ok_b1 (ok_Holding_listMissed S1 h1) (fun S2 h2 => ok_b1 (ok_Setter_takeDone S2 _ h2.1) (fun S5 h5 => ok_b1 (ok_Setter_make S5 q2 184 h5.1 hq2 (by decide)) (fun S7 h7 => ok_b1 (ok_Holding_listChanges S7 q3 h7.1 hq3) (fun S9 h9 => ok_some ⟨h9.1, trivial⟩))))
    have k1 : ∀ S', CX 0 S' → okk (f_Holding_weigh_160 q2 q3 (f_Holding_weigh_23 q2 q3 n) S' v6_ v7_ v8_ v9_) (fun u => CX 0 u.2 ∧ True) := by
      intro S' h'
      unfold f_Holding_weigh_160
      exact ok_chk (by omega) (ih S' v6_ v7_ v8_ (v9_ + 1) h' (by omega) (by omega))
    have k2 : ∀ S' (v10_ v12_ v13_ : Int), CX 0 S' → (0 ≤ v12_ ∧ v12_ ≤ 400 ∧ 0 ≤ v13_ ∧ v13_ ≤ 100000) → okk (f_Holding_weigh_140 q2 q3 (f_Holding_weigh_23 q2 q3 n) S' v8_ v9_ v10_ v12_ v13_) (fun u => CX 0 u.2 ∧ True) := by
      intro S' v10_ v12_ v13_ h' hv
      unfold f_Holding_weigh_140
      refine ok_lt (fun S1 e1 => ok_lt (fun S2 e2 => ?_))
      have h1 : CX 0 S1 := by rw [e1]; exact cs_183_8 h' (by omega) (by omega)
      have h2 : CX 0 S2 := by rw [e2]; exact cs_183_10 h1 (by omega) (by omega)
      unfold f_Holding_weigh_160
      exact ok_chk (by omega) (ih S2 v13_ v10_ v8_ (v9_ + 1) h2 (by omega) (by omega))
    refine ok_b1 (ok_bitCount S v9_ hC (by omega)) (fun r11 hr => ?_)
    have g6 := cx_183_6 hC
    have m6 := mulr (a := r11) (c := gi S 183 6) (by omega) (by omega)
    refine ok_chk (by omega) (ok_chk (by omega) (ok_b1 (ok_Holding_distanceFor S _ hC) (fun r16 h16 => ok_if (fun c2 => ?_) (fun _ => k1 S hC))))
    refine ok_b1 (ok_Setter_takeDone S v9_ hC) (fun S18 h18 => ok_b1 (ok_Setter_make S18 q2 184 h18.1 hq2 (by decide)) (fun S20 h20 => ok_b2 (ok_Ruler_measure S20 184 0 q3 0 r16 h20.1 (by decide) hq3 (by omega) (by omega) (by omega)) (fun r23 S22 h22 => ?_)))
    have p22 := h22.2
    have h22 := h22.1
    dsimp only at h22 p22
    have g5 := cx_183_5 h22
    have g6' := cx_183_6 h22
    have m5 := mulr (a := r23) (c := gi S22 183 5) (by omega) (by omega)
    have m6' := mulr (a := r11) (c := gi S22 183 6) (by omega) (by omega)
    refine ok_chk (by omega) (ok_chk (by omega) (ok_chk (by omega) ?_))
    refine ok_if (fun _ => k1 S22 h22) (fun _ => ok_if (fun _ => k2 S22 _ _ _ h22 (by omega)) (fun _ => ok_if (fun _ => ok_if (fun _ => k1 S22 h22) (fun _ => k2 S22 _ _ _ h22 (by omega))) (fun _ => k1 S22 h22)))
theorem ok_MP_hold (S : SS) (hC : CX 0 S) : okk (f_MP_hold S) (fun u => CX 0 u.2 ∧ True) := by
  have b5 := cx_10_5 hC
  unfold f_MP_hold
  refine ok_if (fun c1 => ?_) (fun _ => ok_some ⟨hC, trivial⟩)
  have hs := shl1 (min (gi S 10 5) 8) (by omega)
  unfold f_Holding_weigh
  exact ok_b2 (okl_weigh 4 6 (by decide) (by decide) FU S 100000 0 _ 0 hC (by omega) (by unfold FU; omega)) (fun r S1 h => ok_some ⟨h.1, trivial⟩)
def loM (r k : Nat) : Int := (if r = 192 then (if k = 3 then 0 else if k = 4 then 0 else if k = 5 then 0 else if k = 8 then 0 else if k = 9 then 0 else if k = 10 then 0 else if k = 11 then 0 else if k = 12 then 0 else if k = 13 then 0 else if k = 27 then 0 else if k = 36 then 0 else if k = 37 then 0 else if k = 38 then 0 else (-2147483648)) else if r = 199 then -1 else if r = 200 then 0 else if r = 201 then -1 else if r = 202 then -1 else if r = 203 then -1 else if r = 204 then 0 else if r = 205 then 0 else if r = 207 then 0 else if r = 208 then 0 else if r = 209 then 0 else if r = 210 then 0 else if r = 211 then 0 else if r = 212 then 0 else if r = 213 then -1 else if r = 214 then 0 else (-2147483648))
def hiM (r k : Nat) : Int := (if r = 192 then (if k = 3 then 60 else if k = 4 then 150 else if k = 5 then 300 else if k = 8 then 2000 else if k = 9 then 2000 else if k = 10 then 2001 else if k = 11 then 2001 else if k = 12 then 4 else if k = 13 then 999 else if k = 27 then 40 else if k = 36 then 8 else if k = 37 then 470 else if k = 38 then 1 else 2147483647) else if r = 199 then 5 else if r = 200 then 2 else if r = 201 then 60 else if r = 202 then 60 else if r = 203 then 60 else if r = 204 then 6 else if r = 205 then 2 else if r = 207 then 1 else if r = 208 then 1 else if r = 209 then 9 else if r = 210 then 999 else if r = 211 then 9 else if r = 212 then 4 else if r = 213 then 40 else if r = 214 then 1 else 2147483647)
def MX (b : Nat) (S : SS) : Prop := (b = 1 → gi S 192 11 ≤ gi S 192 9) ∧ ∀ r k, loM r k ≤ gi S r k ∧ gi S r k ≤ hiM r k
theorem MX.set {b : Nat} {S : SS} (h : MX b S) {r k : Nat} {v : Int} (h1 : loM r k ≤ v) (h2 : v ≤ hiM r k) (hn : b ≠ 1 ∨ r ≠ 192 ∨ (k ≠ 9 ∧ k ≠ 11)) : MX b (si S r k v) := by
  refine ⟨fun hb => ?_, fun r' k' => ?_⟩
  · rw [gi_si, gi_si, if_neg (by omega), if_neg (by omega)]; exact h.1 hb
  rw [gi_si]
  by_cases e : r' = r ∧ k' = k
  · rw [if_pos e, e.1, e.2]; exact ⟨h1, h2⟩
  · rw [if_neg e]; exact h.2 r' k'
theorem MX.weak {b : Nat} {S : SS} (h : MX b S) : MX 0 S := ⟨fun q => absurd q (by decide), h.2⟩
theorem ms_sl {b : Nat} {S : SS} (h : MX b S) {r k : Nat} {v : Int64} : MX b (sl S r k v) := h
theorem mx_192_3 {b : Nat} {S : SS} (h : MX b S) : 0 ≤ gi S 192 3 ∧ gi S 192 3 ≤ 60 := h.2 192 3
theorem ms_192_3 {b : Nat} {S : SS} (h : MX b S) {v : Int} (h1 : 0 ≤ v) (h2 : v ≤ 60) : MX b (si S 192 3 v) := h.set h1 h2 (.inr (.inr (by omega)))
theorem mx_192_4 {b : Nat} {S : SS} (h : MX b S) : 0 ≤ gi S 192 4 ∧ gi S 192 4 ≤ 150 := h.2 192 4
theorem ms_192_4 {b : Nat} {S : SS} (h : MX b S) {v : Int} (h1 : 0 ≤ v) (h2 : v ≤ 150) : MX b (si S 192 4 v) := h.set h1 h2 (.inr (.inr (by omega)))
theorem mx_192_5 {b : Nat} {S : SS} (h : MX b S) : 0 ≤ gi S 192 5 ∧ gi S 192 5 ≤ 300 := h.2 192 5
theorem ms_192_5 {b : Nat} {S : SS} (h : MX b S) {v : Int} (h1 : 0 ≤ v) (h2 : v ≤ 300) : MX b (si S 192 5 v) := h.set h1 h2 (.inr (.inr (by omega)))
theorem mx_192_8 {b : Nat} {S : SS} (h : MX b S) : 0 ≤ gi S 192 8 ∧ gi S 192 8 ≤ 2000 := h.2 192 8
theorem ms_192_8 {b : Nat} {S : SS} (h : MX b S) {v : Int} (h1 : 0 ≤ v) (h2 : v ≤ 2000) : MX b (si S 192 8 v) := h.set h1 h2 (.inr (.inr (by omega)))
theorem mx_192_9 {b : Nat} {S : SS} (h : MX b S) : 0 ≤ gi S 192 9 ∧ gi S 192 9 ≤ 2000 := h.2 192 9
theorem ms_192_9 {b : Nat} {S : SS} (h : MX b S) {v : Int} (hb : b ≠ 1) (h1 : 0 ≤ v) (h2 : v ≤ 2000) : MX b (si S 192 9 v) := h.set h1 h2 (.inl hb)
theorem mx_192_10 {b : Nat} {S : SS} (h : MX b S) : 0 ≤ gi S 192 10 ∧ gi S 192 10 ≤ 2001 := h.2 192 10
theorem ms_192_10 {b : Nat} {S : SS} (h : MX b S) {v : Int} (h1 : 0 ≤ v) (h2 : v ≤ 2001) : MX b (si S 192 10 v) := h.set h1 h2 (.inr (.inr (by omega)))
theorem mx_192_11 {b : Nat} {S : SS} (h : MX b S) : 0 ≤ gi S 192 11 ∧ gi S 192 11 ≤ 2001 := h.2 192 11
theorem ms_192_11 {b : Nat} {S : SS} (h : MX b S) {v : Int} (hb : b = 1 → v ≤ gi S 192 9) (h1 : 0 ≤ v) (h2 : v ≤ 2001) : MX b (si S 192 11 v) := ⟨fun q => by have := hb q; rw [gi_si, gi_si, if_pos ⟨rfl, rfl⟩, if_neg (by omega)]; omega, (MX.weak h |>.set h1 h2 (.inl (by decide))).2⟩
theorem mx_192_12 {b : Nat} {S : SS} (h : MX b S) : 0 ≤ gi S 192 12 ∧ gi S 192 12 ≤ 4 := h.2 192 12
theorem ms_192_12 {b : Nat} {S : SS} (h : MX b S) {v : Int} (h1 : 0 ≤ v) (h2 : v ≤ 4) : MX b (si S 192 12 v) := h.set h1 h2 (.inr (.inr (by omega)))
theorem mx_192_13 {b : Nat} {S : SS} (h : MX b S) : 0 ≤ gi S 192 13 ∧ gi S 192 13 ≤ 999 := h.2 192 13
theorem ms_192_13 {b : Nat} {S : SS} (h : MX b S) {v : Int} (h1 : 0 ≤ v) (h2 : v ≤ 999) : MX b (si S 192 13 v) := h.set h1 h2 (.inr (.inr (by omega)))
theorem mx_192_27 {b : Nat} {S : SS} (h : MX b S) : 0 ≤ gi S 192 27 ∧ gi S 192 27 ≤ 40 := h.2 192 27
theorem ms_192_27 {b : Nat} {S : SS} (h : MX b S) {v : Int} (h1 : 0 ≤ v) (h2 : v ≤ 40) : MX b (si S 192 27 v) := h.set h1 h2 (.inr (.inr (by omega)))
theorem mx_192_36 {b : Nat} {S : SS} (h : MX b S) : 0 ≤ gi S 192 36 ∧ gi S 192 36 ≤ 8 := h.2 192 36
theorem ms_192_36 {b : Nat} {S : SS} (h : MX b S) {v : Int} (h1 : 0 ≤ v) (h2 : v ≤ 8) : MX b (si S 192 36 v) := h.set h1 h2 (.inr (.inr (by omega)))
theorem mx_192_37 {b : Nat} {S : SS} (h : MX b S) : 0 ≤ gi S 192 37 ∧ gi S 192 37 ≤ 470 := h.2 192 37
theorem ms_192_37 {b : Nat} {S : SS} (h : MX b S) {v : Int} (h1 : 0 ≤ v) (h2 : v ≤ 470) : MX b (si S 192 37 v) := h.set h1 h2 (.inr (.inr (by omega)))
theorem mx_192_38 {b : Nat} {S : SS} (h : MX b S) : 0 ≤ gi S 192 38 ∧ gi S 192 38 ≤ 1 := h.2 192 38
theorem ms_192_38 {b : Nat} {S : SS} (h : MX b S) {v : Int} (h1 : 0 ≤ v) (h2 : v ≤ 1) : MX b (si S 192 38 v) := h.set h1 h2 (.inr (.inr (by omega)))
theorem mx_192_14 {b : Nat} {S : SS} (h : MX b S) : (-2147483648) ≤ gi S 192 14 ∧ gi S 192 14 ≤ 2147483647 := h.2 192 14
theorem ms_192_14 {b : Nat} {S : SS} (h : MX b S) {v : Int} (h1 : (-2147483648) ≤ v) (h2 : v ≤ 2147483647) : MX b (si S 192 14 v) := h.set h1 h2 (.inr (.inr (by omega)))
theorem mx_192_15 {b : Nat} {S : SS} (h : MX b S) : (-2147483648) ≤ gi S 192 15 ∧ gi S 192 15 ≤ 2147483647 := h.2 192 15
theorem ms_192_15 {b : Nat} {S : SS} (h : MX b S) {v : Int} (h1 : (-2147483648) ≤ v) (h2 : v ≤ 2147483647) : MX b (si S 192 15 v) := h.set h1 h2 (.inr (.inr (by omega)))
theorem mx_192_35 {b : Nat} {S : SS} (h : MX b S) : (-2147483648) ≤ gi S 192 35 ∧ gi S 192 35 ≤ 2147483647 := h.2 192 35
theorem ms_192_35 {b : Nat} {S : SS} (h : MX b S) {v : Int} (h1 : (-2147483648) ≤ v) (h2 : v ≤ 2147483647) : MX b (si S 192 35 v) := h.set h1 h2 (.inr (.inr (by omega)))
theorem mx_197 {b : Nat} {S : SS} (h : MX b S) (k : Nat) : (-2147483648) ≤ gi S 197 k ∧ gi S 197 k ≤ 2147483647 := h.2 197 k
theorem ms_197 {b : Nat} {S : SS} (h : MX b S) {k : Nat} {v : Int} (h1 : (-2147483648) ≤ v) (h2 : v ≤ 2147483647) : MX b (si S 197 k v) := h.set h1 h2 (.inr (.inl (by omega)))
theorem mx_199 {b : Nat} {S : SS} (h : MX b S) (k : Nat) : -1 ≤ gi S 199 k ∧ gi S 199 k ≤ 5 := h.2 199 k
theorem ms_199 {b : Nat} {S : SS} (h : MX b S) {k : Nat} {v : Int} (h1 : -1 ≤ v) (h2 : v ≤ 5) : MX b (si S 199 k v) := h.set h1 h2 (.inr (.inl (by omega)))
theorem mx_200 {b : Nat} {S : SS} (h : MX b S) (k : Nat) : 0 ≤ gi S 200 k ∧ gi S 200 k ≤ 2 := h.2 200 k
theorem ms_200 {b : Nat} {S : SS} (h : MX b S) {k : Nat} {v : Int} (h1 : 0 ≤ v) (h2 : v ≤ 2) : MX b (si S 200 k v) := h.set h1 h2 (.inr (.inl (by omega)))
theorem mx_201 {b : Nat} {S : SS} (h : MX b S) (k : Nat) : -1 ≤ gi S 201 k ∧ gi S 201 k ≤ 60 := h.2 201 k
theorem ms_201 {b : Nat} {S : SS} (h : MX b S) {k : Nat} {v : Int} (h1 : -1 ≤ v) (h2 : v ≤ 60) : MX b (si S 201 k v) := h.set h1 h2 (.inr (.inl (by omega)))
theorem mx_202 {b : Nat} {S : SS} (h : MX b S) (k : Nat) : -1 ≤ gi S 202 k ∧ gi S 202 k ≤ 60 := h.2 202 k
theorem ms_202 {b : Nat} {S : SS} (h : MX b S) {k : Nat} {v : Int} (h1 : -1 ≤ v) (h2 : v ≤ 60) : MX b (si S 202 k v) := h.set h1 h2 (.inr (.inl (by omega)))
theorem mx_203 {b : Nat} {S : SS} (h : MX b S) (k : Nat) : -1 ≤ gi S 203 k ∧ gi S 203 k ≤ 60 := h.2 203 k
theorem ms_203 {b : Nat} {S : SS} (h : MX b S) {k : Nat} {v : Int} (h1 : -1 ≤ v) (h2 : v ≤ 60) : MX b (si S 203 k v) := h.set h1 h2 (.inr (.inl (by omega)))
theorem mx_204 {b : Nat} {S : SS} (h : MX b S) (k : Nat) : 0 ≤ gi S 204 k ∧ gi S 204 k ≤ 6 := h.2 204 k
theorem ms_204 {b : Nat} {S : SS} (h : MX b S) {k : Nat} {v : Int} (h1 : 0 ≤ v) (h2 : v ≤ 6) : MX b (si S 204 k v) := h.set h1 h2 (.inr (.inl (by omega)))
theorem mx_205 {b : Nat} {S : SS} (h : MX b S) (k : Nat) : 0 ≤ gi S 205 k ∧ gi S 205 k ≤ 2 := h.2 205 k
theorem ms_205 {b : Nat} {S : SS} (h : MX b S) {k : Nat} {v : Int} (h1 : 0 ≤ v) (h2 : v ≤ 2) : MX b (si S 205 k v) := h.set h1 h2 (.inr (.inl (by omega)))
theorem mx_207 {b : Nat} {S : SS} (h : MX b S) (k : Nat) : 0 ≤ gi S 207 k ∧ gi S 207 k ≤ 1 := h.2 207 k
theorem ms_207 {b : Nat} {S : SS} (h : MX b S) {k : Nat} {v : Int} (h1 : 0 ≤ v) (h2 : v ≤ 1) : MX b (si S 207 k v) := h.set h1 h2 (.inr (.inl (by omega)))
theorem mx_208 {b : Nat} {S : SS} (h : MX b S) (k : Nat) : 0 ≤ gi S 208 k ∧ gi S 208 k ≤ 1 := h.2 208 k
theorem ms_208 {b : Nat} {S : SS} (h : MX b S) {k : Nat} {v : Int} (h1 : 0 ≤ v) (h2 : v ≤ 1) : MX b (si S 208 k v) := h.set h1 h2 (.inr (.inl (by omega)))
theorem mx_209 {b : Nat} {S : SS} (h : MX b S) (k : Nat) : 0 ≤ gi S 209 k ∧ gi S 209 k ≤ 9 := h.2 209 k
theorem ms_209 {b : Nat} {S : SS} (h : MX b S) {k : Nat} {v : Int} (h1 : 0 ≤ v) (h2 : v ≤ 9) : MX b (si S 209 k v) := h.set h1 h2 (.inr (.inl (by omega)))
theorem mx_210 {b : Nat} {S : SS} (h : MX b S) (k : Nat) : 0 ≤ gi S 210 k ∧ gi S 210 k ≤ 999 := h.2 210 k
theorem ms_210 {b : Nat} {S : SS} (h : MX b S) {k : Nat} {v : Int} (h1 : 0 ≤ v) (h2 : v ≤ 999) : MX b (si S 210 k v) := h.set h1 h2 (.inr (.inl (by omega)))
theorem mx_211 {b : Nat} {S : SS} (h : MX b S) (k : Nat) : 0 ≤ gi S 211 k ∧ gi S 211 k ≤ 9 := h.2 211 k
theorem ms_211 {b : Nat} {S : SS} (h : MX b S) {k : Nat} {v : Int} (h1 : 0 ≤ v) (h2 : v ≤ 9) : MX b (si S 211 k v) := h.set h1 h2 (.inr (.inl (by omega)))
theorem mx_212 {b : Nat} {S : SS} (h : MX b S) (k : Nat) : 0 ≤ gi S 212 k ∧ gi S 212 k ≤ 4 := h.2 212 k
theorem ms_212 {b : Nat} {S : SS} (h : MX b S) {k : Nat} {v : Int} (h1 : 0 ≤ v) (h2 : v ≤ 4) : MX b (si S 212 k v) := h.set h1 h2 (.inr (.inl (by omega)))
theorem mx_213 {b : Nat} {S : SS} (h : MX b S) (k : Nat) : -1 ≤ gi S 213 k ∧ gi S 213 k ≤ 40 := h.2 213 k
theorem ms_213 {b : Nat} {S : SS} (h : MX b S) {k : Nat} {v : Int} (h1 : -1 ≤ v) (h2 : v ≤ 40) : MX b (si S 213 k v) := h.set h1 h2 (.inr (.inl (by omega)))
theorem mx_214 {b : Nat} {S : SS} (h : MX b S) (k : Nat) : 0 ≤ gi S 214 k ∧ gi S 214 k ≤ 1 := h.2 214 k
theorem ms_214 {b : Nat} {S : SS} (h : MX b S) {k : Nat} {v : Int} (h1 : 0 ≤ v) (h2 : v ≤ 1) : MX b (si S 214 k v) := h.set h1 h2 (.inr (.inl (by omega)))
theorem mx_215 {b : Nat} {S : SS} (h : MX b S) (k : Nat) : (-2147483648) ≤ gi S 215 k ∧ gi S 215 k ≤ 2147483647 := h.2 215 k
theorem ms_215 {b : Nat} {S : SS} (h : MX b S) {k : Nat} {v : Int} (h1 : (-2147483648) ≤ v) (h2 : v ≤ 2147483647) : MX b (si S 215 k v) := h.set h1 h2 (.inr (.inl (by omega)))
theorem mx_216 {b : Nat} {S : SS} (h : MX b S) (k : Nat) : (-2147483648) ≤ gi S 216 k ∧ gi S 216 k ≤ 2147483647 := h.2 216 k
theorem ms_216 {b : Nat} {S : SS} (h : MX b S) {k : Nat} {v : Int} (h1 : (-2147483648) ≤ v) (h2 : v ≤ 2147483647) : MX b (si S 216 k v) := h.set h1 h2 (.inr (.inl (by omega)))
theorem mx_217 {b : Nat} {S : SS} (h : MX b S) (k : Nat) : (-2147483648) ≤ gi S 217 k ∧ gi S 217 k ≤ 2147483647 := h.2 217 k
theorem ms_217 {b : Nat} {S : SS} (h : MX b S) {k : Nat} {v : Int} (h1 : (-2147483648) ≤ v) (h2 : v ≤ 2147483647) : MX b (si S 217 k v) := h.set h1 h2 (.inr (.inl (by omega)))
theorem mx_218 {b : Nat} {S : SS} (h : MX b S) (k : Nat) : (-2147483648) ≤ gi S 218 k ∧ gi S 218 k ≤ 2147483647 := h.2 218 k
theorem ms_218 {b : Nat} {S : SS} (h : MX b S) {k : Nat} {v : Int} (h1 : (-2147483648) ≤ v) (h2 : v ≤ 2147483647) : MX b (si S 218 k v) := h.set h1 h2 (.inr (.inl (by omega)))
theorem mx_219 {b : Nat} {S : SS} (h : MX b S) (k : Nat) : (-2147483648) ≤ gi S 219 k ∧ gi S 219 k ≤ 2147483647 := h.2 219 k
theorem ms_219 {b : Nat} {S : SS} (h : MX b S) {k : Nat} {v : Int} (h1 : (-2147483648) ≤ v) (h2 : v ≤ 2147483647) : MX b (si S 219 k v) := h.set h1 h2 (.inr (.inl (by omega)))
theorem iI_M {r k : Nat} (h1 : r ≠ 192) (h2 : r ≠ 209) (h3 : r ≠ 210) (h4 : r ≠ 211) (h5 : 192 ≤ r) : iI r k = 0 := by
  unfold iI
  rw [if_neg (by omega), if_neg (by omega), if_neg (by omega), if_neg (by omega), if_neg h1, if_neg h2, if_neg h3, if_neg h4]
theorem loM0 {r k : Nat} : loM r k ≤ 0 ∧ 0 ≤ hiM r k := by
  constructor
  · unfold loM
    repeat' split
    all_goals omega
  · unfold hiM
    repeat' split
    all_goals omega
theorem loMx {r k : Nat} (h : r < 192) : loM r k = -2147483648 ∧ hiM r k = 2147483647 := by
  constructor
  · unfold loM; rw [if_neg (by omega), if_neg (by omega), if_neg (by omega), if_neg (by omega), if_neg (by omega), if_neg (by omega), if_neg (by omega), if_neg (by omega), if_neg (by omega), if_neg (by omega), if_neg (by omega), if_neg (by omega), if_neg (by omega), if_neg (by omega), if_neg (by omega), if_neg (by omega)]
  · unfold hiM; rw [if_neg (by omega), if_neg (by omega), if_neg (by omega), if_neg (by omega), if_neg (by omega), if_neg (by omega), if_neg (by omega), if_neg (by omega), if_neg (by omega), if_neg (by omega), if_neg (by omega), if_neg (by omega), if_neg (by omega), if_neg (by omega), if_neg (by omega), if_neg (by omega)]
theorem MX_0 : MX 0 SZ := by
  refine ⟨fun q => absurd q (by decide), fun r k => ?_⟩
  show loM r k ≤ iI r k ∧ iI r k ≤ hiM r k
  have hr := iI_rng r k
  have h0 := @loM0 r k
  by_cases h5 : r < 192
  · rw [(loMx h5).1, (loMx h5).2]; omega
  by_cases h1 : r = 192
  · subst h1
    by_cases q : k = 15
    · subst q; exact ⟨show (-2147483648 : Int) ≤ _ by omega, show _ ≤ (2147483647 : Int) by omega⟩
    · rw [show iI 192 k = 0 from by show (if k = 15 then (-1 : Int) else 0) = 0; rw [if_neg q]]; exact h0
  by_cases h2 : r = 209
  · subst h2
    have : 0 ≤ iI 209 k ∧ iI 209 k ≤ 2 := by
      show 0 ≤ (if k = 1 then (1 : Int) else if k = 2 then 2 else 0) ∧ (if k = 1 then (1 : Int) else if k = 2 then 2 else 0) ≤ 2
      repeat' split
      all_goals omega
    exact ⟨show (0 : Int) ≤ _ by omega, show _ ≤ (9 : Int) by omega⟩
  by_cases h3 : r = 210
  · subst h3
    exact ⟨show (0 : Int) ≤ _ from iI_191 k, show _ ≤ (999 : Int) by omega⟩
  by_cases h4 : r = 211
  · subst h4
    have : 0 ≤ iI 211 k ∧ iI 211 k ≤ 3 := by
      show 0 ≤ (if k = 0 then (2 : Int) else if k = 1 then 3 else 0) ∧ (if k = 0 then (2 : Int) else if k = 1 then 3 else 0) ≤ 3
      repeat' split
      all_goals omega
    exact ⟨show (0 : Int) ≤ _ by omega, show _ ≤ (9 : Int) by omega⟩
  rw [iI_M h1 h2 h3 h4 (by omega)]
  exact h0
theorem in01 (S : SS) (a d e : Int) : (f_M_in S a d e = 0 ∧ (a < d ∨ e < a)) ∨ (f_M_in S a d e = 1 ∧ d ≤ a ∧ a ≤ e) := by
  unfold f_M_in
  split
  · exact .inl ⟨rfl, .inl (by assumption)⟩
  · split
    · exact .inl ⟨rfl, .inr (by assumption)⟩
    · exact .inr ⟨rfl, by omega⟩
set_option maxHeartbeats 4000000 in
theorem ok_M_end {b : Nat} (S : SS) (v1 : Int) (hC : MX b S) : okk (f_M_end S v1) (fun u => MX b u.2 ∧ (True)) := by
  unfold f_M_end
  have b2_y := mx_192_8 hC
  have b3_y := in01 S v1 0 (gi S 192 8)
  refine ok_if (fun c4_y => ?_) (fun c4_y => ?_)
  · exact ok_some ⟨hC, by trivial⟩
  · refine ok_lt (fun S5x1_z eS5x1_z => ?_)
    have h5_y : MX b S5x1_z := by rw [eS5x1_z]; exact ms_192_8 hC (by omega) (by omega)
    have f6_y : gi S5x1_z 192 8 = v1 := gi_eq eS5x1_z
    exact ok_some ⟨h5_y, by trivial⟩
set_option maxHeartbeats 4000000 in
theorem ok_M_isMark {b : Nat} (S : SS) (v1 : Int) (hC : MX b S) : okk (f_M_isMark S v1) (fun r => (r = 0 ∧ (v1 < 0 ∨ gi S 192 27 ≤ v1)) ∨ (r = 1 ∧ 0 ≤ v1 ∧ v1 < gi S 192 27 ∧ v1 < 40)) := by
  unfold f_M_isMark
  have b2_y := mx_192_27 hC
  refine ok_chk (by omega) ?_
  have b3_y := in01 S v1 0 ((gi S 192 27) - 1)
  refine ok_chk (by omega) ?_
  exact ok_some (by omega)
set_option maxHeartbeats 4000000 in
theorem ok_M_hasRow {b : Nat} (S : SS) (v1 : Int) (hC : MX b S) (hp0 : 0 ≤ v1 ∧ v1 < 41) : okk (f_M_hasRow S v1) (fun r => r = 0 ∨ r = 1) := by
  unfold f_M_hasRow
  refine ok_chk (by omega) ?_
  have b2_y := mx_199 hC (v1).toNat
  refine ok_if (fun c3_y => ?_) (fun c3_y => ?_)
  · exact ok_some (by omega)
  · exact ok_some (by omega)
set_option maxHeartbeats 4000000 in
theorem ok_M_rowEnd {b : Nat} (S : SS) (v1 : Int) (hC : MX b S) (hp0 : 0 ≤ v1 ∧ v1 < 41) : okk (f_M_rowEnd S v1) (fun r => True) := by
  unfold f_M_rowEnd
  refine ok_chk (by omega) ?_
  have b2_y := mx_199 hC (v1).toNat
  refine ok_if (fun c3_y => ?_) (fun c3_y => ?_)
  · refine ok_chk (by omega) ?_
    have b4_y := mx_203 hC (v1).toNat
    exact ok_some (by trivial)
  · refine ok_chk (by omega) ?_
    have b5_y := mx_202 hC (v1).toNat
    exact ok_some (by trivial)
set_option maxHeartbeats 4000000 in
theorem ok_M_gapOf {b : Nat} (S : SS) (v1 : Int) (hC : MX b S) (hp0 : 0 ≤ v1 ∧ v1 < 41) : okk (f_M_gapOf S v1) (fun r => True) := by
  unfold f_M_gapOf
  refine ok_chk (by omega) ?_
  have b2_y := mx_199 hC (v1).toNat
  refine ok_if (fun c3_y => ?_) (fun c3_y => ?_)
  · refine ok_chk (by omega) ?_
    have b4_y := mx_201 hC (v1).toNat
    exact ok_some (by trivial)
  · refine ok_chk (by omega) ?_
    refine ok_if (fun c5_y => ?_) (fun c5_y => ?_)
    · refine ok_chk (by omega) ?_
      have b6_y := mx_203 hC (v1).toNat
      exact ok_some (by trivial)
    · exact ok_some (by trivial)
set_option maxHeartbeats 4000000 in
theorem ok_M_isInside {b : Nat} (S : SS) (v1 : Int) (v2 : Int) (v3 : Int) (hC : MX b S) (hp0 : 0 ≤ v1 ∧ v1 < 41) : okk (f_M_isInside S v1 v2 v3) (fun r => r = 0 ∨ r = 1) := by
  unfold f_M_isInside
  refine ok_b1 (ok_M_hasRow S v1 hC (by omega)) (fun r1x1_z h2_y => ?_)
  refine ok_if (fun c3_y => ?_) (fun c3_y => ?_)
  · unfold f_M_isInside_29
    refine ok_b1 (ok_M_gapOf S v1 hC (by omega)) (fun r1x4_z h5_y => ?_)
    refine ok_if (fun c6_y => ?_) (fun c6_y => ?_)
    · exact ok_some (by omega)
    · refine ok_b1 (ok_M_gapOf S v1 hC (by omega)) (fun r3x4_z h7_y => ?_)
      refine ok_if (fun c8_y => ?_) (fun c8_y => ?_)
      · exact ok_some (by omega)
      · refine ok_b1 (ok_M_gapOf S v1 hC (by omega)) (fun r5x4_z h9_y => ?_)
        refine ok_if (fun c10_y => ?_) (fun c10_y => ?_)
        · exact ok_some (by omega)
        · exact ok_some (by omega)
  · refine ok_chk (by omega) ?_
    have b11_y := mx_201 hC (v1).toNat
    refine ok_if (fun c12_y => ?_) (fun c12_y => ?_)
    · exact ok_some (by omega)
    · refine ok_b1 (ok_M_rowEnd S v1 hC (by omega)) (fun r4x1_z h13_y => ?_)
      refine ok_if (fun c14_y => ?_) (fun c14_y => ?_)
      · unfold f_M_isInside_29
        refine ok_b1 (ok_M_gapOf S v1 hC (by omega)) (fun r1x15_z h16_y => ?_)
        refine ok_if (fun c17_y => ?_) (fun c17_y => ?_)
        · exact ok_some (by omega)
        · refine ok_b1 (ok_M_gapOf S v1 hC (by omega)) (fun r3x15_z h18_y => ?_)
          refine ok_if (fun c19_y => ?_) (fun c19_y => ?_)
          · exact ok_some (by omega)
          · refine ok_b1 (ok_M_gapOf S v1 hC (by omega)) (fun r5x15_z h20_y => ?_)
            refine ok_if (fun c21_y => ?_) (fun c21_y => ?_)
            · exact ok_some (by omega)
            · exact ok_some (by omega)
      · exact ok_some (by omega)
set_option maxHeartbeats 4000000 in
theorem ok_M_isWithin {b : Nat} (S : SS) (v1 : Int) (v2 : Int) (hC : MX b S) (hp0 : 0 ≤ v1 ∧ v1 < 41) (hp1 : 0 ≤ v2 ∧ v2 < 41) : okk (f_M_isWithin S v1 v2) (fun r => r = 0 ∨ r = 1) := by
  unfold f_M_isWithin
  refine ok_chk (by omega) ?_
  have b2_y := mx_199 hC (v2).toNat
  refine ok_if (fun c3_y => ?_) (fun c3_y => ?_)
  · refine ok_chk (by omega) ?_
    refine ok_chk (by omega) ?_
    have b4_y := mx_201 hC (v2).toNat
    have b5_y := mx_202 hC (v2).toNat
    refine ok_b1 (ok_M_isInside S v1 (gi S 201 (v2).toNat) (gi S 202 (v2).toNat) hC (by omega)) (fun r14x1_z h6_y => ?_)
    refine ok_chk (by omega) ?_
    exact ok_some (by omega)
  · refine ok_chk (by omega) ?_
    refine ok_if (fun c7_y => ?_) (fun c7_y => ?_)
    · refine ok_chk (by omega) ?_
      refine ok_chk (by omega) ?_
      have b8_y := mx_202 hC (v2).toNat
      refine ok_chk (by omega) ?_
      have b9_y := mx_201 hC (v2).toNat
      refine ok_b1 (ok_M_isInside S v1 (gi S 201 (v2).toNat) ((gi S 202 (v2).toNat) - 1) hC (by omega)) (fun r6x1_z h10_y => ?_)
      refine ok_if (fun c11_y => ?_) (fun c11_y => ?_)
      · refine ok_chk (by omega) ?_
        refine ok_chk (by omega) ?_
        have b12_y := mx_203 hC (v2).toNat
        refine ok_b1 (ok_M_isInside S v1 (gi S 202 (v2).toNat) (gi S 203 (v2).toNat) hC (by omega)) (fun r10x1_z h13_y => ?_)
        refine ok_if (fun c14_y => ?_) (fun c14_y => ?_)
        · exact ok_some (by omega)
        · exact ok_some (by omega)
      · exact ok_some (by omega)
    · exact ok_some (by omega)
set_option maxHeartbeats 4000000 in
theorem ok_M_isCut {b : Nat} (S : SS) (v1 : Int) (v2 : Int) (hC : MX b S) (hp0 : 0 ≤ v1 ∧ v1 < 41) (hp1 : 0 ≤ v2 ∧ v2 < 41) : okk (f_M_isCut S v1 v2) (fun r => r = 0 ∨ r = 1) := by
  unfold f_M_isCut
  refine ok_b1 (ok_M_gapOf S v1 hC (by omega)) (fun r1x1_z h2_y => ?_)
  refine ok_if (fun c3_y => ?_) (fun c3_y => ?_)
  · exact ok_some (by omega)
  · refine ok_b1 (ok_M_hasRow S v2 hC (by omega)) (fun r3x1_z h4_y => ?_)
    refine ok_if (fun c5_y => ?_) (fun c5_y => ?_)
    · exact ok_some (by omega)
    · refine ok_b1 (ok_M_gapOf S v1 hC (by omega)) (fun r5x1_z h6_y => ?_)
      refine ok_chk (by omega) ?_
      have b7_y := mx_201 hC (v2).toNat
      refine ok_if (fun c8_y => ?_) (fun c8_y => ?_)
      · exact ok_some (by omega)
      · refine ok_b1 (ok_M_gapOf S v1 hC (by omega)) (fun r8x1_z h9_y => ?_)
        refine ok_b1 (ok_M_rowEnd S v2 hC (by omega)) (fun r10x1_z h10_y => ?_)
        refine ok_if (fun c11_y => ?_) (fun c11_y => ?_)
        · exact ok_some (by omega)
        · exact ok_some (by omega)
set_option maxHeartbeats 4000000 in
theorem ok_M_doMeet {b : Nat} (S : SS) (v1 : Int) (v2 : Int) (hC : MX b S) (hp0 : 0 ≤ v1 ∧ v1 < 41) (hp1 : 0 ≤ v2 ∧ v2 < 41) : okk (f_M_doMeet S v1 v2) (fun r => r = 0 ∨ r = 1) := by
  unfold f_M_doMeet
  refine ok_b1 (ok_M_isWithin S v1 v2 hC (by omega) (by omega)) (fun r1x1_z h2_y => ?_)
  refine ok_if (fun c3_y => ?_) (fun c3_y => ?_)
  · refine ok_b1 (ok_M_isWithin S v2 v1 hC (by omega) (by omega)) (fun r3x1_z h4_y => ?_)
    refine ok_if (fun c5_y => ?_) (fun c5_y => ?_)
    · refine ok_b1 (ok_M_hasRow S v1 hC (by omega)) (fun r5x1_z h6_y => ?_)
      refine ok_if (fun c7_y => ?_) (fun c7_y => ?_)
      · unfold f_M_doMeet_66
        refine ok_b1 (ok_M_isCut S v1 v2 hC (by omega) (by omega)) (fun r1x8_z h9_y => ?_)
        refine ok_if (fun c10_y => ?_) (fun c10_y => ?_)
        · refine ok_b1 (ok_M_isCut S v2 v1 hC (by omega) (by omega)) (fun r3x8_z h11_y => ?_)
          refine ok_if (fun c12_y => ?_) (fun c12_y => ?_)
          · exact ok_some (by omega)
          · exact ok_some (by omega)
        · exact ok_some (by omega)
      · refine ok_b1 (ok_M_hasRow S v2 hC (by omega)) (fun r7x1_z h13_y => ?_)
        refine ok_if (fun c14_y => ?_) (fun c14_y => ?_)
        · unfold f_M_doMeet_66
          refine ok_b1 (ok_M_isCut S v1 v2 hC (by omega) (by omega)) (fun r1x15_z h16_y => ?_)
          refine ok_if (fun c17_y => ?_) (fun c17_y => ?_)
          · refine ok_b1 (ok_M_isCut S v2 v1 hC (by omega) (by omega)) (fun r3x15_z h18_y => ?_)
            refine ok_if (fun c19_y => ?_) (fun c19_y => ?_)
            · exact ok_some (by omega)
            · exact ok_some (by omega)
          · exact ok_some (by omega)
        · refine ok_chk (by omega) ?_
          refine ok_b1 (ok_M_rowEnd S v2 hC (by omega)) (fun r10x1_z h20_y => ?_)
          have b21_y := mx_201 hC (v1).toNat
          refine ok_if (fun c22_y => ?_) (fun c22_y => ?_)
          · unfold f_M_doMeet_66
            refine ok_b1 (ok_M_isCut S v1 v2 hC (by omega) (by omega)) (fun r1x23_z h24_y => ?_)
            refine ok_if (fun c25_y => ?_) (fun c25_y => ?_)
            · refine ok_b1 (ok_M_isCut S v2 v1 hC (by omega) (by omega)) (fun r3x23_z h26_y => ?_)
              refine ok_if (fun c27_y => ?_) (fun c27_y => ?_)
              · exact ok_some (by omega)
              · exact ok_some (by omega)
            · exact ok_some (by omega)
          · refine ok_chk (by omega) ?_
            refine ok_b1 (ok_M_rowEnd S v1 hC (by omega)) (fun r13x1_z h28_y => ?_)
            have b29_y := mx_201 hC (v2).toNat
            refine ok_if (fun c30_y => ?_) (fun c30_y => ?_)
            · unfold f_M_doMeet_66
              refine ok_b1 (ok_M_isCut S v1 v2 hC (by omega) (by omega)) (fun r1x31_z h32_y => ?_)
              refine ok_if (fun c33_y => ?_) (fun c33_y => ?_)
              · refine ok_b1 (ok_M_isCut S v2 v1 hC (by omega) (by omega)) (fun r3x31_z h34_y => ?_)
                refine ok_if (fun c35_y => ?_) (fun c35_y => ?_)
                · exact ok_some (by omega)
                · exact ok_some (by omega)
              · exact ok_some (by omega)
            · exact ok_some (by omega)
    · exact ok_some (by omega)
  · exact ok_some (by omega)
set_option maxHeartbeats 4000000 in
theorem ok_M_meet {b : Nat} (S : SS) (v1 : Int) (v2 : Int) (hC : MX b S) : okk (f_M_meet S v1 v2) (fun r => True) := by
  unfold f_M_meet
  refine ok_b1 (ok_M_isMark S v1 hC) (fun r1x1_z h2_y => ?_)
  refine ok_if (fun c3_y => ?_) (fun c3_y => ?_)
  · exact ok_some (by trivial)
  · refine ok_b1 (ok_M_isMark S v2 hC) (fun r3x1_z h4_y => ?_)
    refine ok_if (fun c5_y => ?_) (fun c5_y => ?_)
    · exact ok_some (by trivial)
    · refine ok_if (fun c6_y => ?_) (fun c6_y => ?_)
      · exact ok_some (by trivial)
      · refine ok_chk (by omega) ?_
        have b7_y := mx_199 hC (v1).toNat
        refine ok_if (fun c8_y => ?_) (fun c8_y => ?_)
        · exact ok_some (by trivial)
        · refine ok_chk (by omega) ?_
          have b9_y := mx_199 hC (v2).toNat
          refine ok_if (fun c10_y => ?_) (fun c10_y => ?_)
          · exact ok_some (by trivial)
          · refine ok_b1 (ok_M_doMeet S v1 v2 hC (by omega) (by omega)) (fun r7x1_z h11_y => ?_)
            refine ok_if (fun c12_y => ?_) (fun c12_y => ?_)
            · exact ok_some (by trivial)
            · exact ok_some (by trivial)
set_option maxHeartbeats 4000000 in
theorem ok_M_within {b : Nat} (S : SS) (v1 : Int) (v2 : Int) (hC : MX b S) : okk (f_M_within S v1 v2) (fun r => True) := by
  unfold f_M_within
  refine ok_b1 (ok_M_isMark S v1 hC) (fun r1x1_z h2_y => ?_)
  refine ok_if (fun c3_y => ?_) (fun c3_y => ?_)
  · exact ok_some (by trivial)
  · refine ok_b1 (ok_M_isMark S v2 hC) (fun r3x1_z h4_y => ?_)
    refine ok_if (fun c5_y => ?_) (fun c5_y => ?_)
    · exact ok_some (by trivial)
    · refine ok_if (fun c6_y => ?_) (fun c6_y => ?_)
      · exact ok_some (by trivial)
      · refine ok_chk (by omega) ?_
        have b7_y := mx_199 hC (v1).toNat
        refine ok_if (fun c8_y => ?_) (fun c8_y => ?_)
        · exact ok_some (by trivial)
        · refine ok_chk (by omega) ?_
          have b9_y := mx_199 hC (v2).toNat
          refine ok_if (fun c10_y => ?_) (fun c10_y => ?_)
          · exact ok_some (by trivial)
          · refine ok_b1 (ok_M_isWithin S v1 v2 hC (by omega) (by omega)) (fun r7x1_z h11_y => ?_)
            refine ok_if (fun c12_y => ?_) (fun c12_y => ?_)
            · exact ok_some (by trivial)
            · exact ok_some (by trivial)
set_option maxHeartbeats 4000000 in
theorem okl_M_judgeOne_2 {b : Nat} (v1 : Int) (hp0 : 0 ≤ v1 ∧ v1 < 40) : ∀ (n : Nat) (S : SS) (v2_ : Int), MX b S → (0 ≤ v2_ ∧ v2_ ≤ 40) → 40 - v2_ < (n : Int) → okk (f_M_judgeOne_2 v1 n S v2_) (fun S1 => MX b S1 ∧ (True)) := by
  intro n
  induction n with
  | zero => intro S v2_ hC hi hm; exfalso; omega
  | succ n ih =>
    intro S v2_ hC hi hm
    have hm : 40 - v2_ < (n : Int) + 1 := by omega
    show okk (f_M_judgeOne_2_b v1 (f_M_judgeOne_2 v1 n) S v2_) _
    unfold f_M_judgeOne_2_b
    have b1_y := mx_192_27 hC
    refine ok_if (fun c2_y => ?_) (fun c2_y => ?_)
    · unfold f_M_judgeOne_51
      refine ok_chk (by omega) ?_
      have b4_y := mx_213 hC (v1).toNat
      refine ok_if (fun c5_y => ?_) (fun c5_y => ?_)
      · refine ok_chk (by omega) ?_
        refine ok_lt (fun S2x3_z eS2x3_z => ?_)
        have h6_y : MX b S2x3_z := by rw [eS2x3_z]; exact ms_212 hC (by omega) (by omega)
        have f7_y : gi S2x3_z 213 (v1).toNat = gi S 213 (v1).toNat := gi_ne eS2x3_z (by omega)
        have f8_y : gi S2x3_z 192 27 = gi S 192 27 := gi_ne eS2x3_z (by omega)
        exact ok_some ⟨h6_y, by trivial⟩
      · exact ok_some ⟨hC, by trivial⟩
    · refine ok_chk (by omega) ?_
      have b9_y := mx_213 hC (v1).toNat
      refine ok_if (fun c10_y => ?_) (fun c10_y => ?_)
      · refine ok_chk (by omega) ?_
        have b11_y := mx_212 hC (v2_).toNat
        refine ok_if (fun c12_y => ?_) (fun c12_y => ?_)
        · refine ok_b1 (ok_M_doMeet S v1 v2_ hC (by omega) (by omega)) (fun r4_z h13_y => ?_)
          refine ok_if (fun c14_y => ?_) (fun c14_y => ?_)
          · unfold f_M_judgeOne_45
            refine ok_chk (by omega) ?_
            exact ih S (v2_ + 1) hC (by omega) (by omega)
          · refine ok_chk (by omega) ?_
            refine ok_lt (fun S6_z eS6_z => ?_)
            have h16_y : MX b S6_z := by rw [eS6_z]; exact ms_213 hC (by omega) (by omega)
            have f17_y : gi S6_z 213 (v1).toNat = v2_ := gi_eq eS6_z
            have f18_y : gi S6_z 212 (v2_).toNat = gi S 212 (v2_).toNat := gi_ne eS6_z (by omega)
            have f19_y : gi S6_z 192 27 = gi S 192 27 := gi_ne eS6_z (by omega)
            unfold f_M_judgeOne_45
            refine ok_chk (by omega) ?_
            exact ih S6_z (v2_ + 1) h16_y (by omega) (by omega)
        · unfold f_M_judgeOne_45
          refine ok_chk (by omega) ?_
          exact ih S (v2_ + 1) hC (by omega) (by omega)
      · unfold f_M_judgeOne_51
        refine ok_chk (by omega) ?_
        refine ok_if (fun c23_y => ?_) (fun c23_y => ?_)
        · refine ok_chk (by omega) ?_
          refine ok_lt (fun S2x22_z eS2x22_z => ?_)
          have h24_y : MX b S2x22_z := by rw [eS2x22_z]; exact ms_212 hC (by omega) (by omega)
          have f25_y : gi S2x22_z 213 (v1).toNat = gi S 213 (v1).toNat := gi_ne eS2x22_z (by omega)
          have f26_y : gi S2x22_z 192 27 = gi S 192 27 := gi_ne eS2x22_z (by omega)
          exact ok_some ⟨h24_y, by trivial⟩
        · exact ok_some ⟨hC, by trivial⟩
set_option maxHeartbeats 4000000 in
theorem ok_M_judgeOne {b : Nat} (S : SS) (v1 : Int) (hC : MX b S) (hp0 : 0 ≤ v1 ∧ v1 < 40) : okk (f_M_judgeOne S v1) (fun S1 => MX b S1 ∧ (True)) := by
  unfold f_M_judgeOne
  exact okl_M_judgeOne_2 v1 (by omega) FU S 0 hC (by omega) (by unfold FU; omega)
set_option maxHeartbeats 4000000 in
theorem okl_M_judge_24 {b : Nat} (kf2_ : SS → Int → Option SS) (m_ : Int) (hk : ∀ (S : SS) (v1_ : Int), MX b S → (v1_ = m_ + 1) → okk (kf2_ S v1_) (fun S1 => MX b S1 ∧ (True))) : ∀ (n : Nat) (S : SS) (v1_ : Int) (v2_ : Int), MX b S → (v1_ = m_ ∧ 0 ≤ v1_ ∧ v1_ < 40 ∧ -1 ≤ v2_ ∧ v2_ < 40) → v2_ + 1 < (n : Int) → okk (f_M_judge_24 kf2_ n S v1_ v2_) (fun S1 => MX b S1 ∧ (True)) := by
  intro n
  induction n with
  | zero => intro S v1_ v2_ hC hi hm; exfalso; omega
  | succ n ih =>
    intro S v1_ v2_ hC hi hm
    have hm : v2_ + 1 < (n : Int) + 1 := by omega
    show okk (f_M_judge_24_b kf2_ (f_M_judge_24 kf2_ n) S v1_ v2_) _
    unfold f_M_judge_24_b
    refine ok_if (fun c1_y => ?_) (fun c1_y => ?_)
    · refine ok_chk (by omega) ?_
      have b2_y := mx_199 hC (v1_).toNat
      refine ok_if (fun c3_y => ?_) (fun c3_y => ?_)
      · unfold f_M_judge_137
        refine ok_chk (by omega) ?_
        refine ok_lt (fun S1x4_z eS1x4_z => ?_)
        have h5_y : MX b S1x4_z := by rw [eS1x4_z]; exact ms_212 hC (by omega) (by omega)
        have f6_y : gi S1x4_z 199 (v1_).toNat = gi S 199 (v1_).toNat := gi_ne eS1x4_z (by omega)
        refine ok_chk (by omega) ?_
        exact hk S1x4_z (v1_ + 1) h5_y (by omega)
      · refine ok_chk (by omega) ?_
        have b7_y := mx_213 hC (v1_).toNat
        refine ok_if (fun c8_y => ?_) (fun c8_y => ?_)
        · refine ok_chk (by omega) ?_
          have b9_y := mx_207 hC (v1_).toNat
          refine ok_if (fun c10_y => ?_) (fun c10_y => ?_)
          · unfold f_M_judge_114
            refine ok_chk (by omega) ?_
            refine ok_if (fun c12_y => ?_) (fun c12_y => ?_)
            · unfold f_M_judge_136
              unfold f_M_judge_137
              refine ok_chk (by omega) ?_
              refine ok_lt (fun S1x14_z eS1x14_z => ?_)
              have h15_y : MX b S1x14_z := by rw [eS1x14_z]; exact ms_212 hC (by omega) (by omega)
              have f16_y : gi S1x14_z 213 (v1_).toNat = gi S 213 (v1_).toNat := gi_ne eS1x14_z (by omega)
              have f17_y : gi S1x14_z 199 (v1_).toNat = gi S 199 (v1_).toNat := gi_ne eS1x14_z (by omega)
              have f18_y : gi S1x14_z 207 (v1_).toNat = gi S 207 (v1_).toNat := gi_ne eS1x14_z (by omega)
              refine ok_chk (by omega) ?_
              exact hk S1x14_z (v1_ + 1) h15_y (by omega)
            · refine ok_chk (by omega) ?_
              have b19_y := mx_205 hC (v1_).toNat
              refine ok_if (fun c20_y => ?_) (fun c20_y => ?_)
              · unfold f_M_judge_137
                refine ok_chk (by omega) ?_
                refine ok_lt (fun S1x21_z eS1x21_z => ?_)
                have h22_y : MX b S1x21_z := by rw [eS1x21_z]; exact ms_212 hC (by omega) (by omega)
                have f23_y : gi S1x21_z 205 (v1_).toNat = gi S 205 (v1_).toNat := gi_ne eS1x21_z (by omega)
                have f24_y : gi S1x21_z 213 (v1_).toNat = gi S 213 (v1_).toNat := gi_ne eS1x21_z (by omega)
                have f25_y : gi S1x21_z 199 (v1_).toNat = gi S 199 (v1_).toNat := gi_ne eS1x21_z (by omega)
                have f26_y : gi S1x21_z 207 (v1_).toNat = gi S 207 (v1_).toNat := gi_ne eS1x21_z (by omega)
                refine ok_chk (by omega) ?_
                exact hk S1x21_z (v1_ + 1) h22_y (by omega)
              · unfold f_M_judge_136
                unfold f_M_judge_137
                refine ok_chk (by omega) ?_
                refine ok_lt (fun S1x28_z eS1x28_z => ?_)
                have h29_y : MX b S1x28_z := by rw [eS1x28_z]; exact ms_212 hC (by omega) (by omega)
                have f30_y : gi S1x28_z 205 (v1_).toNat = gi S 205 (v1_).toNat := gi_ne eS1x28_z (by omega)
                have f31_y : gi S1x28_z 213 (v1_).toNat = gi S 213 (v1_).toNat := gi_ne eS1x28_z (by omega)
                have f32_y : gi S1x28_z 199 (v1_).toNat = gi S 199 (v1_).toNat := gi_ne eS1x28_z (by omega)
                have f33_y : gi S1x28_z 207 (v1_).toNat = gi S 207 (v1_).toNat := gi_ne eS1x28_z (by omega)
                refine ok_chk (by omega) ?_
                exact hk S1x28_z (v1_ + 1) h29_y (by omega)
          · refine ok_chk (by omega) ?_
            have b34_y := mx_205 hC (v1_).toNat
            refine ok_if (fun c35_y => ?_) (fun c35_y => ?_)
            · unfold f_M_judge_110
              unfold f_M_judge_137
              refine ok_chk (by omega) ?_
              refine ok_lt (fun S1x37_z eS1x37_z => ?_)
              have h38_y : MX b S1x37_z := by rw [eS1x37_z]; exact ms_212 hC (by omega) (by omega)
              have f39_y : gi S1x37_z 205 (v1_).toNat = gi S 205 (v1_).toNat := gi_ne eS1x37_z (by omega)
              have f40_y : gi S1x37_z 213 (v1_).toNat = gi S 213 (v1_).toNat := gi_ne eS1x37_z (by omega)
              have f41_y : gi S1x37_z 199 (v1_).toNat = gi S 199 (v1_).toNat := gi_ne eS1x37_z (by omega)
              have f42_y : gi S1x37_z 207 (v1_).toNat = gi S 207 (v1_).toNat := gi_ne eS1x37_z (by omega)
              refine ok_chk (by omega) ?_
              exact hk S1x37_z (v1_ + 1) h38_y (by omega)
            · unfold f_M_judge_114
              refine ok_chk (by omega) ?_
              refine ok_if (fun c44_y => ?_) (fun c44_y => ?_)
              · unfold f_M_judge_136
                unfold f_M_judge_137
                refine ok_chk (by omega) ?_
                refine ok_lt (fun S1x46_z eS1x46_z => ?_)
                have h47_y : MX b S1x46_z := by rw [eS1x46_z]; exact ms_212 hC (by omega) (by omega)
                have f48_y : gi S1x46_z 205 (v1_).toNat = gi S 205 (v1_).toNat := gi_ne eS1x46_z (by omega)
                have f49_y : gi S1x46_z 213 (v1_).toNat = gi S 213 (v1_).toNat := gi_ne eS1x46_z (by omega)
                have f50_y : gi S1x46_z 199 (v1_).toNat = gi S 199 (v1_).toNat := gi_ne eS1x46_z (by omega)
                have f51_y : gi S1x46_z 207 (v1_).toNat = gi S 207 (v1_).toNat := gi_ne eS1x46_z (by omega)
                refine ok_chk (by omega) ?_
                exact hk S1x46_z (v1_ + 1) h47_y (by omega)
              · refine ok_chk (by omega) ?_
                refine ok_if (fun c52_y => ?_) (fun c52_y => ?_)
                · unfold f_M_judge_137
                  refine ok_chk (by omega) ?_
                  refine ok_lt (fun S1x53_z eS1x53_z => ?_)
                  have h54_y : MX b S1x53_z := by rw [eS1x53_z]; exact ms_212 hC (by omega) (by omega)
                  have f55_y : gi S1x53_z 205 (v1_).toNat = gi S 205 (v1_).toNat := gi_ne eS1x53_z (by omega)
                  have f56_y : gi S1x53_z 213 (v1_).toNat = gi S 213 (v1_).toNat := gi_ne eS1x53_z (by omega)
                  have f57_y : gi S1x53_z 199 (v1_).toNat = gi S 199 (v1_).toNat := gi_ne eS1x53_z (by omega)
                  have f58_y : gi S1x53_z 207 (v1_).toNat = gi S 207 (v1_).toNat := gi_ne eS1x53_z (by omega)
                  refine ok_chk (by omega) ?_
                  exact hk S1x53_z (v1_ + 1) h54_y (by omega)
                · unfold f_M_judge_136
                  unfold f_M_judge_137
                  refine ok_chk (by omega) ?_
                  refine ok_lt (fun S1x60_z eS1x60_z => ?_)
                  have h61_y : MX b S1x60_z := by rw [eS1x60_z]; exact ms_212 hC (by omega) (by omega)
                  have f62_y : gi S1x60_z 205 (v1_).toNat = gi S 205 (v1_).toNat := gi_ne eS1x60_z (by omega)
                  have f63_y : gi S1x60_z 213 (v1_).toNat = gi S 213 (v1_).toNat := gi_ne eS1x60_z (by omega)
                  have f64_y : gi S1x60_z 199 (v1_).toNat = gi S 199 (v1_).toNat := gi_ne eS1x60_z (by omega)
                  have f65_y : gi S1x60_z 207 (v1_).toNat = gi S 207 (v1_).toNat := gi_ne eS1x60_z (by omega)
                  refine ok_chk (by omega) ?_
                  exact hk S1x60_z (v1_ + 1) h61_y (by omega)
        · unfold f_M_judge_110
          unfold f_M_judge_137
          refine ok_chk (by omega) ?_
          refine ok_lt (fun S1x67_z eS1x67_z => ?_)
          have h68_y : MX b S1x67_z := by rw [eS1x67_z]; exact ms_212 hC (by omega) (by omega)
          have f69_y : gi S1x67_z 213 (v1_).toNat = gi S 213 (v1_).toNat := gi_ne eS1x67_z (by omega)
          have f70_y : gi S1x67_z 199 (v1_).toNat = gi S 199 (v1_).toNat := gi_ne eS1x67_z (by omega)
          refine ok_chk (by omega) ?_
          exact hk S1x67_z (v1_ + 1) h68_y (by omega)
    · refine ok_chk (by omega) ?_
      have b71_y := mx_199 hC (v2_).toNat
      refine ok_if (fun c72_y => ?_) (fun c72_y => ?_)
      · refine ok_chk (by omega) ?_
        have b73_y := mx_201 hC (v2_).toNat
        refine ok_if (fun c74_y => ?_) (fun c74_y => ?_)
        · refine ok_chk (by omega) ?_
          refine ok_lt (fun S7_z eS7_z => ?_)
          have h75_y : MX b S7_z := by rw [eS7_z]; exact ms_213 hC (by omega) (by omega)
          have f76_y : gi S7_z 201 (v2_).toNat = gi S 201 (v2_).toNat := gi_ne eS7_z (by omega)
          have f77_y : gi S7_z 199 (v2_).toNat = gi S 199 (v2_).toNat := gi_ne eS7_z (by omega)
          unfold f_M_judge_56
          refine ok_chk (by omega) ?_
          exact ih S7_z v1_ (v2_ + (-1)) h75_y (by omega) (by omega)
        · unfold f_M_judge_56
          refine ok_chk (by omega) ?_
          exact ih S v1_ (v2_ + (-1)) hC (by omega) (by omega)
      · unfold f_M_judge_56
        refine ok_chk (by omega) ?_
        exact ih S v1_ (v2_ + (-1)) hC (by omega) (by omega)
set_option maxHeartbeats 4000000 in
theorem okl_M_judge_154 {b : Nat} (kf146_ : SS → Int → Option SS) (m_ : Int) (hk : ∀ (S : SS) (v1_ : Int), MX b S → (v1_ = m_ + 1) → okk (kf146_ S v1_) (fun S1 => MX b S1 ∧ (True))) : ∀ (n : Nat) (S : SS) (v1_ : Int) (v2_ : Int), MX b S → (v1_ = m_ ∧ 0 ≤ v1_ ∧ v1_ ≤ 9 ∧ 0 ≤ v2_ ∧ v2_ ≤ 40) → 40 - v2_ < (n : Int) → okk (f_M_judge_154 kf146_ n S v1_ v2_) (fun S1 => MX b S1 ∧ (True)) := by
  intro n
  induction n with
  | zero => intro S v1_ v2_ hC hi hm; exfalso; omega
  | succ n ih =>
    intro S v1_ v2_ hC hi hm
    have hm : 40 - v2_ < (n : Int) + 1 := by omega
    show okk (f_M_judge_154_b kf146_ (f_M_judge_154 kf146_ n) S v1_ v2_) _
    unfold f_M_judge_154_b
    have b1_y := mx_192_27 hC
    refine ok_if (fun c2_y => ?_) (fun c2_y => ?_)
    · refine ok_chk (by omega) ?_
      exact hk S (v1_ + 1) hC (by omega)
    · refine ok_chk (by omega) ?_
      have b3_y := mx_212 hC (v2_).toNat
      refine ok_if (fun c4_y => ?_) (fun c4_y => ?_)
      · refine ok_chk (by omega) ?_
        have b5_y := mx_200 hC (v2_).toNat
        refine ok_chk (by omega) ?_
        have b6_y := mx_209 hC (gi S 200 (v2_).toNat).toNat
        refine ok_if (fun c7_y => ?_) (fun c7_y => ?_)
        · refine ok_b1 (ok_M_judgeOne S v2_ hC (by omega)) (fun S6_z h8_y => ?_)
          obtain ⟨h9_y, p10_y⟩ := h8_y
          unfold f_M_judge_192
          refine ok_chk (by omega) ?_
          exact ih S6_z v1_ (v2_ + 1) h9_y (by omega) (by omega)
        · unfold f_M_judge_192
          refine ok_chk (by omega) ?_
          exact ih S v1_ (v2_ + 1) hC (by omega) (by omega)
      · unfold f_M_judge_192
        refine ok_chk (by omega) ?_
        exact ih S v1_ (v2_ + 1) hC (by omega) (by omega)
set_option maxHeartbeats 4000000 in
theorem okl_M_judge_146 {b : Nat} : ∀ (n : Nat) (S : SS) (v1_ : Int), MX b S → (0 ≤ v1_ ∧ v1_ ≤ 10) → 10 - v1_ < (n : Int) → okk (f_M_judge_146 n S v1_) (fun S1 => MX b S1 ∧ (True)) := by
  intro n
  induction n with
  | zero => intro S v1_ hC hi hm; exfalso; omega
  | succ n ih =>
    intro S v1_ hC hi hm
    have hm : 10 - v1_ < (n : Int) + 1 := by omega
    show okk (f_M_judge_146_b (f_M_judge_146 n) S v1_) _
    unfold f_M_judge_146_b
    refine ok_if (fun c1_y => ?_) (fun c1_y => ?_)
    · exact ok_some ⟨hC, by trivial⟩
    · exact okl_M_judge_154  _ (v1_) (fun S v1_ hC e => ih S v1_ hC (by omega) (by omega)) FU S v1_ 0 hC (by omega) (by unfold FU; omega)
set_option maxHeartbeats 4000000 in
theorem okl_M_judge_2 {b : Nat} : ∀ (n : Nat) (S : SS) (v1_ : Int), MX b S → (0 ≤ v1_ ∧ v1_ ≤ 40) → 40 - v1_ < (n : Int) → okk (f_M_judge_2 n S v1_) (fun S1 => MX b S1 ∧ (True)) := by
  intro n
  induction n with
  | zero => intro S v1_ hC hi hm; exfalso; omega
  | succ n ih =>
    intro S v1_ hC hi hm
    have hm : 40 - v1_ < (n : Int) + 1 := by omega
    show okk (f_M_judge_2_b (f_M_judge_2 n) S v1_) _
    unfold f_M_judge_2_b
    have b1_y := mx_192_27 hC
    refine ok_if (fun c2_y => ?_) (fun c2_y => ?_)
    · exact okl_M_judge_146  FU S 0 hC (by omega) (by unfold FU; omega)
    · refine ok_chk (by omega) ?_
      refine ok_lt (fun S2_z eS2_z => ?_)
      have h3_y : MX b S2_z := by rw [eS2_z]; exact ms_213 hC (by omega) (by omega)
      have f4_y : gi S2_z 192 27 = gi S 192 27 := gi_ne eS2_z (by omega)
      refine ok_chk (by omega) ?_
      exact okl_M_judge_24  _ (v1_) (fun S v1_ hC e => ih S v1_ hC (by omega) (by omega)) FU S2_z v1_ ((gi S2_z 192 27) - 1) h3_y (by omega) (by unfold FU; omega)
set_option maxHeartbeats 4000000 in
theorem ok_M_judge {b : Nat} (S : SS) (hC : MX b S) : okk (f_M_judge S) (fun S1 => MX b S1 ∧ (True)) := by
  unfold f_M_judge
  exact okl_M_judge_2  FU S 0 hC (by omega) (by unfold FU; omega)
set_option maxHeartbeats 4000000 in
theorem ok_M_mark {b : Nat} (S : SS) (v1 : Int) (v2 : Int) (hC : MX b S) (hp0 : i32 v2) : okk (f_M_mark S v1 v2) (fun u => MX b u.2 ∧ (True)) := by
  unfold f_M_mark
  refine ok_b1 (ok_M_isMark S v1 hC) (fun r1x1_z h2_y => ?_)
  refine ok_if (fun c3_y => ?_) (fun c3_y => ?_)
  · exact ok_some ⟨hC, by trivial⟩
  · refine ok_chk (by omega) ?_
    have b4_y := mx_204 hC (v1).toNat
    refine ok_chk (by omega) ?_
    have b5_y := in01 S v2 10 (9 + (gi S 204 (v1).toNat))
    refine ok_if (fun c6_y => ?_) (fun c6_y => ?_)
    · refine ok_b1 (ok_M_judge S hC) (fun S8x1_z h7_y => ?_)
      obtain ⟨h8_y, p9_y⟩ := h7_y
      refine ok_if (fun c10_y => ?_) (fun c10_y => ?_)
      · refine ok_chk (by omega) ?_
        have b11_y := mx_199 h8_y (v1).toNat
        exact ok_some ⟨h8_y, by trivial⟩
      · refine ok_if (fun c12_y => ?_) (fun c12_y => ?_)
        · refine ok_chk (by omega) ?_
          have b13_y := mx_200 h8_y (v1).toNat
          exact ok_some ⟨h8_y, by trivial⟩
        · refine ok_if (fun c14_y => ?_) (fun c14_y => ?_)
          · refine ok_chk (by omega) ?_
            have b15_y := mx_201 h8_y (v1).toNat
            exact ok_some ⟨h8_y, by trivial⟩
          · refine ok_if (fun c16_y => ?_) (fun c16_y => ?_)
            · refine ok_chk (by omega) ?_
              have b17_y := mx_202 h8_y (v1).toNat
              exact ok_some ⟨h8_y, by trivial⟩
            · refine ok_if (fun c18_y => ?_) (fun c18_y => ?_)
              · refine ok_chk (by omega) ?_
                have b19_y := mx_203 h8_y (v1).toNat
                exact ok_some ⟨h8_y, by trivial⟩
              · refine ok_if (fun c20_y => ?_) (fun c20_y => ?_)
                · refine ok_chk (by omega) ?_
                  have b21_y := mx_204 h8_y (v1).toNat
                  exact ok_some ⟨h8_y, by trivial⟩
                · refine ok_if (fun c22_y => ?_) (fun c22_y => ?_)
                  · refine ok_chk (by omega) ?_
                    have b23_y := mx_212 h8_y (v1).toNat
                    exact ok_some ⟨h8_y, by trivial⟩
                  · refine ok_if (fun c24_y => ?_) (fun c24_y => ?_)
                    · refine ok_chk (by omega) ?_
                      have b25_y := mx_213 h8_y (v1).toNat
                      exact ok_some ⟨h8_y, by trivial⟩
                    · refine ok_if (fun c26_y => ?_) (fun c26_y => ?_)
                      · refine ok_chk (by omega) ?_
                        have b27_y := mx_208 h8_y (v1).toNat
                        refine ok_if (fun c28_y => ?_) (fun c28_y => ?_)
                        · exact ok_some ⟨h8_y, by trivial⟩
                        · exact ok_some ⟨h8_y, by trivial⟩
                      · exact ok_some ⟨h8_y, by trivial⟩
    · refine ok_chk (by omega) ?_
      refine ok_chk (by omega) ?_
      refine ok_chk (by omega) ?_
      refine ok_chk (by omega) ?_
      have b29_y := l2i_rng (gl S 206 (((6 * v1) + v2) - 10).toNat)
      exact ok_some ⟨hC, by trivial⟩
set_option maxHeartbeats 4000000 in
theorem ok_M_answer {b : Nat} (S : SS) (v1 : Int) (v2 : Int) (hC : MX b S) : okk (f_M_answer S v1 v2) (fun u => MX b u.2 ∧ (True)) := by
  unfold f_M_answer
  refine ok_b1 (ok_M_isMark S v1 hC) (fun r1x1_z h2_y => ?_)
  refine ok_if (fun c3_y => ?_) (fun c3_y => ?_)
  · exact ok_some ⟨hC, by trivial⟩
  · refine ok_b1 (ok_M_judge S hC) (fun S3x1_z h4_y => ?_)
    obtain ⟨h5_y, p6_y⟩ := h4_y
    refine ok_chk (by omega) ?_
    have b7_y := mx_212 h5_y (v1).toNat
    refine ok_if (fun c8_y => ?_) (fun c8_y => ?_)
    · refine ok_if (fun c9_y => ?_) (fun c9_y => ?_)
      · unfold f_M_answer_42
        refine ok_chk (by omega) ?_
        refine ok_lt (fun S1x10_z eS1x10_z => ?_)
        have h11_y : MX b S1x10_z := by rw [eS1x10_z]; exact ms_205 h5_y (by omega) (by omega)
        have f12_y : gi S1x10_z 212 (v1).toNat = gi S3x1_z 212 (v1).toNat := gi_ne eS1x10_z (by omega)
        exact ok_some ⟨h11_y, by trivial⟩
      · unfold f_M_answer_42
        refine ok_chk (by omega) ?_
        refine ok_lt (fun S1x13_z eS1x13_z => ?_)
        have h14_y : MX b S1x13_z := by rw [eS1x13_z]; exact ms_205 h5_y (by omega) (by omega)
        have f15_y : gi S1x13_z 212 (v1).toNat = gi S3x1_z 212 (v1).toNat := gi_ne eS1x13_z (by omega)
        exact ok_some ⟨h14_y, by trivial⟩
    · exact ok_some ⟨h5_y, by trivial⟩
set_option maxHeartbeats 4000000 in
theorem ok_M_rank {b : Nat} (S : SS) (v1 : Int) (v2 : Int) (hC : MX b S) : okk (f_M_rank S v1 v2) (fun u => MX b u.2 ∧ (True)) := by
  unfold f_M_rank
  have b2_y := in01 S v1 0 2
  refine ok_if (fun c3_y => ?_) (fun c3_y => ?_)
  · exact ok_some ⟨hC, by trivial⟩
  · have b4_y := in01 S v2 0 9
    refine ok_if (fun c5_y => ?_) (fun c5_y => ?_)
    · exact ok_some ⟨hC, by trivial⟩
    · refine ok_chk (by omega) ?_
      refine ok_chk (by omega) ?_
      refine ok_lt (fun S6x1_z eS6x1_z => ?_)
      have h6_y : MX b S6x1_z := by rw [eS6x1_z]; exact ms_209 hC (by omega) (by omega)
      have b7_y := mx_209 hC (v1).toNat
      exact ok_some ⟨h6_y, by trivial⟩
set_option maxHeartbeats 4000000 in
theorem okl_M_use_8 {b : Nat} (v1 : Int) : ∀ (n : Nat) (S : SS) (v2_ : Int) (v3_ : Int), MX b S → (0 ≤ v2_ ∧ v2_ ≤ v3_ ∧ 0 ≤ v3_ ∧ v3_ ≤ 40) → 40 - v3_ < (n : Int) → okk (f_M_use_8 v1 n S v2_ v3_) (fun S1 => MX b S1 ∧ (True)) := by
  intro n
  induction n with
  | zero => intro S v2_ v3_ hC hi hm; exfalso; omega
  | succ n ih =>
    intro S v2_ v3_ hC hi hm
    have hm : 40 - v3_ < (n : Int) + 1 := by omega
    show okk (f_M_use_8_b v1 (f_M_use_8 v1 n) S v2_ v3_) _
    unfold f_M_use_8_b
    have b1_y := mx_192_27 hC
    refine ok_if (fun c2_y => ?_) (fun c2_y => ?_)
    · exact ok_some ⟨hC, by trivial⟩
    · refine ok_chk (by omega) ?_
      have b3_y := mx_212 hC (v3_).toNat
      refine ok_if (fun c4_y => ?_) (fun c4_y => ?_)
      · unfold f_M_use_35
        refine ok_chk (by omega) ?_
        refine ok_chk (by omega) ?_
        refine ok_lt (fun S2x5_z eS2x5_z => ?_)
        have h6_y : MX b S2x5_z := by rw [eS2x5_z]; exact ms_214 hC (by omega) (by omega)
        have f7_y : gi S2x5_z 212 (v3_).toNat = gi S 212 (v3_).toNat := gi_ne eS2x5_z (by omega)
        have f8_y : gi S2x5_z 192 27 = gi S 192 27 := gi_ne eS2x5_z (by omega)
        refine ok_chk (by omega) ?_
        have b9_y := mx_214 h6_y (v3_).toNat
        refine ok_if (fun c10_y => ?_) (fun c10_y => ?_)
        · unfold f_M_use_73
          refine ok_chk (by omega) ?_
          exact ih S2x5_z v2_ (v3_ + 1) h6_y (by omega) (by omega)
        · refine ok_if (fun c12_y => ?_) (fun c12_y => ?_)
          · unfold f_M_use_70
            refine ok_chk (by omega) ?_
            unfold f_M_use_73
            refine ok_chk (by omega) ?_
            exact ih S2x5_z (v2_ + 1) (v3_ + 1) h6_y (by omega) (by omega)
          · have b15_y := andi1 (shri v1 v2_)
            refine ok_if (fun c16_y => ?_) (fun c16_y => ?_)
            · refine ok_chk (by omega) ?_
              refine ok_lt (fun S6x5_z eS6x5_z => ?_)
              have h17_y : MX b S6x5_z := by rw [eS6x5_z]; exact ms_214 h6_y (by omega) (by omega)
              have f18_y : gi S6x5_z 214 (v3_).toNat = 0 := gi_eq eS6x5_z
              have f19_y : gi S6x5_z 212 (v3_).toNat = gi S2x5_z 212 (v3_).toNat := gi_ne eS6x5_z (by omega)
              have f20_y : gi S6x5_z 192 27 = gi S2x5_z 192 27 := gi_ne eS6x5_z (by omega)
              unfold f_M_use_70
              refine ok_chk (by omega) ?_
              unfold f_M_use_73
              refine ok_chk (by omega) ?_
              exact ih S6x5_z (v2_ + 1) (v3_ + 1) h17_y (by omega) (by omega)
            · unfold f_M_use_70
              refine ok_chk (by omega) ?_
              unfold f_M_use_73
              refine ok_chk (by omega) ?_
              exact ih S2x5_z (v2_ + 1) (v3_ + 1) h6_y (by omega) (by omega)
      · unfold f_M_use_35
        refine ok_chk (by omega) ?_
        refine ok_chk (by omega) ?_
        refine ok_lt (fun S2x25_z eS2x25_z => ?_)
        have h26_y : MX b S2x25_z := by rw [eS2x25_z]; exact ms_214 hC (by omega) (by omega)
        have f27_y : gi S2x25_z 212 (v3_).toNat = gi S 212 (v3_).toNat := gi_ne eS2x25_z (by omega)
        have f28_y : gi S2x25_z 192 27 = gi S 192 27 := gi_ne eS2x25_z (by omega)
        refine ok_chk (by omega) ?_
        have b29_y := mx_214 h26_y (v3_).toNat
        refine ok_if (fun c30_y => ?_) (fun c30_y => ?_)
        · unfold f_M_use_73
          refine ok_chk (by omega) ?_
          exact ih S2x25_z v2_ (v3_ + 1) h26_y (by omega) (by omega)
        · refine ok_if (fun c32_y => ?_) (fun c32_y => ?_)
          · unfold f_M_use_70
            refine ok_chk (by omega) ?_
            unfold f_M_use_73
            refine ok_chk (by omega) ?_
            exact ih S2x25_z (v2_ + 1) (v3_ + 1) h26_y (by omega) (by omega)
          · have b35_y := andi1 (shri v1 v2_)
            refine ok_if (fun c36_y => ?_) (fun c36_y => ?_)
            · refine ok_chk (by omega) ?_
              refine ok_lt (fun S6x25_z eS6x25_z => ?_)
              have h37_y : MX b S6x25_z := by rw [eS6x25_z]; exact ms_214 h26_y (by omega) (by omega)
              have f38_y : gi S6x25_z 214 (v3_).toNat = 0 := gi_eq eS6x25_z
              have f39_y : gi S6x25_z 192 27 = gi S2x25_z 192 27 := gi_ne eS6x25_z (by omega)
              have f40_y : gi S6x25_z 212 (v3_).toNat = gi S2x25_z 212 (v3_).toNat := gi_ne eS6x25_z (by omega)
              unfold f_M_use_70
              refine ok_chk (by omega) ?_
              unfold f_M_use_73
              refine ok_chk (by omega) ?_
              exact ih S6x25_z (v2_ + 1) (v3_ + 1) h37_y (by omega) (by omega)
            · unfold f_M_use_70
              refine ok_chk (by omega) ?_
              unfold f_M_use_73
              refine ok_chk (by omega) ?_
              exact ih S2x25_z (v2_ + 1) (v3_ + 1) h26_y (by omega) (by omega)
set_option maxHeartbeats 4000000 in
theorem ok_M_use {b : Nat} (S : SS) (v1 : Int) (hC : MX b S) : okk (f_M_use S v1) (fun S1 => MX b S1 ∧ (True)) := by
  unfold f_M_use
  refine ok_b1 (ok_M_judge S hC) (fun S1x1_z h2_y => ?_)
  obtain ⟨h3_y, p4_y⟩ := h2_y
  exact okl_M_use_8 v1 FU S1x1_z 0 0 h3_y (by omega) (by unfold FU; omega)
theorem okl_lay {b : Nat} (v1 t : Int) (ht : t ≤ 2000) : ∀ (n : Nat) (S : SS) (v2_ : Int), MX b S → (-8 ≤ v2_ ∧ v2_ ≤ 24 ∧ 8 * gi S 192 8 + v2_ + 8 ≤ 8 * t) → v2_ + 8 < (n : Int) → okk (f_M_lay_3 v1 n S v2_) (fun S1 => MX b S1 ∧ gi S1 192 8 ≤ t) := by
  intro n
  induction n with
  | zero => intro S v2_ hC hi hm; exfalso; omega
  | succ n ih =>
    intro S v2_ hC hi hm
    have hm : v2_ + 8 < (n : Int) + 1 := by omega
    show okk (f_M_lay_3_b v1 (f_M_lay_3 v1 n) S v2_) _
    unfold f_M_lay_3_b
    have b8 := mx_192_8 hC
    refine ok_if (fun _ => ok_some ⟨hC, by omega⟩) (fun c1 => ok_chk (by omega) (ok_lt (fun S4 e4 => ?_)))
    have tr := tob_rng (tob (shri v1 v2_))
    have h4 : MX b S4 := by rw [e4]; exact ms_197 hC (by omega) (by omega)
    have f4 : gi S4 192 8 = gi S 192 8 := gi_ne e4 (by omega)
    refine ok_chk (by omega) (ok_lt (fun S7 e7 => ok_chk (by omega) ?_))
    have h7 : MX b S7 := by rw [e7]; exact ms_192_8 h4 (by omega) (by omega)
    have f7 : gi S7 192 8 = gi S4 192 8 + 1 := gi_eq e7
    exact ih S7 _ h7 (by omega) (by omega)
theorem ok_M_lay {b : Nat} (S : SS) (v1 t : Int) (hC : MX b S) (ht : t ≤ 2000) (h : gi S 192 8 + 4 ≤ t) : okk (f_M_lay S v1) (fun S1 => MX b S1 ∧ gi S1 192 8 ≤ t) := by
  unfold f_M_lay
  exact okl_lay v1 t ht FU S 24 hC (by omega) (by unfold FU; omega)
theorem ok_M_feed {b : Nat} (S : SS) (v1 v2 v3 v4 v5 : Int) (hC : MX b S) : okk (f_M_feed S v1 v2 v3 v4 v5) (fun u => MX b u.2 ∧ True) := by
  unfold f_M_feed
  have b8 := mx_192_8 hC
  refine ok_chk (by omega) (ok_if (fun c1 => ?_) (fun _ => ok_some ⟨hC, trivial⟩))
  refine ok_b1 (ok_M_lay S v1 (gi S 192 8 + 4) hC (by omega) (by omega)) (fun S3 h3 => ?_)
  refine ok_b1 (ok_M_lay S3 v2 (gi S 192 8 + 8) h3.1 (by omega) (by have := h3.2; omega)) (fun S5 h5 => ?_)
  refine ok_b1 (ok_M_lay S5 v3 (gi S 192 8 + 12) h5.1 (by omega) (by have := h5.2; omega)) (fun S7 h7 => ?_)
  refine ok_b1 (ok_M_lay S7 v4 (gi S 192 8 + 16) h7.1 (by omega) (by have := h7.2; omega)) (fun S9 h9 => ?_)
  refine ok_b1 (ok_M_lay S9 v5 (gi S 192 8 + 20) h9.1 (by omega) (by have := h9.2; omega)) (fun S11 h11 => ?_)
  exact ok_some ⟨h11.1, trivial⟩
set_option maxHeartbeats 4000000 in
theorem ok_M_isText {b : Nat} (S : SS) (v0 : Int) (hC : MX b S) : okk (f_M_isText S v0) (fun r => (r = 0 ∧ (v0 < 0 ∨ 2 < v0)) ∨ (r = 1 ∧ 0 ≤ v0 ∧ v0 ≤ 2)) := by
  unfold f_M_isText
  have b2_y := in01 S v0 0 2
  refine ok_chk (by omega) ?_
  exact ok_some (by omega)
set_option maxHeartbeats 4000000 in
theorem ok_M_at {b : Nat} (S : SS) (v0 : Int) (v1 : Int) (hC : MX b S) (hp0 : -1000 ≤ v0 ∧ v0 ≤ 1000) (hp1 : -1000 ≤ v1 ∧ v1 ≤ 1000) : okk (f_M_at S v0 v1) (fun r => r = 321 * v0 + v1) := by
  unfold f_M_at
  refine ok_chk (by omega) ?_
  refine ok_chk (by omega) ?_
  exact ok_some (by omega)
set_option maxHeartbeats 4000000 in
theorem okl_M_bits_4 {b : Nat} (S : SS) (v0 : Int) (hC : MX b S) : ∀ (n : Nat) (v1_ : Int) (v2_ : Int), (0 ≤ v1_ ∧ v1_ ≤ v2_ ∧ v2_ ≤ 31) → 31 - v2_ < (n : Int) → okk (f_M_bits_4 S v0 n v1_ v2_) (fun r => 0 ≤ r ∧ r ≤ 31) := by
  intro n
  induction n with
  | zero => intro v1_ v2_ hi hm; exfalso; omega
  | succ n ih =>
    intro v1_ v2_ hi hm
    have hm : 31 - v2_ < (n : Int) + 1 := by omega
    show okk (f_M_bits_4_b S v0 (f_M_bits_4 S v0 n) v1_ v2_) _
    unfold f_M_bits_4_b
    refine ok_if (fun c1_y => ?_) (fun c1_y => ?_)
    · exact ok_some (by omega)
    · have b2_y := andi1 (shri v0 v2_)
      refine ok_chk (by omega) ?_
      refine ok_chk (by omega) ?_
      exact ih (v1_ + (andi (shri v0 v2_) 1)) (v2_ + 1) (by omega) (by omega)
set_option maxHeartbeats 4000000 in
theorem ok_M_bits {b : Nat} (S : SS) (v0 : Int) (hC : MX b S) : okk (f_M_bits S v0) (fun r => 0 ≤ r ∧ r ≤ 31) := by
  unfold f_M_bits
  exact okl_M_bits_4 S v0 hC FU 0 0 (by omega) (by unfold FU; omega)
set_option maxHeartbeats 4000000 in
theorem ok_M_costs {b : Nat} (S : SS) (v1 : Int) (v2 : Int) (hC : MX b S) : okk (f_M_costs S v1 v2) (fun u => MX b u.2 ∧ (True)) := by
  unfold f_M_costs
  have b2_y := in01 S v1 1 9
  refine ok_if (fun c3_y => ?_) (fun c3_y => ?_)
  · exact ok_some ⟨hC, by trivial⟩
  · have b4_y := in01 S v2 1 9
    refine ok_if (fun c5_y => ?_) (fun c5_y => ?_)
    · exact ok_some ⟨hC, by trivial⟩
    · refine ok_chk (by omega) ?_
      refine ok_lt (fun S5x1_z eS5x1_z => ?_)
      have h6_y : MX b S5x1_z := by rw [eS5x1_z]; exact ms_211 hC (by omega) (by omega)
      refine ok_chk (by omega) ?_
      refine ok_lt (fun S6x1_z eS6x1_z => ?_)
      have h7_y : MX b S6x1_z := by rw [eS6x1_z]; exact ms_211 h6_y (by omega) (by omega)
      exact ok_some ⟨h7_y, by trivial⟩
set_option maxHeartbeats 4000000 in
theorem ok_M_held {b : Nat} (S : SS) (v1 : Int) (hC : MX b S) (hp0 : i32 v1) : okk (f_M_held S v1) (fun r => True) := by
  unfold f_M_held
  have b2_y := mx_192_38 hC
  refine ok_if (fun c3_y => ?_) (fun c3_y => ?_)
  · exact ok_some (by trivial)
  · have b4_y := mx_192_36 hC
    refine ok_chk (by omega) ?_
    have b5_y := in01 S v1 10 (9 + (gi S 192 36))
    refine ok_if (fun c6_y => ?_) (fun c6_y => ?_)
    · refine ok_if (fun c7_y => ?_) (fun c7_y => ?_)
      · have b8_y := mx_192_35 hC
        exact ok_some (by trivial)
      · refine ok_if (fun c9_y => ?_) (fun c9_y => ?_)
        · exact ok_some (by trivial)
        · refine ok_if (fun c10_y => ?_) (fun c10_y => ?_)
          · have b11_y := mx_192_37 hC
            exact ok_some (by trivial)
          · exact ok_some (by trivial)
    · refine ok_chk (by omega) ?_
      refine ok_chk (by omega) ?_
      have b12_y := mx_216 hC (v1 - 10).toNat
      exact ok_some (by trivial)
set_option maxHeartbeats 4000000 in
theorem ok_M_unasked {b : Nat} (S : SS) (v1 : Int) (v2 : Int) (hC : MX b S) : okk (f_M_unasked S v1 v2) (fun r => True) := by
  unfold f_M_unasked
  have b2_y := mx_192_37 hC
  refine ok_chk (by omega) ?_
  have b3_y := in01 S v1 0 ((gi S 192 37) - 1)
  refine ok_if (fun c4_y => ?_) (fun c4_y => ?_)
  · exact ok_some (by trivial)
  · refine ok_if (fun c5_y => ?_) (fun c5_y => ?_)
    · refine ok_chk (by omega) ?_
      have b6_y := mx_217 hC (v1).toNat
      exact ok_some (by trivial)
    · refine ok_if (fun c7_y => ?_) (fun c7_y => ?_)
      · refine ok_chk (by omega) ?_
        have b8_y := mx_218 hC (v1).toNat
        exact ok_some (by trivial)
      · refine ok_if (fun c9_y => ?_) (fun c9_y => ?_)
        · refine ok_chk (by omega) ?_
          have b10_y := mx_219 hC (v1).toNat
          exact ok_some (by trivial)
        · exact ok_some (by trivial)
set_option maxHeartbeats 4000000 in
theorem ok_M_error {b : Nat} (S : SS) (v1 : Int) (v2 : Int) (hC : MX b S) (hp0 : v2 = 0 ∨ v2 = 1) : okk (f_M_error S v1 v2) (fun u => MX b u.2 ∧ (True)) := by
  unfold f_M_error
  refine ok_b1 (ok_M_isMark S v1 hC) (fun r1x1_z h2_y => ?_)
  refine ok_if (fun c3_y => ?_) (fun c3_y => ?_)
  · exact ok_some ⟨hC, by trivial⟩
  · refine ok_chk (by omega) ?_
    have b4_y := mx_199 hC (v1).toNat
    refine ok_if (fun c5_y => ?_) (fun c5_y => ?_)
    · exact ok_some ⟨hC, by trivial⟩
    · refine ok_chk (by omega) ?_
      refine ok_chk (by omega) ?_
      refine ok_chk (by omega) ?_
      refine ok_lt (fun S6x1_z eS6x1_z => ?_)
      have h6_y : MX b S6x1_z := by rw [eS6x1_z]; exact ms_208 hC (by omega) (by omega)
      have f7_y : gi S6x1_z 199 (v1).toNat = gi S 199 (v1).toNat := gi_ne eS6x1_z (by omega)
      have b8_y := mx_208 hC (v1).toNat
      refine ok_if (fun c9_y => ?_) (fun c9_y => ?_)
      · exact ok_some ⟨h6_y, by trivial⟩
      · exact ok_some ⟨h6_y, by trivial⟩
set_option maxHeartbeats 4000000 in
theorem ok_M_price {b : Nat} (S : SS) (v1 : Int) (v2 : Int) (hC : MX b S) : okk (f_M_price S v1 v2) (fun u => MX b u.2 ∧ (True)) := by
  unfold f_M_price
  have b2_y := in01 S v1 0 4
  refine ok_if (fun c3_y => ?_) (fun c3_y => ?_)
  · exact ok_some ⟨hC, by trivial⟩
  · have b4_y := in01 S v2 0 999
    refine ok_if (fun c5_y => ?_) (fun c5_y => ?_)
    · exact ok_some ⟨hC, by trivial⟩
    · refine ok_chk (by omega) ?_
      refine ok_chk (by omega) ?_
      refine ok_lt (fun S6x1_z eS6x1_z => ?_)
      have h6_y : MX b S6x1_z := by rw [eS6x1_z]; exact ms_210 hC (by omega) (by omega)
      have b7_y := mx_210 hC (v1).toNat
      exact ok_some ⟨h6_y, by trivial⟩
set_option maxHeartbeats 4000000 in
theorem okl_M_next_20 {b : Nat} : ∀ (n : Nat) (S : SS) (v1_ : Int), MX b S → (0 ≤ v1_ ∧ v1_ ≤ 150 ∧ gi S 192 4 ≤ 60) → 150 - v1_ < (n : Int) → okk (f_M_next_20 n S v1_) (fun u => MX b u.2 ∧ (True)) := by
  intro n
  induction n with
  | zero => intro S v1_ hC hi hm; exfalso; omega
  | succ n ih =>
    intro S v1_ hC hi hm
    have hm : 150 - v1_ < (n : Int) + 1 := by omega
    show okk (f_M_next_20_b (f_M_next_20 n) S v1_) _
    unfold f_M_next_20_b
    have b1_y := mx_192_4 hC
    refine ok_if (fun c2_y => ?_) (fun c2_y => ?_)
    · refine ok_lt (fun S3_z eS3_z => ?_)
      have h3_y : MX b S3_z := by rw [eS3_z]; exact ms_192_3 hC (by omega) (by omega)
      have f4_y : gi S3_z 192 3 = gi S 192 4 := gi_eq eS3_z
      have f5_y : gi S3_z 192 4 = gi S 192 4 := gi_ne eS3_z (by omega)
      refine ok_lt (fun S4_z eS4_z => ?_)
      have h6_y : MX b S4_z := by rw [eS4_z]; exact ms_192_4 h3_y (by omega) (by omega)
      have f7_y : gi S4_z 192 4 = 0 := gi_eq eS4_z
      have f8_y : gi S4_z 192 3 = gi S3_z 192 3 := gi_ne eS4_z (by omega)
      refine ok_lt (fun S5_z eS5_z => ?_)
      have h9_y : MX b S5_z := by rw [eS5_z]; exact ms_192_27 h6_y (by omega) (by omega)
      have f10_y : gi S5_z 192 27 = 0 := gi_eq eS5_z
      have f11_y : gi S5_z 192 4 = gi S4_z 192 4 := gi_ne eS5_z (by omega)
      have f12_y : gi S5_z 192 3 = gi S4_z 192 3 := gi_ne eS5_z (by omega)
      exact ok_some ⟨h9_y, by trivial⟩
    · refine ok_chk (by omega) ?_
      refine ok_chk (by omega) ?_
      refine ok_lt (fun S8_z eS8_z => ?_)
      have h13_y : MX b S8_z := by rw [eS8_z]; exact ms_sl hC
      have f14_y : gi S8_z 192 4 = gi S 192 4 := gi_sl eS8_z
      refine ok_chk (by omega) ?_
      exact ih S8_z (v1_ + 1) h13_y (by omega) (by omega)
set_option maxHeartbeats 4000000 in
theorem ok_M_next {b : Nat} (S : SS) (hC : MX b S) : okk (f_M_next S) (fun u => MX b u.2 ∧ (True)) := by
  unfold f_M_next
  have b2_y := mx_192_4 hC
  have b3_y := in01 S (gi S 192 4) 1 60
  refine ok_if (fun c4_y => ?_) (fun c4_y => ?_)
  · exact ok_some ⟨hC, by trivial⟩
  · exact okl_M_next_20  FU S 0 hC (by omega) (by unfold FU; omega)
theorem i2l_rng (a : Int) : -2147483648 ≤ (i2l a).toInt ∧ (i2l a).toInt ≤ 2147483647 := by
  have h := i_rng (oi a)
  have e : (i2l a).toInt = (oi a).toInt := Int32.toInt_toInt64 (oi a)
  rw [e]
  exact h
set_option maxHeartbeats 4000000 in
theorem okl_M_innermost_5 {b : Nat} (S : SS) (v1 : Int) (v2 : Int) (hC : MX b S) : ∀ (n : Nat) (v3_ : Int) (v4_ : Int), (-1 ≤ v3_ ∧ v3_ < 40 ∧ 0 ≤ v4_ ∧ v4_ ≤ 40) → 40 - v4_ < (n : Int) → okk (f_M_innermost_5 S v1 v2 n v3_ v4_) (fun r => -1 ≤ r ∧ r < 40) := by
  intro n
  induction n with
  | zero => intro v3_ v4_ hi hm; exfalso; omega
  | succ n ih =>
    intro v3_ v4_ hi hm
    have hm : 40 - v4_ < (n : Int) + 1 := by omega
    show okk (f_M_innermost_5_b S v1 v2 (f_M_innermost_5 S v1 v2 n) v3_ v4_) _
    unfold f_M_innermost_5_b
    have b1_y := mx_192_27 hC
    refine ok_if (fun c2_y => ?_) (fun c2_y => ?_)
    · exact ok_some (by omega)
    · refine ok_chk (by omega) ?_
      have b3_y := mx_214 hC (v4_).toNat
      refine ok_if (fun c4_y => ?_) (fun c4_y => ?_)
      · unfold f_M_innermost_111
        refine ok_chk (by omega) ?_
        exact ih v3_ (v4_ + 1) (by omega) (by omega)
      · refine ok_chk (by omega) ?_
        have b6_y := mx_199 hC (v4_).toNat
        refine ok_if (fun c7_y => ?_) (fun c7_y => ?_)
        · refine ok_chk (by omega) ?_
          refine ok_if (fun c8_y => ?_) (fun c8_y => ?_)
          · unfold f_M_innermost_54
            have b10_y := mx_201 hC (v4_).toNat
            have z11_y : (0 : Int64).toInt = 0 := rfl
            have b12_y := i2l_rng (gi S 201 (v4_).toNat)
            refine ok_chk (by omega) ?_
            refine ok_chk (by omega) ?_
            have b13_y := mx_202 hC (v4_).toNat
            have b14_y := in01 S (i2l v1).toInt ((i2l (gi S 201 (v4_).toNat)).toInt + (0 : Int64).toInt) (gi S 202 (v4_).toNat)
            have b15_y := i2l_rng v1
            refine ok_if (fun c16_y => ?_) (fun c16_y => ?_)
            · unfold f_M_innermost_111
              refine ok_chk (by omega) ?_
              exact ih v3_ (v4_ + 1) (by omega) (by omega)
            · refine ok_if (fun c18_y => ?_) (fun c18_y => ?_)
              · unfold f_M_innermost_108
                unfold f_M_innermost_111
                refine ok_chk (by omega) ?_
                exact ih v4_ (v4_ + 1) (by omega) (by omega)
              · refine ok_chk (by omega) ?_
                refine ok_chk (by omega) ?_
                refine ok_chk (by omega) ?_
                refine ok_chk (by omega) ?_
                refine ok_chk (by omega) ?_
                have b21_y := mx_202 hC (v3_).toNat
                have b22_y := mx_201 hC (v3_).toNat
                refine ok_chk (by omega) ?_
                refine ok_if (fun c23_y => ?_) (fun c23_y => ?_)
                · unfold f_M_innermost_111
                  refine ok_chk (by omega) ?_
                  exact ih v3_ (v4_ + 1) (by omega) (by omega)
                · unfold f_M_innermost_108
                  unfold f_M_innermost_111
                  refine ok_chk (by omega) ?_
                  exact ih v4_ (v4_ + 1) (by omega) (by omega)
          · unfold f_M_innermost_54
            have b28_y := mx_201 hC (v4_).toNat
            have z29_y : (1 : Int64).toInt = 1 := rfl
            have b30_y := i2l_rng (gi S 201 (v4_).toNat)
            refine ok_chk (by omega) ?_
            refine ok_chk (by omega) ?_
            have b31_y := mx_202 hC (v4_).toNat
            have b32_y := in01 S (i2l v1).toInt ((i2l (gi S 201 (v4_).toNat)).toInt + (1 : Int64).toInt) (gi S 202 (v4_).toNat)
            have b33_y := i2l_rng v1
            refine ok_if (fun c34_y => ?_) (fun c34_y => ?_)
            · unfold f_M_innermost_111
              refine ok_chk (by omega) ?_
              exact ih v3_ (v4_ + 1) (by omega) (by omega)
            · refine ok_if (fun c36_y => ?_) (fun c36_y => ?_)
              · unfold f_M_innermost_108
                unfold f_M_innermost_111
                refine ok_chk (by omega) ?_
                exact ih v4_ (v4_ + 1) (by omega) (by omega)
              · refine ok_chk (by omega) ?_
                refine ok_chk (by omega) ?_
                refine ok_chk (by omega) ?_
                refine ok_chk (by omega) ?_
                refine ok_chk (by omega) ?_
                have b39_y := mx_202 hC (v3_).toNat
                have b40_y := mx_201 hC (v3_).toNat
                refine ok_chk (by omega) ?_
                refine ok_if (fun c41_y => ?_) (fun c41_y => ?_)
                · unfold f_M_innermost_111
                  refine ok_chk (by omega) ?_
                  exact ih v3_ (v4_ + 1) (by omega) (by omega)
                · unfold f_M_innermost_108
                  unfold f_M_innermost_111
                  refine ok_chk (by omega) ?_
                  exact ih v4_ (v4_ + 1) (by omega) (by omega)
        · unfold f_M_innermost_111
          refine ok_chk (by omega) ?_
          exact ih v3_ (v4_ + 1) (by omega) (by omega)
set_option maxHeartbeats 4000000 in
theorem ok_M_innermost {b : Nat} (S : SS) (v1 : Int) (v2 : Int) (hC : MX b S) : okk (f_M_innermost S v1 v2) (fun r => -1 ≤ r ∧ r < 40) := by
  unfold f_M_innermost
  exact okl_M_innermost_5 S v1 v2 hC FU (-1) 0 (by omega) (by unfold FU; omega)
set_option maxHeartbeats 4000000 in
theorem okl_M_moveOf_4 {b : Nat} (S : SS) (v1 : Int) (hC : MX b S) (hp0 : 0 ≤ v1 ∧ v1 < 41) : ∀ (n : Nat) (v2_ : Int) (v3_ : Int), (-1 ≤ v2_ ∧ v2_ < 40 ∧ 0 ≤ v3_ ∧ v3_ ≤ 40) → 40 - v3_ < (n : Int) → okk (f_M_moveOf_4 S v1 n v2_ v3_) (fun r => -1 ≤ r ∧ r < 40) := by
  intro n
  induction n with
  | zero => intro v2_ v3_ hi hm; exfalso; omega
  | succ n ih =>
    intro v2_ v3_ hi hm
    have hm : 40 - v3_ < (n : Int) + 1 := by omega
    show okk (f_M_moveOf_4_b S v1 (f_M_moveOf_4 S v1 n) v2_ v3_) _
    unfold f_M_moveOf_4_b
    have b1_y := mx_192_27 hC
    refine ok_if (fun c2_y => ?_) (fun c2_y => ?_)
    · exact ok_some (by omega)
    · refine ok_chk (by omega) ?_
      have b3_y := mx_214 hC (v3_).toNat
      refine ok_if (fun c4_y => ?_) (fun c4_y => ?_)
      · unfold f_M_moveOf_100
        refine ok_chk (by omega) ?_
        exact ih v2_ (v3_ + 1) (by omega) (by omega)
      · refine ok_chk (by omega) ?_
        have b6_y := mx_199 hC (v3_).toNat
        refine ok_if (fun c7_y => ?_) (fun c7_y => ?_)
        · refine ok_chk (by omega) ?_
          refine ok_chk (by omega) ?_
          have b8_y := mx_201 hC (v1).toNat
          have b9_y := mx_201 hC (v3_).toNat
          refine ok_if (fun c10_y => ?_) (fun c10_y => ?_)
          · unfold f_M_moveOf_100
            refine ok_chk (by omega) ?_
            exact ih v2_ (v3_ + 1) (by omega) (by omega)
          · refine ok_chk (by omega) ?_
            refine ok_chk (by omega) ?_
            have b12_y := mx_203 hC (v1).toNat
            have b13_y := mx_202 hC (v3_).toNat
            refine ok_if (fun c14_y => ?_) (fun c14_y => ?_)
            · refine ok_if (fun c15_y => ?_) (fun c15_y => ?_)
              · unfold f_M_moveOf_98
                unfold f_M_moveOf_100
                refine ok_chk (by omega) ?_
                exact ih v3_ (v3_ + 1) (by omega) (by omega)
              · refine ok_chk (by omega) ?_
                refine ok_chk (by omega) ?_
                refine ok_chk (by omega) ?_
                refine ok_chk (by omega) ?_
                refine ok_chk (by omega) ?_
                have b18_y := mx_202 hC (v2_).toNat
                have b19_y := mx_201 hC (v2_).toNat
                refine ok_chk (by omega) ?_
                refine ok_if (fun c20_y => ?_) (fun c20_y => ?_)
                · unfold f_M_moveOf_100
                  refine ok_chk (by omega) ?_
                  exact ih v2_ (v3_ + 1) (by omega) (by omega)
                · unfold f_M_moveOf_98
                  unfold f_M_moveOf_100
                  refine ok_chk (by omega) ?_
                  exact ih v3_ (v3_ + 1) (by omega) (by omega)
            · unfold f_M_moveOf_100
              refine ok_chk (by omega) ?_
              exact ih v2_ (v3_ + 1) (by omega) (by omega)
        · unfold f_M_moveOf_100
          refine ok_chk (by omega) ?_
          exact ih v2_ (v3_ + 1) (by omega) (by omega)
set_option maxHeartbeats 4000000 in
theorem ok_M_moveOf {b : Nat} (S : SS) (v1 : Int) (hC : MX b S) (hp0 : 0 ≤ v1 ∧ v1 < 41) : okk (f_M_moveOf S v1) (fun r => -1 ≤ r ∧ r < 40) := by
  unfold f_M_moveOf
  exact okl_M_moveOf_4 S v1 hC (by omega) FU (-1) 0 (by omega) (by unfold FU; omega)
set_option maxHeartbeats 4000000 in
theorem okl_M_turnAt_6 {b : Nat} (S : SS) (v1 : Int) (v2 : Int) (v3 : Int) (hC : MX b S) : ∀ (n : Nat) (v4_ : Int) (v5_ : Int), (-1 ≤ v4_ ∧ v4_ < 40 ∧ 0 ≤ v5_ ∧ v5_ ≤ 40) → 40 - v5_ < (n : Int) → okk (f_M_turnAt_6 S v1 v2 v3 n v4_ v5_) (fun r => -1 ≤ r ∧ r < 40) := by
  intro n
  induction n with
  | zero => intro v4_ v5_ hi hm; exfalso; omega
  | succ n ih =>
    intro v4_ v5_ hi hm
    have hm : 40 - v5_ < (n : Int) + 1 := by omega
    show okk (f_M_turnAt_6_b S v1 v2 v3 (f_M_turnAt_6 S v1 v2 v3 n) v4_ v5_) _
    unfold f_M_turnAt_6_b
    have b1_y := mx_192_27 hC
    refine ok_if (fun c2_y => ?_) (fun c2_y => ?_)
    · exact ok_some (by omega)
    · refine ok_chk (by omega) ?_
      have b3_y := mx_214 hC (v5_).toNat
      refine ok_if (fun c4_y => ?_) (fun c4_y => ?_)
      · unfold f_M_turnAt_98
        refine ok_chk (by omega) ?_
        exact ih v4_ (v5_ + 1) (by omega) (by omega)
      · refine ok_chk (by omega) ?_
        have b6_y := mx_199 hC (v5_).toNat
        refine ok_if (fun c7_y => ?_) (fun c7_y => ?_)
        · refine ok_chk (by omega) ?_
          have b8_y := mx_201 hC (v5_).toNat
          refine ok_if (fun c9_y => ?_) (fun c9_y => ?_)
          · refine ok_chk (by omega) ?_
            have b10_y := mx_203 hC (v5_).toNat
            refine ok_if (fun c11_y => ?_) (fun c11_y => ?_)
            · unfold f_M_turnAt_98
              refine ok_chk (by omega) ?_
              exact ih v4_ (v5_ + 1) (by omega) (by omega)
            · refine ok_b1 (ok_M_moveOf S v5_ hC (by omega)) (fun r6_z h13_y => ?_)
              refine ok_if (fun c14_y => ?_) (fun c14_y => ?_)
              · refine ok_if (fun c15_y => ?_) (fun c15_y => ?_)
                · unfold f_M_turnAt_94
                  unfold f_M_turnAt_98
                  refine ok_chk (by omega) ?_
                  exact ih v5_ (v5_ + 1) (by omega) (by omega)
                · refine ok_chk (by omega) ?_
                  refine ok_chk (by omega) ?_
                  have b18_y := mx_203 hC (v4_).toNat
                  refine ok_if (fun c19_y => ?_) (fun c19_y => ?_)
                  · unfold f_M_turnAt_98
                    refine ok_chk (by omega) ?_
                    exact ih v4_ (v5_ + 1) (by omega) (by omega)
                  · unfold f_M_turnAt_94
                    unfold f_M_turnAt_98
                    refine ok_chk (by omega) ?_
                    exact ih v5_ (v5_ + 1) (by omega) (by omega)
              · unfold f_M_turnAt_98
                refine ok_chk (by omega) ?_
                exact ih v4_ (v5_ + 1) (by omega) (by omega)
          · unfold f_M_turnAt_98
            refine ok_chk (by omega) ?_
            exact ih v4_ (v5_ + 1) (by omega) (by omega)
        · unfold f_M_turnAt_98
          refine ok_chk (by omega) ?_
          exact ih v4_ (v5_ + 1) (by omega) (by omega)
set_option maxHeartbeats 4000000 in
theorem ok_M_turnAt {b : Nat} (S : SS) (v1 : Int) (v2 : Int) (v3 : Int) (hC : MX b S) : okk (f_M_turnAt S v1 v2 v3) (fun r => -1 ≤ r ∧ r < 40) := by
  unfold f_M_turnAt
  exact okl_M_turnAt_6 S v1 v2 v3 hC FU (-1) 0 (by omega) (by unfold FU; omega)
set_option maxHeartbeats 4000000 in
theorem ok_M_byteAt {b : Nat} (S : SS) (v1 : Int) (hC : MX b S) (hp0 : 0 ≤ v1) : okk (f_M_byteAt S v1) (fun r => 0 ≤ r ∧ r ≤ 255 ∧ ((gi S 192 9 ≤ v1 ∧ r = 0) ∨ (v1 < gi S 192 9 ∧ r = andi (gi S 197 (v1).toNat) 255))) := by
  unfold f_M_byteAt
  have b2_y := mx_192_9 hC
  refine ok_if (fun c3_y => ?_) (fun c3_y => ?_)
  · exact ok_some (by omega)
  · refine ok_chk (by omega) ?_
    have b4_y := mx_197 hC (v1).toNat
    have b5_y := andi255 (gi S 197 (v1).toNat)
    exact ok_some (by omega)
/-- text v has room for n words -/
def cpt (v n : Int) : Prop := 0 ≤ n ∧ n ≤ 320 ∧ (v = 0 → n ≤ 60) ∧ (v = 1 → n ≤ 150)
theorem ok_M_wordAt {b : Nat} (S : SS) (v1 v2 n : Int) (hC : MX b S) (hc : cpt v1 n) (h : 0 ≤ v2 ∧ v2 < n) : okk (f_M_wordAt S v1 v2) (fun _ => True) := by
  obtain ⟨_, h2, h3, h4⟩ := hc
  unfold f_M_wordAt
  refine ok_if (fun c => ?_) (fun c => ok_if (fun c2 => ?_) (fun c2 => ?_))
  · have := h3 c; exact ok_chk (by omega) (ok_some trivial)
  · have := h4 c2; exact ok_chk (by omega) (ok_some trivial)
  · exact ok_chk (by omega) (ok_some trivial)
/-- the table behind (x, y): what is laid already -/
def FT (S : SS) (n m x y : Int) : Prop := ∀ (i j : Int), 0 ≤ i → i ≤ n → 0 ≤ j → j ≤ m → (x < i ∨ (x = i ∧ y < j)) → 0 ≤ gi S 215 (321 * i + j).toNat ∧ gi S 215 (321 * i + j).toNat ≤ (n - i) + (m - j)
/-- all but the table stays -/
def FF (S S1 : SS) : Prop := ∀ r k, r ≠ 215 → gi S1 r k = gi S r k
theorem ft_set {S S1 : SS} {n m x y v : Int} (hF : FT S n m x y) (e : S1 = si S 215 (321 * x + y).toNat v) (hx : 0 ≤ x ∧ x ≤ n ∧ n ≤ 320) (hy : 0 ≤ y ∧ y ≤ m ∧ m ≤ 320) (hv : 0 ≤ v ∧ v ≤ (n - x) + (m - y)) : FT S1 n m x (y + (-1)) := by
  intro i j i0 i1 j0 j1 h
  rw [e, gi_si]
  by_cases q : 215 = 215 ∧ (321 * i + j).toNat = (321 * x + y).toNat
  · rw [if_pos q]
    have : i = x ∧ j = y := by omega
    rw [this.1, this.2]; exact hv
  · rw [if_neg q]
    exact hF i j i0 i1 j0 j1 (by omega)
theorem ok_apart140 {b : Nat} (v1 v2 v3 v4 : Int) (k3 : SS → Int → Option (Int × SS)) (k12 : SS → Int → Int → Option (Int × SS)) (S0 S : SS) (v5_ v6_ v7_ : Int) (P : Int × SS → Prop) (hC : MX b S) (hF : FT S v2 v4 v5_ v6_) (hG : FF S0 S) (h5 : 0 ≤ v5_ ∧ v5_ ≤ v2 ∧ v2 ≤ 320) (h6 : 0 ≤ v6_ ∧ v6_ ≤ v4 ∧ v4 ≤ 320) (hv : 0 ≤ v7_ ∧ v7_ ≤ (v2 - v5_) + (v4 - v6_)) (hk : ∀ S', MX b S' → FT S' v2 v4 v5_ (v6_ + (-1)) → FF S0 S' → okk (k12 S' v5_ (v6_ + (-1))) P) : okk (f_M_apart_140 v1 v2 v3 v4 k3 k12 S v5_ v6_ v7_) P := by
  unfold f_M_apart_140
  refine ok_b1 (ok_M_at S v5_ v6_ hC (by omega) (by omega)) (fun r hr => ok_chk (by omega) (ok_lt (fun S3 e => ok_chk (by omega) ?_)))
  have e : S3 = si S 215 (321 * v5_ + v6_).toNat v7_ := by rw [e, hr]
  refine hk S3 (by rw [e]; exact ms_215 hC (by omega) (by omega)) (ft_set hF e h5 h6 hv) (fun r k h => ?_)
  rw [gi_ne e (by omega)]; exact hG r k h
theorem ok_apart85 {b : Nat} (v1 v2 v3 v4 : Int) (k3 : SS → Int → Option (Int × SS)) (k12 : SS → Int → Int → Option (Int × SS)) (S0 S : SS) (v5_ v6_ vt0_ : Int) (P : Int × SS → Prop) (hC : MX b S) (hF : FT S v2 v4 v5_ v6_) (hG : FF S0 S) (h5 : 0 ≤ v5_ ∧ v5_ ≤ v2 ∧ v2 ≤ 320) (h6 : 0 ≤ v6_ ∧ v6_ ≤ v4 ∧ v4 ≤ 320) (hv : 0 ≤ vt0_ ∧ vt0_ ≤ (v2 - v5_) + (v4 - v6_)) (hk : ∀ S', MX b S' → FT S' v2 v4 v5_ (v6_ + (-1)) → FF S0 S' → okk (k12 S' v5_ (v6_ + (-1))) P) : okk (f_M_apart_85 v1 v2 v3 v4 k3 k12 S v5_ v6_ vt0_) P := by
  unfold f_M_apart_85
  refine ok_if (fun _ => ok_apart140 v1 v2 v3 v4 k3 k12 S0 S v5_ v6_ _ P hC hF hG h5 h6 hv hk) (fun c1 => ok_if (fun _ => ok_apart140 v1 v2 v3 v4 k3 k12 S0 S v5_ v6_ _ P hC hF hG h5 h6 hv hk) (fun c2 => ?_))
  refine ok_chk (by omega) (ok_b1 (ok_M_at S (v5_ + 1) v6_ hC (by omega) (by omega)) (fun r2 e2 => ok_chk (by omega) (ok_chk (by omega) (ok_b1 (ok_M_at S v5_ (v6_ + 1) hC (by omega) (by omega)) (fun r6 e6 => ok_chk (by omega) ?_)))))
  have a := hF (v5_ + 1) v6_ (by omega) (by omega) (by omega) (by omega) (by omega)
  have d := hF v5_ (v6_ + 1) (by omega) (by omega) (by omega) (by omega) (by omega)
  rw [← e2] at a
  rw [← e6] at d
  exact ok_chk (by omega) (ok_apart140 v1 v2 v3 v4 k3 k12 S0 S v5_ v6_ _ P hC hF hG h5 h6 (by omega) hk)
theorem okl_apart12 {b : Nat} (v1 v2 v3 v4 : Int) (k3 : SS → Int → Option (Int × SS)) (S0 : SS) (m : Int) (P : Int × SS → Prop) (hc1 : cpt v1 v2) (hc3 : cpt v3 v4) (h5 : 0 ≤ m ∧ m ≤ v2) (hk3 : ∀ S', MX b S' → FT S' v2 v4 m (-1) → FF S0 S' → okk (k3 S' (m + (-1))) P) : ∀ (n : Nat) (S : SS) (v6_ : Int), MX b S → FT S v2 v4 m v6_ → FF S0 S → (-1 ≤ v6_ ∧ v6_ ≤ v4) → v6_ + 1 < (n : Int) → okk (f_M_apart_12 v1 v2 v3 v4 k3 n S m v6_) P := by
  have b2 : v2 ≤ 320 := hc1.2.1
  have b4 : v4 ≤ 320 := hc3.2.1
  intro n
  induction n with
  | zero => intro S v6_ hC hF hG hi hm; exfalso; omega
  | succ n ih =>
    intro S v6_ hC hF hG hi hm
    have hm : v6_ + 1 < (n : Int) + 1 := by omega
    show okk (f_M_apart_12_b v1 v2 v3 v4 k3 (f_M_apart_12 v1 v2 v3 v4 k3 n) S m v6_) _
    unfold f_M_apart_12_b
    refine ok_if (fun c1 => ?_) (fun c1 => ?_)
    · rw [show v6_ = -1 by omega] at hF
      exact ok_chk (by omega) (hk3 S hC hF hG)
    have hk : ∀ S', MX b S' → FT S' v2 v4 m (v6_ + (-1)) → FF S0 S' → okk (f_M_apart_12 v1 v2 v3 v4 k3 n S' m (v6_ + (-1))) P := fun S' q1 q2 q3 => ih S' _ q1 q2 q3 (by omega) (by omega)
    refine ok_if (fun c2 => ok_chk (by omega) (ok_apart85 v1 v2 v3 v4 k3 _ S0 S m v6_ _ P hC hF hG (by omega) (by omega) (by omega) hk)) (fun c2 => ok_if (fun c3 => ok_chk (by omega) (ok_apart85 v1 v2 v3 v4 k3 _ S0 S m v6_ _ P hC hF hG (by omega) (by omega) (by omega) hk)) (fun c3 => ?_))
    refine ok_chk (by omega) (ok_chk (by omega) (ok_b1 (ok_M_at S (m + 1) (v6_ + 1) hC (by omega) (by omega)) (fun r4 e4 => ok_chk (by omega) (ok_b1 (ok_M_wordAt S v1 m v2 hC hc1 (by omega)) (fun w7 _ => ok_b1 (ok_M_wordAt S v3 v6_ v4 hC hc3 (by omega)) (fun w9 _ => ?_))))))
    have a := hF (m + 1) (v6_ + 1) (by omega) (by omega) (by omega) (by omega) (by omega)
    rw [← e4] at a
    refine ok_if (fun _ => ?_) (fun _ => ?_)
    · unfold f_M_apart_84
      exact ok_chk (by omega) (ok_apart85 v1 v2 v3 v4 k3 _ S0 S m v6_ _ P hC hF hG (by omega) (by omega) (by omega) hk)
    · unfold f_M_apart_84
      exact ok_chk (by omega) (ok_apart85 v1 v2 v3 v4 k3 _ S0 S m v6_ _ P hC hF hG (by omega) (by omega) (by omega) hk)
theorem okl_apart3 {b : Nat} (v1 v2 v3 v4 : Int) (S0 : SS) (hc1 : cpt v1 v2) (hc3 : cpt v3 v4) : ∀ (n : Nat) (S : SS) (v5_ : Int), MX b S → FT S v2 v4 v5_ v4 → FF S0 S → (-1 ≤ v5_ ∧ v5_ ≤ v2) → v5_ + 1 < (n : Int) → okk (f_M_apart_3 v1 v2 v3 v4 n S v5_) (fun u => MX b u.2 ∧ FF S0 u.2 ∧ 0 ≤ u.1 ∧ u.1 ≤ v2 + v4) := by
  have b2 : v2 ≤ 320 := hc1.2.1
  have b4 : v4 ≤ 320 := hc3.2.1
  have b2' : 0 ≤ v2 := hc1.1
  have b4' : 0 ≤ v4 := hc3.1
  intro n
  induction n with
  | zero => intro S v5_ hC hF hG hi hm; exfalso; omega
  | succ n ih =>
    intro S v5_ hC hF hG hi hm
    have hm : v5_ + 1 < (n : Int) + 1 := by omega
    show okk (f_M_apart_3_b v1 v2 v3 v4 (f_M_apart_3 v1 v2 v3 v4 n) S v5_) _
    unfold f_M_apart_3_b
    refine ok_if (fun c1 => ?_) (fun c1 => ?_)
    · have a := hF 0 0 (by omega) (by omega) (by omega) (by omega) (by omega)
      rw [show (321 * 0 + 0 : Int).toNat = 0 from rfl] at a
      exact ok_some ⟨hC, hG, by dsimp only; omega⟩
    · exact okl_apart12 v1 v2 v3 v4 _ S0 v5_ _ hc1 hc3 (by omega) (fun S' q1 q2 q3 => ih S' _ q1 (fun i j i0 i1 j0 j1 h => q2 i j i0 i1 j0 j1 (by omega)) q3 (by omega) (by omega)) FU S v4 hC hF hG (by omega) (by unfold FU; omega)
theorem ok_M_apart {b : Nat} (S : SS) (v1 v2 v3 v4 : Int) (hC : MX b S) (hc1 : cpt v1 v2) (hc3 : cpt v3 v4) : okk (f_M_apart S v1 v2 v3 v4) (fun u => MX b u.2 ∧ FF S u.2 ∧ 0 ≤ u.1 ∧ u.1 ≤ v2 + v4) := by
  have b2 : v2 ≤ 320 := hc1.2.1
  have b2' : 0 ≤ v2 := hc1.1
  unfold f_M_apart
  exact okl_apart3 v1 v2 v3 v4 S hc1 hc3 FU S v2 hC (fun i j i0 i1 j0 j1 h => by omega) (fun r k _ => rfl) (by omega) (by unfold FU; omega)
theorem ok_tr195 {b : Nat} (k : SS → Int → Int → Int → Option SS) (S : SS) (v1 v2 v3 v4 v5 vt0 vt1 : Int) (P : SS → Prop) (hC : MX b S) (h1 : vt1 = gi S 192 37 ∧ gi S 192 37 + v1 ≤ 450 ∧ 1 ≤ v1 ∧ v1 ≤ 450) (h2 : 0 ≤ v2 ∧ v2 ≤ 300 ∧ 0 ≤ v3 ∧ v3 ≤ 600 ∧ 0 ≤ vt0 ∧ vt0 ≤ 2) (hd : v2 < 300 ∨ (v4 = 0 ∧ v5 = 0)) (hk : ∀ S' a c, MX b S' → gi S' 192 37 = gi S 192 37 + 1 → (a = v2 ∨ (a = v2 + 1 ∧ v2 < 300)) → (c = v3 ∨ c = v3 + 1) → okk (k S' (v1 + (-1)) a c) P) : okk (f_M_trace_195 k S v1 v2 v3 v4 v5 vt0 vt1) P := by
  have b37 := mx_192_37 hC
  unfold f_M_trace_195
  refine ok_chk (by omega) (ok_lt (fun S1 e1 => ?_))
  have m1 : MX b S1 := by rw [e1]; exact ms_217 hC (by omega) (by omega)
  have f1 : gi S1 192 37 = gi S 192 37 := gi_ne e1 (by omega)
  refine ok_chk (by omega) (ok_lt (fun S3 e3 => ?_))
  have m3 : MX b S3 := by rw [e3]; exact ms_218 m1 (by omega) (by omega)
  have f3 : gi S3 192 37 = gi S1 192 37 := gi_ne e3 (by omega)
  refine ok_chk (by omega) (ok_lt (fun S5 e5 => ?_))
  have m5 : MX b S5 := by rw [e5]; exact ms_219 m3 (by omega) (by omega)
  have f5 : gi S5 192 37 = gi S3 192 37 := gi_ne e5 (by omega)
  refine ok_chk (by omega) (ok_lt (fun S8 e8 => ok_chk (by omega) ?_))
  have m8 : MX b S8 := by rw [e8]; exact ms_192_37 m5 (by omega) (by omega)
  have f8 : gi S8 192 37 = gi S5 192 37 + 1 := gi_eq e8
  have go : ∀ x, (x = 0 ∨ (x = 1 ∧ v2 < 300)) → okk (f_M_trace_245 k S8 (v1 + (-1)) v3 v5 x v2) P := by
    intro x hx
    unfold f_M_trace_245 f_M_trace_258
    refine ok_chk (by omega) (ok_if (fun _ => ok_chk (by omega) ?_) (fun _ => ok_chk (by omega) ?_))
    · exact hk S8 _ _ m8 (by omega) (by omega) (by omega)
    · exact hk S8 _ _ m8 (by omega) (by omega) (by omega)
  refine ok_if (fun c1 => ok_if (fun c2 => go 0 (by omega)) (fun c2 => ?_)) (fun c1 => ?_)
  · exact go 1 (by omega)
  · exact go 1 (by omega)
theorem ok_tr166 {b : Nat} (k : SS → Int → Int → Int → Option SS) (S : SS) (v1 v2 v3 v4 v5 : Int) (P : SS → Prop) (hC : MX b S) (h1 : gi S 192 37 + v1 ≤ 450 ∧ 1 ≤ v1 ∧ v1 ≤ 450) (h2 : 0 ≤ v2 ∧ v2 ≤ 300 ∧ 0 ≤ v3 ∧ v3 ≤ 600) (hd : v2 < 300 ∨ (v4 = 0 ∧ v5 = 0)) (hk : ∀ S' a c, MX b S' → gi S' 192 37 = gi S 192 37 + 1 → (a = v2 ∨ (a = v2 + 1 ∧ v2 < 300)) → (c = v3 ∨ c = v3 + 1) → okk (k S' (v1 + (-1)) a c) P) : okk (f_M_trace_166 k S v1 v2 v3 v4 v5) P := by
  unfold f_M_trace_166
  refine ok_if (fun c1 => ok_if (fun c2 => ?_) (fun c2 => ?_)) (fun c1 => ?_)
  · exact ok_tr195 k S v1 v2 v3 v4 v5 2 _ P hC (by omega) (by omega) hd hk
  · exact ok_tr195 k S v1 v2 v3 v4 v5 1 _ P hC (by omega) (by omega) hd hk
  · exact ok_tr195 k S v1 v2 v3 v4 v5 0 _ P hC (by omega) (by omega) hd hk
theorem ok_tr128 {b : Nat} (k : SS → Int → Int → Int → Option SS) (S : SS) (v1 v2 v3 v4 : Int) (P : SS → Prop) (hC : MX b S) (h1 : gi S 192 37 + v1 ≤ 450 ∧ 1 ≤ v1 ∧ v1 ≤ 450) (h2 : 0 ≤ v2 ∧ v2 ≤ 300 ∧ 0 ≤ v3 ∧ v3 ≤ 600) (hd : v2 < 300 ∨ v4 = 0) (hk : ∀ S' a c, MX b S' → gi S' 192 37 = gi S 192 37 + 1 → (a = v2 ∨ (a = v2 + 1 ∧ v2 < 300)) → (c = v3 ∨ c = v3 + 1) → okk (k S' (v1 + (-1)) a c) P) : okk (f_M_trace_128 k S v1 v2 v3 v4) P := by
  have b5 := mx_192_5 hC
  unfold f_M_trace_128 f_M_trace_165
  refine ok_if (fun c1 => ok_if (fun c2 => ?_) (fun c2 => ?_)) (fun c1 => ?_)
  · exact ok_tr166 k S v1 v2 v3 v4 0 P hC h1 h2 (by omega) hk
  · refine ok_chk (by omega) (ok_b1 (ok_M_at S (v2 + 1) v3 hC (by omega) (by omega)) (fun r e => ok_chk (by omega) (ok_chk (by omega) (ok_if (fun _ => ?_) (fun _ => ?_)))))
    · exact ok_tr166 k S v1 v2 v3 v4 1 P hC h1 h2 (by omega) hk
    · exact ok_tr166 k S v1 v2 v3 v4 0 P hC h1 h2 (by omega) hk
  · exact ok_tr166 k S v1 v2 v3 v4 0 P hC h1 h2 (by omega) hk
theorem ok_tr87 {b : Nat} (k : SS → Int → Int → Int → Option SS) (S : SS) (v1 v2 v3 : Int) (P : SS → Prop) (hC : MX b S) (h1 : gi S 192 37 + v1 ≤ 450 ∧ 1 ≤ v1 ∧ v1 ≤ 450) (h2 : 0 ≤ v2 ∧ v2 ≤ 300 ∧ 0 ≤ v3 ∧ v3 ≤ 600) (hk : ∀ S' a c, MX b S' → gi S' 192 37 = gi S 192 37 + 1 → (a = v2 ∨ (a = v2 + 1 ∧ v2 < 300)) → (c = v3 ∨ c = v3 + 1) → okk (k S' (v1 + (-1)) a c) P) : okk (f_M_trace_87 k S v1 v2 v3) P := by
  have b5 := mx_192_5 hC
  have b4 := mx_192_4 hC
  have go := ok_tr128 k S v1 v2 v3 0 P hC h1 h2 (by omega) hk
  unfold f_M_trace_87 f_M_trace_127
  refine ok_if (fun _ => go) (fun c1 => ok_if (fun _ => go) (fun c2 => ?_))
  refine ok_chk (by omega) (ok_chk (by omega) (ok_b1 (ok_M_at S (v2 + 1) (v3 + 1) hC (by omega) (by omega)) (fun r e => ok_chk (by omega) (ok_chk (by omega) (ok_if (fun _ => ?_) (fun _ => go))))))
  exact ok_tr128 k S v1 v2 v3 1 P hC h1 h2 (by omega) hk
theorem okl_trace {b : Nat} : ∀ (n : Nat) (S : SS) (v1_ v2_ v3_ : Int), MX b S → (0 ≤ v1_ ∧ v1_ ≤ 450 ∧ 0 ≤ v2_ ∧ v2_ ≤ 300 ∧ 0 ≤ v3_ ∧ v3_ + v1_ ≤ 600 ∧ gi S 192 37 + v1_ ≤ 450) → v1_ + 300 - v2_ < (n : Int) → okk (f_M_trace_24 n S v1_ v2_ v3_) (fun S1 => MX b S1 ∧ True) := by
  intro n
  induction n with
  | zero => intro S v1_ v2_ v3_ hC hi hm; exfalso; omega
  | succ n ih =>
    intro S v1_ v2_ v3_ hC hi hm
    have hm : v1_ + 300 - v2_ < (n : Int) + 1 := by omega
    show okk (f_M_trace_24_b (f_M_trace_24 n) S v1_ v2_ v3_) _
    unfold f_M_trace_24_b
    have b5 := mx_192_5 hC
    have b4 := mx_192_4 hC
    refine ok_if (fun _ => ok_some ⟨hC, trivial⟩) (fun c1 => ?_)
    have go := ok_tr87 (f_M_trace_24 n) S v1_ v2_ v3_ (fun S1 => MX b S1 ∧ True) hC (by omega) (by omega) (fun S' a c q1 q2 q3 q4 => ih S' _ a c q1 (by omega) (by omega))
    refine ok_if (fun _ => go) (fun c2 => ok_if (fun _ => go) (fun c3 => ok_chk (by omega) (ok_chk (by omega) (ok_if (fun _ => ?_) (fun _ => go)))))
    refine ok_chk (by omega) (ok_chk (by omega) (ok_b1 (ok_M_at S (v2_ + 1) (v3_ + 1) hC (by omega) (by omega)) (fun r e => ok_chk (by omega) (ok_if (fun _ => ?_) (fun _ => go)))))
    exact ok_chk (by omega) (ok_chk (by omega) (ih S v1_ (v2_ + 1) (v3_ + 1) hC (by omega) (by omega)))
theorem ok_M_trace {b : Nat} (S : SS) (hC : MX b S) : okk (f_M_trace S) (fun S1 => MX b S1 ∧ True) := by
  have b5 := mx_192_5 hC
  have b4 := mx_192_4 hC
  unfold f_M_trace
  refine ok_b2 (ok_M_apart S 2 (gi S 192 5) 1 (gi S 192 4) hC (by unfold cpt; omega) (by unfold cpt; omega)) (fun r4 S3 h3 => ok_lt (fun S6 e6 => ?_))
  have h3' := h3.2.2
  dsimp only at h3'
  have h6 : MX b S6 := by rw [e6]; exact ms_192_37 h3.1 (by omega) (by omega)
  have f6 : gi S6 192 37 = 0 := gi_eq e6
  exact okl_trace FU S6 r4 0 0 h6 (by omega) (by unfold FU; omega)
theorem mx_M_wrong {b : Nat} {S : SS} (hC : MX b S) {v1 v2 : Int} (h1 : i32 v1) (h2 : i32 v2) : MX b (f_M_wrong S v1 v2) := ms_192_15 (ms_192_14 hC (by omega) (by omega)) (by omega) (by omega)
set_option maxHeartbeats 4000000 in
theorem okl_M_readProof_7 {b : Nat} (v1 : Int) (hp0 : 0 ≤ v1 ∧ v1 ≤ 150) : ∀ (n : Nat) (S : SS) (v2_ : Int) (v3_ : Int) (v4_ : Int), MX b S → (0 ≤ v2_ ∧ v2_ ≤ v1 ∧ (v3_ = 0 ∨ 1 ≤ v2_) ∧ 0 ≤ v3_ ∧ v3_ ≤ 8 ∧ 0 ≤ v4_ ∧ v4_ ≤ 2000) → 2000 - v4_ < (n : Int) → okk (f_M_readProof_7 v1 n S v2_ v3_ v4_) (fun u => MX b u.2 ∧ (∀ r, u.1 = some r → 0 ≤ r ∧ r ≤ v1)) := by
  intro n
  induction n with
  | zero => intro S v2_ v3_ v4_ hC hi hm; exfalso; omega
  | succ n ih =>
    intro S v2_ v3_ v4_ hC hi hm
    have hm : 2000 - v4_ < (n : Int) + 1 := by omega
    show okk (f_M_readProof_7_b v1 (f_M_readProof_7 v1 n) S v2_ v3_ v4_) _
    unfold f_M_readProof_7_b
    have b1_y := mx_192_9 hC
    refine ok_if (fun c2_y => ?_) (fun c2_y => ?_)
    · exact ok_some ⟨hC, fun r h => by cases h; omega⟩
    · have b4_y := mx_192_10 hC
      have b5_y := mx_192_11 hC
      refine ok_b1 (ok_M_byteAt S v4_ hC (by omega)) (fun r2_z h3_y => ?_)
      refine ok_if (fun c6_y => ?_) (fun c6_y => ?_)
      · refine ok_if (fun c7_y => ?_) (fun c7_y => ?_)
        · unfold f_M_readProof_51
          refine ok_lt (fun S1x8_z eS1x8_z => ?_)
          have h9_y : MX b S1x8_z := by rw [eS1x8_z]; exact mx_M_wrong hC (by omega) (by omega)
          exact ok_some ⟨h9_y, fun r h => by cases h⟩
        · refine ok_if (fun c10_y => ?_) (fun c10_y => ?_)
          · unfold f_M_readProof_51
            refine ok_lt (fun S1x11_z eS1x11_z => ?_)
            have h12_y : MX b S1x11_z := by rw [eS1x11_z]; exact mx_M_wrong hC (by omega) (by omega)
            exact ok_some ⟨h12_y, fun r h => by cases h⟩
          · refine ok_if (fun c13_y => ?_) (fun c13_y => ?_)
            · refine ok_if (fun c14_y => ?_) (fun c14_y => ?_)
              · refine ok_lt (fun S8_z eS8_z => ?_)
                have h15_y : MX b S8_z := by rw [eS8_z]; exact mx_M_wrong hC (by omega) (by omega)
                exact ok_some ⟨h15_y, fun r h => by cases h⟩
              · refine ok_chk (by omega) ?_
                refine ok_lt (fun S6_z eS6_z => ?_)
                have h16_y : MX b S6_z := by rw [eS6_z]; exact ms_sl hC
                have f17_y : gi S6_z 192 9 = gi S 192 9 := gi_sl eS6_z
                have f18_y : gi S6_z 192 11 = gi S 192 11 := gi_sl eS6_z
                have f19_y : gi S6_z 192 10 = gi S 192 10 := gi_sl eS6_z
                refine ok_chk (by omega) ?_
                unfold f_M_readProof_86
                refine ok_chk (by omega) ?_
                refine ok_chk (by omega) ?_
                refine ok_chk (by omega) ?_
                refine ok_chk (by omega) ?_
                have b21_y := i2l_rng r2_z
                refine ok_lt (fun S5x20_z eS5x20_z => ?_)
                have h22_y : MX b S5x20_z := by rw [eS5x20_z]; exact ms_sl h16_y
                have f23_y : gi S5x20_z 192 9 = gi S6_z 192 9 := gi_sl eS5x20_z
                have f24_y : gi S5x20_z 192 11 = gi S6_z 192 11 := gi_sl eS5x20_z
                have f25_y : gi S5x20_z 192 10 = gi S6_z 192 10 := gi_sl eS5x20_z
                refine ok_chk (by omega) ?_
                unfold f_M_readProof_112
                refine ok_chk (by omega) ?_
                exact ih S5x20_z (v2_ + 1) (v3_ + 1) (v4_ + 1) h22_y (by omega) (by omega)
            · unfold f_M_readProof_86
              refine ok_chk (by omega) ?_
              refine ok_chk (by omega) ?_
              refine ok_chk (by omega) ?_
              refine ok_chk (by omega) ?_
              have b28_y := i2l_rng r2_z
              refine ok_lt (fun S5x27_z eS5x27_z => ?_)
              have h29_y : MX b S5x27_z := by rw [eS5x27_z]; exact ms_sl hC
              have f30_y : gi S5x27_z 192 9 = gi S 192 9 := gi_sl eS5x27_z
              have f31_y : gi S5x27_z 192 11 = gi S 192 11 := gi_sl eS5x27_z
              have f32_y : gi S5x27_z 192 10 = gi S 192 10 := gi_sl eS5x27_z
              refine ok_chk (by omega) ?_
              unfold f_M_readProof_112
              refine ok_chk (by omega) ?_
              exact ih S5x27_z v2_ (v3_ + 1) (v4_ + 1) h29_y (by omega) (by omega)
      · unfold f_M_readProof_112
        refine ok_chk (by omega) ?_
        exact ih S v2_ 0 (v4_ + 1) hC (by omega) (by omega)
set_option maxHeartbeats 4000000 in
theorem ok_M_readProof {b : Nat} (S : SS) (v1 : Int) (hC : MX b S) (hp0 : 0 ≤ v1 ∧ v1 ≤ 150) : okk (f_M_readProof S v1) (fun u => MX b u.2 ∧ (∀ r, u.1 = some r → 0 ≤ r ∧ r ≤ v1)) := by
  unfold f_M_readProof
  exact okl_M_readProof_7 v1 (by omega) FU S 0 0 0 hC (by omega) (by unfold FU; omega)
theorem dig01 (S : SS) (v : Int) : (f_M_isDigit S v = 0 ∧ (v < 48 ∨ 57 < v)) ∨ (f_M_isDigit S v = 1 ∧ 48 ≤ v ∧ v ≤ 57) := by
  unfold f_M_isDigit
  split
  · exact .inl ⟨rfl, by omega⟩
  · split
    · exact .inl ⟨rfl, by omega⟩
    · exact .inr ⟨rfl, by omega⟩
theorem sma01 (S : SS) (v : Int) : f_M_isSmall S v = 0 ∨ (f_M_isSmall S v = 1 ∧ 97 ≤ v) := by
  unfold f_M_isSmall
  split
  · exact .inl rfl
  · split
    · exact .inl rfl
    · exact .inr ⟨rfl, by omega⟩
theorem mx_M_begin {b : Nat} {S : SS} (hC : MX b S) : MX 1 (f_M_begin S) := by
  have b8 := mx_192_8 hC
  have h1 : MX 0 (si S 192 9 (gi S 192 8)) := ms_192_9 hC.weak (by decide) (by omega) (by omega)
  have h5 : MX 0 (f_M_begin S) := ms_192_15 (ms_192_14 (ms_192_11 (ms_192_8 h1 (by omega) (by omega)) (fun q => absurd q (by decide)) (by omega) (by omega)) (by omega) (by omega)) (by omega) (by omega)
  refine ⟨fun _ => ?_, h5.2⟩
  have b9 := mx_192_9 h5
  have z : gi (f_M_begin S) 192 11 = 0 := rfl
  omega
set_option maxHeartbeats 4000000 in
theorem okl_M_scan_81 : ∀ (n : Nat) (S : SS), MX 1 S → (gi S 192 11 ≤ 2000 ∧ 0 ≤ gi S 192 10 ∧ gi S 192 9 ≤ 2000) → 2001 - gi S 192 11 < (n : Int) → okk (f_M_scan_81 n S) (fun S1 => MX 1 S1 ∧ (True)) := by
  intro n
  induction n with
  | zero => intro S hC hi hm; exfalso; omega
  | succ n ih =>
    intro S hC hi hm
    have hm : 2001 - gi S 192 11 < (n : Int) + 1 := by omega
    show okk (f_M_scan_81_b (f_M_scan_81 n) S) _
    unfold f_M_scan_81_b
    have b1_y := And.intro ((hC).1 rfl) (mx_192_11 hC)
    have b2_y := mx_192_10 hC
    have b3_y := And.intro ((hC).1 rfl) (mx_192_9 hC)
    refine ok_b1 (ok_M_byteAt S (gi S 192 11) hC (by omega)) (fun r2_z h4_y => ?_)
    have b5_y := sma01 S r2_z
    refine ok_if (fun c6_y => ?_) (fun c6_y => ?_)
    · refine ok_lt (fun S5_z eS5_z => ?_)
      have h7_y : MX 1 S5_z := by rw [eS5_z]; exact ms_192_12 hC (by omega) (by omega)
      have f8_y : gi S5_z 192 12 = 1 := gi_eq eS5_z
      have f9_y : gi S5_z 192 9 = gi S 192 9 := gi_ne eS5_z (by omega)
      have f10_y : gi S5_z 192 10 = gi S 192 10 := gi_ne eS5_z (by omega)
      have f11_y : gi S5_z 192 11 = gi S 192 11 := gi_ne eS5_z (by omega)
      exact ok_some ⟨h7_y, by trivial⟩
    · refine ok_chk (by omega) ?_
      refine ok_lt (fun S8_z eS8_z => ?_)
      have h12_y : MX 1 S8_z := by rw [eS8_z]; exact ms_192_11 hC (fun _ => by omega) (by omega) (by omega)
      have f13_y : gi S8_z 192 9 = gi S 192 9 := gi_ne eS8_z (by omega)
      have f14_y : gi S8_z 192 11 = (gi S 192 11) + 1 := gi_eq eS8_z
      have f15_y : gi S8_z 192 10 = gi S 192 10 := gi_ne eS8_z (by omega)
      exact ih S8_z h12_y (by omega) (by omega)
set_option maxHeartbeats 4000000 in
theorem okl_M_scan_128 : ∀ (n : Nat) (S : SS), MX 1 S → (gi S 192 11 ≤ 2000 ∧ 0 ≤ gi S 192 10 ∧ gi S 192 9 ≤ 2000 ∧ 0 ≤ gi S 192 13 ∧ ((gi S 192 11 = gi S 192 10 ∧ gi S 192 13 = 0) ∨ (gi S 192 11 = gi S 192 10 + 1 ∧ gi S 192 13 ≤ 9) ∨ (gi S 192 11 = gi S 192 10 + 2 ∧ gi S 192 13 ≤ 99) ∨ (gi S 192 10 + 3 ≤ gi S 192 11 ∧ gi S 192 13 ≤ 999))) → 2001 - gi S 192 11 < (n : Int) → okk (f_M_scan_128 n S) (fun S1 => MX 1 S1 ∧ (True)) := by
  intro n
  induction n with
  | zero => intro S hC hi hm; exfalso; omega
  | succ n ih =>
    intro S hC hi hm
    have hm : 2001 - gi S 192 11 < (n : Int) + 1 := by omega
    show okk (f_M_scan_128_b (f_M_scan_128 n) S) _
    unfold f_M_scan_128_b
    have b1_y := And.intro ((hC).1 rfl) (mx_192_11 hC)
    have b2_y := mx_192_10 hC
    have b3_y := And.intro ((hC).1 rfl) (mx_192_9 hC)
    have b4_y := mx_192_13 hC
    refine ok_b1 (ok_M_byteAt S (gi S 192 11) hC (by omega)) (fun r2_z h5_y => ?_)
    have b6_y := dig01 S r2_z
    refine ok_if (fun c7_y => ?_) (fun c7_y => ?_)
    · refine ok_chk (by omega) ?_
      refine ok_if (fun c8_y => ?_) (fun c8_y => ?_)
      · unfold f_M_scan_210
        refine ok_lt (fun S1x9_z eS1x9_z => ?_)
        have h10_y : MX 1 S1x9_z := by rw [eS1x9_z]; exact ms_192_12 hC (by omega) (by omega)
        have f11_y : gi S1x9_z 192 12 = 2 := gi_eq eS1x9_z
        have f12_y : gi S1x9_z 192 9 = gi S 192 9 := gi_ne eS1x9_z (by omega)
        have f13_y : gi S1x9_z 192 13 = gi S 192 13 := gi_ne eS1x9_z (by omega)
        have f14_y : gi S1x9_z 192 10 = gi S 192 10 := gi_ne eS1x9_z (by omega)
        have f15_y : gi S1x9_z 192 11 = gi S 192 11 := gi_ne eS1x9_z (by omega)
        exact ok_some ⟨h10_y, by trivial⟩
      · unfold f_M_scan_210
        refine ok_lt (fun S1x16_z eS1x16_z => ?_)
        have h17_y : MX 1 S1x16_z := by rw [eS1x16_z]; exact ms_192_12 hC (by omega) (by omega)
        have f18_y : gi S1x16_z 192 12 = 4 := gi_eq eS1x16_z
        have f19_y : gi S1x16_z 192 9 = gi S 192 9 := gi_ne eS1x16_z (by omega)
        have f20_y : gi S1x16_z 192 13 = gi S 192 13 := gi_ne eS1x16_z (by omega)
        have f21_y : gi S1x16_z 192 10 = gi S 192 10 := gi_ne eS1x16_z (by omega)
        have f22_y : gi S1x16_z 192 11 = gi S 192 11 := gi_ne eS1x16_z (by omega)
        exact ok_some ⟨h17_y, by trivial⟩
    · refine ok_chk (by omega) ?_
      refine ok_if (fun c23_y => ?_) (fun c23_y => ?_)
      · unfold f_M_scan_178
        refine ok_chk (by omega) ?_
        refine ok_lt (fun S3x24_z eS3x24_z => ?_)
        have h25_y : MX 1 S3x24_z := by rw [eS3x24_z]; exact ms_192_11 hC (fun _ => by omega) (by omega) (by omega)
        have f26_y : gi S3x24_z 192 9 = gi S 192 9 := gi_ne eS3x24_z (by omega)
        have f27_y : gi S3x24_z 192 13 = gi S 192 13 := gi_ne eS3x24_z (by omega)
        have f28_y : gi S3x24_z 192 10 = gi S 192 10 := gi_ne eS3x24_z (by omega)
        have f29_y : gi S3x24_z 192 11 = (gi S 192 11) + 1 := gi_eq eS3x24_z
        exact ih S3x24_z h25_y (by omega) (by omega)
      · refine ok_chk (by omega) ?_
        refine ok_b1 (ok_M_byteAt S (gi S 192 11) hC (by omega)) (fun r14_z h30_y => ?_)
        refine ok_chk (by omega) ?_
        refine ok_chk (by omega) ?_
        refine ok_lt (fun S18_z eS18_z => ?_)
        have h31_y : MX 1 S18_z := by rw [eS18_z]; exact ms_192_13 hC (by omega) (by omega)
        have f32_y : gi S18_z 192 9 = gi S 192 9 := gi_ne eS18_z (by omega)
        have f33_y : gi S18_z 192 13 = ((10 * (gi S 192 13)) + r14_z) - 48 := gi_eq eS18_z
        have f34_y : gi S18_z 192 10 = gi S 192 10 := gi_ne eS18_z (by omega)
        have f35_y : gi S18_z 192 11 = gi S 192 11 := gi_ne eS18_z (by omega)
        unfold f_M_scan_178
        refine ok_chk (by omega) ?_
        refine ok_lt (fun S3x36_z eS3x36_z => ?_)
        have h37_y : MX 1 S3x36_z := by rw [eS3x36_z]; exact ms_192_11 h31_y (fun _ => by omega) (by omega) (by omega)
        have f38_y : gi S3x36_z 192 10 = gi S18_z 192 10 := gi_ne eS3x36_z (by omega)
        have f39_y : gi S3x36_z 192 13 = gi S18_z 192 13 := gi_ne eS3x36_z (by omega)
        have f40_y : gi S3x36_z 192 9 = gi S18_z 192 9 := gi_ne eS3x36_z (by omega)
        have f41_y : gi S3x36_z 192 11 = (gi S18_z 192 11) + 1 := gi_eq eS3x36_z
        exact ih S3x36_z h37_y (by omega) (by omega)
set_option maxHeartbeats 4000000 in
theorem okl_M_scan_0 : ∀ (n : Nat) (S : SS), MX 1 S → (gi S 192 11 ≤ 2000 ∧ 0 ≤ gi S 192 10 ∧ gi S 192 9 ≤ 2000) → 2001 - gi S 192 11 < (n : Int) → okk (f_M_scan_0 n S) (fun S1 => MX 1 S1 ∧ (True)) := by
  intro n
  induction n with
  | zero => intro S hC hi hm; exfalso; omega
  | succ n ih =>
    intro S hC hi hm
    have hm : 2001 - gi S 192 11 < (n : Int) + 1 := by omega
    show okk (f_M_scan_0_b (f_M_scan_0 n) S) _
    unfold f_M_scan_0_b
    have b1_y := And.intro ((hC).1 rfl) (mx_192_11 hC)
    have b2_y := mx_192_10 hC
    have b3_y := And.intro ((hC).1 rfl) (mx_192_9 hC)
    refine ok_if (fun c4_y => ?_) (fun c4_y => ?_)
    · unfold f_M_scan_38
      refine ok_lt (fun S2x5_z eS2x5_z => ?_)
      have h6_y : MX 1 S2x5_z := by rw [eS2x5_z]; exact ms_192_10 hC (by omega) (by omega)
      have f7_y : gi S2x5_z 192 9 = gi S 192 9 := gi_ne eS2x5_z (by omega)
      have f8_y : gi S2x5_z 192 11 = gi S 192 11 := gi_ne eS2x5_z (by omega)
      have f9_y : gi S2x5_z 192 10 = gi S 192 11 := gi_eq eS2x5_z
      refine ok_b1 (ok_M_byteAt S2x5_z (gi S2x5_z 192 10) h6_y (by omega)) (fun r4x5_z h10_y => ?_)
      refine ok_if (fun c11_y => ?_) (fun c11_y => ?_)
      · refine ok_lt (fun S11x5_z eS11x5_z => ?_)
        have h12_y : MX 1 S11x5_z := by rw [eS11x5_z]; exact ms_192_12 h6_y (by omega) (by omega)
        have f13_y : gi S11x5_z 192 12 = 0 := gi_eq eS11x5_z
        have f14_y : gi S11x5_z 192 11 = gi S2x5_z 192 11 := gi_ne eS11x5_z (by omega)
        have f15_y : gi S11x5_z 192 10 = gi S2x5_z 192 10 := gi_ne eS11x5_z (by omega)
        have f16_y : gi S11x5_z 192 9 = gi S2x5_z 192 9 := gi_ne eS11x5_z (by omega)
        exact ok_some ⟨h12_y, by trivial⟩
      · have b17_y := sma01 S2x5_z r4x5_z
        refine ok_if (fun c18_y => ?_) (fun c18_y => ?_)
        · have b19_y := dig01 S2x5_z r4x5_z
          refine ok_if (fun c20_y => ?_) (fun c20_y => ?_)
          · refine ok_if (fun c21_y => ?_) (fun c21_y => ?_)
            · unfold f_M_scan_235
              unfold f_M_scan_240
              refine ok_lt (fun S1x23_z eS1x23_z => ?_)
              have h24_y : MX 1 S1x23_z := by rw [eS1x23_z]; exact ms_192_12 h6_y (by omega) (by omega)
              have f25_y : gi S1x23_z 192 12 = 3 := gi_eq eS1x23_z
              have f26_y : gi S1x23_z 192 9 = gi S2x5_z 192 9 := gi_ne eS1x23_z (by omega)
              have f27_y : gi S1x23_z 192 11 = gi S2x5_z 192 11 := gi_ne eS1x23_z (by omega)
              have f28_y : gi S1x23_z 192 10 = gi S2x5_z 192 10 := gi_ne eS1x23_z (by omega)
              refine ok_chk (by omega) ?_
              refine ok_lt (fun S4x23_z eS4x23_z => ?_)
              have h29_y : MX 1 S4x23_z := by rw [eS4x23_z]; exact ms_192_11 h24_y (fun _ => by omega) (by omega) (by omega)
              have f30_y : gi S4x23_z 192 10 = gi S1x23_z 192 10 := gi_ne eS4x23_z (by omega)
              have f31_y : gi S4x23_z 192 12 = gi S1x23_z 192 12 := gi_ne eS4x23_z (by omega)
              have f32_y : gi S4x23_z 192 11 = (gi S1x23_z 192 11) + 1 := gi_eq eS4x23_z
              have f33_y : gi S4x23_z 192 9 = gi S1x23_z 192 9 := gi_ne eS4x23_z (by omega)
              exact ok_some ⟨h29_y, by trivial⟩
            · refine ok_if (fun c34_y => ?_) (fun c34_y => ?_)
              · unfold f_M_scan_235
                unfold f_M_scan_240
                refine ok_lt (fun S1x36_z eS1x36_z => ?_)
                have h37_y : MX 1 S1x36_z := by rw [eS1x36_z]; exact ms_192_12 h6_y (by omega) (by omega)
                have f38_y : gi S1x36_z 192 12 = 3 := gi_eq eS1x36_z
                have f39_y : gi S1x36_z 192 9 = gi S2x5_z 192 9 := gi_ne eS1x36_z (by omega)
                have f40_y : gi S1x36_z 192 11 = gi S2x5_z 192 11 := gi_ne eS1x36_z (by omega)
                have f41_y : gi S1x36_z 192 10 = gi S2x5_z 192 10 := gi_ne eS1x36_z (by omega)
                refine ok_chk (by omega) ?_
                refine ok_lt (fun S4x36_z eS4x36_z => ?_)
                have h42_y : MX 1 S4x36_z := by rw [eS4x36_z]; exact ms_192_11 h37_y (fun _ => by omega) (by omega) (by omega)
                have f43_y : gi S4x36_z 192 12 = gi S1x36_z 192 12 := gi_ne eS4x36_z (by omega)
                have f44_y : gi S4x36_z 192 9 = gi S1x36_z 192 9 := gi_ne eS4x36_z (by omega)
                have f45_y : gi S4x36_z 192 10 = gi S1x36_z 192 10 := gi_ne eS4x36_z (by omega)
                have f46_y : gi S4x36_z 192 11 = (gi S1x36_z 192 11) + 1 := gi_eq eS4x36_z
                exact ok_some ⟨h42_y, by trivial⟩
              · refine ok_if (fun c47_y => ?_) (fun c47_y => ?_)
                · unfold f_M_scan_235
                  unfold f_M_scan_240
                  refine ok_lt (fun S1x49_z eS1x49_z => ?_)
                  have h50_y : MX 1 S1x49_z := by rw [eS1x49_z]; exact ms_192_12 h6_y (by omega) (by omega)
                  have f51_y : gi S1x49_z 192 12 = 3 := gi_eq eS1x49_z
                  have f52_y : gi S1x49_z 192 9 = gi S2x5_z 192 9 := gi_ne eS1x49_z (by omega)
                  have f53_y : gi S1x49_z 192 11 = gi S2x5_z 192 11 := gi_ne eS1x49_z (by omega)
                  have f54_y : gi S1x49_z 192 10 = gi S2x5_z 192 10 := gi_ne eS1x49_z (by omega)
                  refine ok_chk (by omega) ?_
                  refine ok_lt (fun S4x49_z eS4x49_z => ?_)
                  have h55_y : MX 1 S4x49_z := by rw [eS4x49_z]; exact ms_192_11 h50_y (fun _ => by omega) (by omega) (by omega)
                  have f56_y : gi S4x49_z 192 9 = gi S1x49_z 192 9 := gi_ne eS4x49_z (by omega)
                  have f57_y : gi S4x49_z 192 11 = (gi S1x49_z 192 11) + 1 := gi_eq eS4x49_z
                  have f58_y : gi S4x49_z 192 10 = gi S1x49_z 192 10 := gi_ne eS4x49_z (by omega)
                  have f59_y : gi S4x49_z 192 12 = gi S1x49_z 192 12 := gi_ne eS4x49_z (by omega)
                  exact ok_some ⟨h55_y, by trivial⟩
                · unfold f_M_scan_240
                  refine ok_lt (fun S1x60_z eS1x60_z => ?_)
                  have h61_y : MX 1 S1x60_z := by rw [eS1x60_z]; exact ms_192_12 h6_y (by omega) (by omega)
                  have f62_y : gi S1x60_z 192 12 = 4 := gi_eq eS1x60_z
                  have f63_y : gi S1x60_z 192 9 = gi S2x5_z 192 9 := gi_ne eS1x60_z (by omega)
                  have f64_y : gi S1x60_z 192 11 = gi S2x5_z 192 11 := gi_ne eS1x60_z (by omega)
                  have f65_y : gi S1x60_z 192 10 = gi S2x5_z 192 10 := gi_ne eS1x60_z (by omega)
                  refine ok_chk (by omega) ?_
                  refine ok_lt (fun S4x60_z eS4x60_z => ?_)
                  have h66_y : MX 1 S4x60_z := by rw [eS4x60_z]; exact ms_192_11 h61_y (fun _ => by omega) (by omega) (by omega)
                  have f67_y : gi S4x60_z 192 12 = gi S1x60_z 192 12 := gi_ne eS4x60_z (by omega)
                  have f68_y : gi S4x60_z 192 11 = (gi S1x60_z 192 11) + 1 := gi_eq eS4x60_z
                  have f69_y : gi S4x60_z 192 10 = gi S1x60_z 192 10 := gi_ne eS4x60_z (by omega)
                  have f70_y : gi S4x60_z 192 9 = gi S1x60_z 192 9 := gi_ne eS4x60_z (by omega)
                  exact ok_some ⟨h66_y, by trivial⟩
          · refine ok_lt (fun S10x5_z eS10x5_z => ?_)
            have h71_y : MX 1 S10x5_z := by rw [eS10x5_z]; exact ms_192_13 h6_y (by omega) (by omega)
            have f72_y : gi S10x5_z 192 13 = 0 := gi_eq eS10x5_z
            have f73_y : gi S10x5_z 192 9 = gi S2x5_z 192 9 := gi_ne eS10x5_z (by omega)
            have f74_y : gi S10x5_z 192 11 = gi S2x5_z 192 11 := gi_ne eS10x5_z (by omega)
            have f75_y : gi S10x5_z 192 10 = gi S2x5_z 192 10 := gi_ne eS10x5_z (by omega)
            exact okl_M_scan_128  FU S10x5_z h71_y (by omega) (by unfold FU; omega)
        · exact okl_M_scan_81  FU S2x5_z h6_y (by omega) (by unfold FU; omega)
    · refine ok_b1 (ok_M_byteAt S (gi S 192 11) hC (by omega)) (fun r4_z h76_y => ?_)
      refine ok_if (fun c77_y => ?_) (fun c77_y => ?_)
      · unfold f_M_scan_38
        refine ok_lt (fun S2x78_z eS2x78_z => ?_)
        have h79_y : MX 1 S2x78_z := by rw [eS2x78_z]; exact ms_192_10 hC (by omega) (by omega)
        have f80_y : gi S2x78_z 192 9 = gi S 192 9 := gi_ne eS2x78_z (by omega)
        have f81_y : gi S2x78_z 192 11 = gi S 192 11 := gi_ne eS2x78_z (by omega)
        have f82_y : gi S2x78_z 192 10 = gi S 192 11 := gi_eq eS2x78_z
        refine ok_b1 (ok_M_byteAt S2x78_z (gi S2x78_z 192 10) h79_y (by omega)) (fun r4x78_z h83_y => ?_)
        refine ok_if (fun c84_y => ?_) (fun c84_y => ?_)
        · refine ok_lt (fun S11x78_z eS11x78_z => ?_)
          have h85_y : MX 1 S11x78_z := by rw [eS11x78_z]; exact ms_192_12 h79_y (by omega) (by omega)
          have f86_y : gi S11x78_z 192 12 = 0 := gi_eq eS11x78_z
          have f87_y : gi S11x78_z 192 11 = gi S2x78_z 192 11 := gi_ne eS11x78_z (by omega)
          have f88_y : gi S11x78_z 192 9 = gi S2x78_z 192 9 := gi_ne eS11x78_z (by omega)
          have f89_y : gi S11x78_z 192 10 = gi S2x78_z 192 10 := gi_ne eS11x78_z (by omega)
          exact ok_some ⟨h85_y, by trivial⟩
        · have b90_y := sma01 S2x78_z r4x78_z
          refine ok_if (fun c91_y => ?_) (fun c91_y => ?_)
          · have b92_y := dig01 S2x78_z r4x78_z
            refine ok_if (fun c93_y => ?_) (fun c93_y => ?_)
            · refine ok_if (fun c94_y => ?_) (fun c94_y => ?_)
              · unfold f_M_scan_235
                unfold f_M_scan_240
                refine ok_lt (fun S1x96_z eS1x96_z => ?_)
                have h97_y : MX 1 S1x96_z := by rw [eS1x96_z]; exact ms_192_12 h79_y (by omega) (by omega)
                have f98_y : gi S1x96_z 192 12 = 3 := gi_eq eS1x96_z
                have f99_y : gi S1x96_z 192 11 = gi S2x78_z 192 11 := gi_ne eS1x96_z (by omega)
                have f100_y : gi S1x96_z 192 10 = gi S2x78_z 192 10 := gi_ne eS1x96_z (by omega)
                have f101_y : gi S1x96_z 192 9 = gi S2x78_z 192 9 := gi_ne eS1x96_z (by omega)
                refine ok_chk (by omega) ?_
                refine ok_lt (fun S4x96_z eS4x96_z => ?_)
                have h102_y : MX 1 S4x96_z := by rw [eS4x96_z]; exact ms_192_11 h97_y (fun _ => by omega) (by omega) (by omega)
                have f103_y : gi S4x96_z 192 12 = gi S1x96_z 192 12 := gi_ne eS4x96_z (by omega)
                have f104_y : gi S4x96_z 192 10 = gi S1x96_z 192 10 := gi_ne eS4x96_z (by omega)
                have f105_y : gi S4x96_z 192 9 = gi S1x96_z 192 9 := gi_ne eS4x96_z (by omega)
                have f106_y : gi S4x96_z 192 11 = (gi S1x96_z 192 11) + 1 := gi_eq eS4x96_z
                exact ok_some ⟨h102_y, by trivial⟩
              · refine ok_if (fun c107_y => ?_) (fun c107_y => ?_)
                · unfold f_M_scan_235
                  unfold f_M_scan_240
                  refine ok_lt (fun S1x109_z eS1x109_z => ?_)
                  have h110_y : MX 1 S1x109_z := by rw [eS1x109_z]; exact ms_192_12 h79_y (by omega) (by omega)
                  have f111_y : gi S1x109_z 192 12 = 3 := gi_eq eS1x109_z
                  have f112_y : gi S1x109_z 192 11 = gi S2x78_z 192 11 := gi_ne eS1x109_z (by omega)
                  have f113_y : gi S1x109_z 192 10 = gi S2x78_z 192 10 := gi_ne eS1x109_z (by omega)
                  have f114_y : gi S1x109_z 192 9 = gi S2x78_z 192 9 := gi_ne eS1x109_z (by omega)
                  refine ok_chk (by omega) ?_
                  refine ok_lt (fun S4x109_z eS4x109_z => ?_)
                  have h115_y : MX 1 S4x109_z := by rw [eS4x109_z]; exact ms_192_11 h110_y (fun _ => by omega) (by omega) (by omega)
                  have f116_y : gi S4x109_z 192 10 = gi S1x109_z 192 10 := gi_ne eS4x109_z (by omega)
                  have f117_y : gi S4x109_z 192 12 = gi S1x109_z 192 12 := gi_ne eS4x109_z (by omega)
                  have f118_y : gi S4x109_z 192 11 = (gi S1x109_z 192 11) + 1 := gi_eq eS4x109_z
                  have f119_y : gi S4x109_z 192 9 = gi S1x109_z 192 9 := gi_ne eS4x109_z (by omega)
                  exact ok_some ⟨h115_y, by trivial⟩
                · refine ok_if (fun c120_y => ?_) (fun c120_y => ?_)
                  · unfold f_M_scan_235
                    unfold f_M_scan_240
                    refine ok_lt (fun S1x122_z eS1x122_z => ?_)
                    have h123_y : MX 1 S1x122_z := by rw [eS1x122_z]; exact ms_192_12 h79_y (by omega) (by omega)
                    have f124_y : gi S1x122_z 192 12 = 3 := gi_eq eS1x122_z
                    have f125_y : gi S1x122_z 192 11 = gi S2x78_z 192 11 := gi_ne eS1x122_z (by omega)
                    have f126_y : gi S1x122_z 192 10 = gi S2x78_z 192 10 := gi_ne eS1x122_z (by omega)
                    have f127_y : gi S1x122_z 192 9 = gi S2x78_z 192 9 := gi_ne eS1x122_z (by omega)
                    refine ok_chk (by omega) ?_
                    refine ok_lt (fun S4x122_z eS4x122_z => ?_)
                    have h128_y : MX 1 S4x122_z := by rw [eS4x122_z]; exact ms_192_11 h123_y (fun _ => by omega) (by omega) (by omega)
                    have f129_y : gi S4x122_z 192 12 = gi S1x122_z 192 12 := gi_ne eS4x122_z (by omega)
                    have f130_y : gi S4x122_z 192 10 = gi S1x122_z 192 10 := gi_ne eS4x122_z (by omega)
                    have f131_y : gi S4x122_z 192 11 = (gi S1x122_z 192 11) + 1 := gi_eq eS4x122_z
                    have f132_y : gi S4x122_z 192 9 = gi S1x122_z 192 9 := gi_ne eS4x122_z (by omega)
                    exact ok_some ⟨h128_y, by trivial⟩
                  · unfold f_M_scan_240
                    refine ok_lt (fun S1x133_z eS1x133_z => ?_)
                    have h134_y : MX 1 S1x133_z := by rw [eS1x133_z]; exact ms_192_12 h79_y (by omega) (by omega)
                    have f135_y : gi S1x133_z 192 12 = 4 := gi_eq eS1x133_z
                    have f136_y : gi S1x133_z 192 11 = gi S2x78_z 192 11 := gi_ne eS1x133_z (by omega)
                    have f137_y : gi S1x133_z 192 10 = gi S2x78_z 192 10 := gi_ne eS1x133_z (by omega)
                    have f138_y : gi S1x133_z 192 9 = gi S2x78_z 192 9 := gi_ne eS1x133_z (by omega)
                    refine ok_chk (by omega) ?_
                    refine ok_lt (fun S4x133_z eS4x133_z => ?_)
                    have h139_y : MX 1 S4x133_z := by rw [eS4x133_z]; exact ms_192_11 h134_y (fun _ => by omega) (by omega) (by omega)
                    have f140_y : gi S4x133_z 192 10 = gi S1x133_z 192 10 := gi_ne eS4x133_z (by omega)
                    have f141_y : gi S4x133_z 192 9 = gi S1x133_z 192 9 := gi_ne eS4x133_z (by omega)
                    have f142_y : gi S4x133_z 192 12 = gi S1x133_z 192 12 := gi_ne eS4x133_z (by omega)
                    have f143_y : gi S4x133_z 192 11 = (gi S1x133_z 192 11) + 1 := gi_eq eS4x133_z
                    exact ok_some ⟨h139_y, by trivial⟩
            · refine ok_lt (fun S10x78_z eS10x78_z => ?_)
              have h144_y : MX 1 S10x78_z := by rw [eS10x78_z]; exact ms_192_13 h79_y (by omega) (by omega)
              have f145_y : gi S10x78_z 192 13 = 0 := gi_eq eS10x78_z
              have f146_y : gi S10x78_z 192 11 = gi S2x78_z 192 11 := gi_ne eS10x78_z (by omega)
              have f147_y : gi S10x78_z 192 10 = gi S2x78_z 192 10 := gi_ne eS10x78_z (by omega)
              have f148_y : gi S10x78_z 192 9 = gi S2x78_z 192 9 := gi_ne eS10x78_z (by omega)
              exact okl_M_scan_128  FU S10x78_z h144_y (by omega) (by unfold FU; omega)
          · exact okl_M_scan_81  FU S2x78_z h79_y (by omega) (by unfold FU; omega)
      · refine ok_chk (by omega) ?_
        refine ok_lt (fun S9_z eS9_z => ?_)
        have h149_y : MX 1 S9_z := by rw [eS9_z]; exact ms_192_11 hC (fun _ => by omega) (by omega) (by omega)
        have f150_y : gi S9_z 192 9 = gi S 192 9 := gi_ne eS9_z (by omega)
        have f151_y : gi S9_z 192 11 = (gi S 192 11) + 1 := gi_eq eS9_z
        have f152_y : gi S9_z 192 10 = gi S 192 10 := gi_ne eS9_z (by omega)
        exact ih S9_z h149_y (by omega) (by omega)
set_option maxHeartbeats 4000000 in
theorem ok_M_scan (S : SS) (hC : MX 1 S) : okk (f_M_scan S) (fun S1 => MX 1 S1 ∧ (True)) := by
  unfold f_M_scan
  have b2_y := And.intro ((hC).1 rfl) (mx_192_9 hC)
  have b3_y := mx_192_10 hC
  have b4_y := And.intro ((hC).1 rfl) (mx_192_11 hC)
  exact okl_M_scan_0  FU S hC (by omega) (by unfold FU; omega)
set_option maxHeartbeats 4000000 in
theorem ok_M_number (S : SS) (v1 : Int) (v2 : Int) (hC : MX 1 S) : okk (f_M_number S v1 v2) (fun u => MX 1 u.2 ∧ (∀ r, u.1 = some r → v1 ≤ r ∧ r ≤ v2)) := by
  unfold f_M_number
  have b2_y := mx_192_12 hC
  refine ok_if (fun c3_y => ?_) (fun c3_y => ?_)
  · have b4_y := mx_192_13 hC
    have b5_y := in01 S (gi S 192 13) v1 v2
    refine ok_if (fun c6_y => ?_) (fun c6_y => ?_)
    · have b7_y := mx_192_10 hC
      refine ok_lt (fun S11x1_z eS11x1_z => ?_)
      have h8_y : MX 1 S11x1_z := by rw [eS11x1_z]; exact mx_M_wrong hC (by omega) (by omega)
      exact ok_some ⟨h8_y, fun r h => by cases h⟩
    · refine ok_b1 (ok_M_scan S hC) (fun S8x1_z h9_y => ?_)
      obtain ⟨h10_y, p11_y⟩ := h9_y
      exact ok_some ⟨h10_y, fun r h => by cases h; omega⟩
  · have b12_y := mx_192_10 hC
    refine ok_lt (fun S14x1_z eS14x1_z => ?_)
    have h13_y : MX 1 S14x1_z := by rw [eS14x1_z]; exact mx_M_wrong hC (by omega) (by omega)
    exact ok_some ⟨h13_y, fun r h => by cases h⟩
set_option maxHeartbeats 4000000 in
theorem ok_M_readMove (S : SS) (v1 : Int) (hC : MX 1 S) (hp0 : 0 ≤ v1 ∧ v1 < 41) : okk (f_M_readMove S v1) (fun u => MX 1 u.2 ∧ (∀ r, u.1 = some r → True)) := by
  unfold f_M_readMove
  have b2_y := mx_192_3 hC
  refine ok_chk (by omega) ?_
  refine ok_if (fun c3_y => ?_) (fun c3_y => ?_)
  · unfold f_M_readMove_23
    refine ok_b3 (ok_M_number S 0 ((gi S 192 3) - 1) hC) (fun S3x4_z h5_y => ?_) (fun r1x4_z S2x4_z h5_y => ?_)
    · have h6_y := (h5_y).1
      exact ok_some ⟨h6_y, fun r h => by cases h⟩
    · have h7_y := (h5_y).1
      have p8_y := (h5_y).2 _ rfl
      refine ok_chk (by omega) ?_
      refine ok_lt (fun S5x4_z eS5x4_z => ?_)
      have h9_y : MX 1 S5x4_z := by rw [eS5x4_z]; exact ms_201 h7_y (by omega) (by omega)
      refine ok_chk (by omega) ?_
      refine ok_chk (by omega) ?_
      have b10_y := mx_201 h9_y (v1).toNat
      refine ok_if (fun c11_y => ?_) (fun c11_y => ?_)
      · refine ok_chk (by omega) ?_
        unfold f_M_readMove_56
        refine ok_b3 (ok_M_number S5x4_z (gi S5x4_z 201 (v1).toNat) (((gi S 192 3) - 1) - 1) h9_y) (fun S3x12_z h13_y => ?_) (fun r1x12_z S2x12_z h13_y => ?_)
        · have h14_y := (h13_y).1
          exact ok_some ⟨h14_y, fun r h => by cases h⟩
        · have h15_y := (h13_y).1
          have p16_y := (h13_y).2 _ rfl
          refine ok_chk (by omega) ?_
          refine ok_lt (fun S5x12_z eS5x12_z => ?_)
          have h17_y : MX 1 S5x12_z := by rw [eS5x12_z]; exact ms_202 h15_y (by omega) (by omega)
          have b18_y := mx_192_12 h17_y
          refine ok_if (fun c19_y => ?_) (fun c19_y => ?_)
          · refine ok_chk (by omega) ?_
            refine ok_chk (by omega) ?_
            have b20_y := mx_202 h17_y (v1).toNat
            refine ok_chk (by omega) ?_
            have b21_y := mx_192_13 h17_y
            have b22_y := mx_201 h17_y (v1).toNat
            have b23_y := in01 S5x12_z (gi S5x12_z 192 13) (gi S5x12_z 201 (v1).toNat) ((gi S5x12_z 202 (v1).toNat) + 1)
            refine ok_if (fun c24_y => ?_) (fun c24_y => ?_)
            · unfold f_M_readMove_105
              have b26_y := mx_192_3 h17_y
              refine ok_b3 (ok_M_number S5x12_z 0 (gi S5x12_z 192 3) h17_y) (fun S4x25_z h27_y => ?_) (fun r2x25_z S3x25_z h27_y => ?_)
              · have h28_y := (h27_y).1
                exact ok_some ⟨h28_y, fun r h => by cases h⟩
              · have h29_y := (h27_y).1
                have p30_y := (h27_y).2 _ rfl
                refine ok_chk (by omega) ?_
                refine ok_lt (fun S6x25_z eS6x25_z => ?_)
                have h31_y : MX 1 S6x25_z := by rw [eS6x25_z]; exact ms_203 h29_y (by omega) (by omega)
                exact ok_some ⟨h31_y, fun r h => by cases h; trivial⟩
            · have b32_y := mx_192_10 h17_y
              refine ok_lt (fun S16x12_z eS16x12_z => ?_)
              have h33_y : MX 1 S16x12_z := by rw [eS16x12_z]; exact mx_M_wrong h17_y (by omega) (by omega)
              exact ok_some ⟨h33_y, fun r h => by cases h⟩
          · unfold f_M_readMove_105
            have b35_y := mx_192_3 h17_y
            refine ok_b3 (ok_M_number S5x12_z 0 (gi S5x12_z 192 3) h17_y) (fun S4x34_z h36_y => ?_) (fun r2x34_z S3x34_z h36_y => ?_)
            · have h37_y := (h36_y).1
              exact ok_some ⟨h37_y, fun r h => by cases h⟩
            · have h38_y := (h36_y).1
              have p39_y := (h36_y).2 _ rfl
              refine ok_chk (by omega) ?_
              refine ok_lt (fun S6x34_z eS6x34_z => ?_)
              have h40_y : MX 1 S6x34_z := by rw [eS6x34_z]; exact ms_203 h38_y (by omega) (by omega)
              exact ok_some ⟨h40_y, fun r h => by cases h; trivial⟩
      · unfold f_M_readMove_56
        refine ok_b3 (ok_M_number S5x4_z (gi S5x4_z 201 (v1).toNat) ((gi S 192 3) - 1) h9_y) (fun S3x41_z h42_y => ?_) (fun r1x41_z S2x41_z h42_y => ?_)
        · have h43_y := (h42_y).1
          exact ok_some ⟨h43_y, fun r h => by cases h⟩
        · have h44_y := (h42_y).1
          have p45_y := (h42_y).2 _ rfl
          refine ok_chk (by omega) ?_
          refine ok_lt (fun S5x41_z eS5x41_z => ?_)
          have h46_y : MX 1 S5x41_z := by rw [eS5x41_z]; exact ms_202 h44_y (by omega) (by omega)
          have b47_y := mx_192_12 h46_y
          refine ok_if (fun c48_y => ?_) (fun c48_y => ?_)
          · refine ok_chk (by omega) ?_
            refine ok_chk (by omega) ?_
            have b49_y := mx_202 h46_y (v1).toNat
            refine ok_chk (by omega) ?_
            have b50_y := mx_192_13 h46_y
            have b51_y := mx_201 h46_y (v1).toNat
            have b52_y := in01 S5x41_z (gi S5x41_z 192 13) (gi S5x41_z 201 (v1).toNat) ((gi S5x41_z 202 (v1).toNat) + 1)
            refine ok_if (fun c53_y => ?_) (fun c53_y => ?_)
            · unfold f_M_readMove_105
              have b55_y := mx_192_3 h46_y
              refine ok_b3 (ok_M_number S5x41_z 0 (gi S5x41_z 192 3) h46_y) (fun S4x54_z h56_y => ?_) (fun r2x54_z S3x54_z h56_y => ?_)
              · have h57_y := (h56_y).1
                exact ok_some ⟨h57_y, fun r h => by cases h⟩
              · have h58_y := (h56_y).1
                have p59_y := (h56_y).2 _ rfl
                refine ok_chk (by omega) ?_
                refine ok_lt (fun S6x54_z eS6x54_z => ?_)
                have h60_y : MX 1 S6x54_z := by rw [eS6x54_z]; exact ms_203 h58_y (by omega) (by omega)
                exact ok_some ⟨h60_y, fun r h => by cases h; trivial⟩
            · have b61_y := mx_192_10 h46_y
              refine ok_lt (fun S16x41_z eS16x41_z => ?_)
              have h62_y : MX 1 S16x41_z := by rw [eS16x41_z]; exact mx_M_wrong h46_y (by omega) (by omega)
              exact ok_some ⟨h62_y, fun r h => by cases h⟩
          · unfold f_M_readMove_105
            have b64_y := mx_192_3 h46_y
            refine ok_b3 (ok_M_number S5x41_z 0 (gi S5x41_z 192 3) h46_y) (fun S4x63_z h65_y => ?_) (fun r2x63_z S3x63_z h65_y => ?_)
            · have h66_y := (h65_y).1
              exact ok_some ⟨h66_y, fun r h => by cases h⟩
            · have h67_y := (h65_y).1
              have p68_y := (h65_y).2 _ rfl
              refine ok_chk (by omega) ?_
              refine ok_lt (fun S6x63_z eS6x63_z => ?_)
              have h69_y : MX 1 S6x63_z := by rw [eS6x63_z]; exact ms_203 h67_y (by omega) (by omega)
              exact ok_some ⟨h69_y, fun r h => by cases h; trivial⟩
  · unfold f_M_readMove_23
    refine ok_b3 (ok_M_number S 1 ((gi S 192 3) - 1) hC) (fun S3x70_z h71_y => ?_) (fun r1x70_z S2x70_z h71_y => ?_)
    · have h72_y := (h71_y).1
      exact ok_some ⟨h72_y, fun r h => by cases h⟩
    · have h73_y := (h71_y).1
      have p74_y := (h71_y).2 _ rfl
      refine ok_chk (by omega) ?_
      refine ok_lt (fun S5x70_z eS5x70_z => ?_)
      have h75_y : MX 1 S5x70_z := by rw [eS5x70_z]; exact ms_201 h73_y (by omega) (by omega)
      refine ok_chk (by omega) ?_
      refine ok_chk (by omega) ?_
      have b76_y := mx_201 h75_y (v1).toNat
      refine ok_if (fun c77_y => ?_) (fun c77_y => ?_)
      · refine ok_chk (by omega) ?_
        unfold f_M_readMove_56
        refine ok_b3 (ok_M_number S5x70_z (gi S5x70_z 201 (v1).toNat) (((gi S 192 3) - 1) - 1) h75_y) (fun S3x78_z h79_y => ?_) (fun r1x78_z S2x78_z h79_y => ?_)
        · have h80_y := (h79_y).1
          exact ok_some ⟨h80_y, fun r h => by cases h⟩
        · have h81_y := (h79_y).1
          have p82_y := (h79_y).2 _ rfl
          refine ok_chk (by omega) ?_
          refine ok_lt (fun S5x78_z eS5x78_z => ?_)
          have h83_y : MX 1 S5x78_z := by rw [eS5x78_z]; exact ms_202 h81_y (by omega) (by omega)
          have b84_y := mx_192_12 h83_y
          refine ok_if (fun c85_y => ?_) (fun c85_y => ?_)
          · refine ok_chk (by omega) ?_
            refine ok_chk (by omega) ?_
            have b86_y := mx_202 h83_y (v1).toNat
            refine ok_chk (by omega) ?_
            have b87_y := mx_192_13 h83_y
            have b88_y := mx_201 h83_y (v1).toNat
            have b89_y := in01 S5x78_z (gi S5x78_z 192 13) (gi S5x78_z 201 (v1).toNat) ((gi S5x78_z 202 (v1).toNat) + 1)
            refine ok_if (fun c90_y => ?_) (fun c90_y => ?_)
            · unfold f_M_readMove_105
              have b92_y := mx_192_3 h83_y
              refine ok_b3 (ok_M_number S5x78_z 0 (gi S5x78_z 192 3) h83_y) (fun S4x91_z h93_y => ?_) (fun r2x91_z S3x91_z h93_y => ?_)
              · have h94_y := (h93_y).1
                exact ok_some ⟨h94_y, fun r h => by cases h⟩
              · have h95_y := (h93_y).1
                have p96_y := (h93_y).2 _ rfl
                refine ok_chk (by omega) ?_
                refine ok_lt (fun S6x91_z eS6x91_z => ?_)
                have h97_y : MX 1 S6x91_z := by rw [eS6x91_z]; exact ms_203 h95_y (by omega) (by omega)
                exact ok_some ⟨h97_y, fun r h => by cases h; trivial⟩
            · have b98_y := mx_192_10 h83_y
              refine ok_lt (fun S16x78_z eS16x78_z => ?_)
              have h99_y : MX 1 S16x78_z := by rw [eS16x78_z]; exact mx_M_wrong h83_y (by omega) (by omega)
              exact ok_some ⟨h99_y, fun r h => by cases h⟩
          · unfold f_M_readMove_105
            have b101_y := mx_192_3 h83_y
            refine ok_b3 (ok_M_number S5x78_z 0 (gi S5x78_z 192 3) h83_y) (fun S4x100_z h102_y => ?_) (fun r2x100_z S3x100_z h102_y => ?_)
            · have h103_y := (h102_y).1
              exact ok_some ⟨h103_y, fun r h => by cases h⟩
            · have h104_y := (h102_y).1
              have p105_y := (h102_y).2 _ rfl
              refine ok_chk (by omega) ?_
              refine ok_lt (fun S6x100_z eS6x100_z => ?_)
              have h106_y : MX 1 S6x100_z := by rw [eS6x100_z]; exact ms_203 h104_y (by omega) (by omega)
              exact ok_some ⟨h106_y, fun r h => by cases h; trivial⟩
      · unfold f_M_readMove_56
        refine ok_b3 (ok_M_number S5x70_z (gi S5x70_z 201 (v1).toNat) ((gi S 192 3) - 1) h75_y) (fun S3x107_z h108_y => ?_) (fun r1x107_z S2x107_z h108_y => ?_)
        · have h109_y := (h108_y).1
          exact ok_some ⟨h109_y, fun r h => by cases h⟩
        · have h110_y := (h108_y).1
          have p111_y := (h108_y).2 _ rfl
          refine ok_chk (by omega) ?_
          refine ok_lt (fun S5x107_z eS5x107_z => ?_)
          have h112_y : MX 1 S5x107_z := by rw [eS5x107_z]; exact ms_202 h110_y (by omega) (by omega)
          have b113_y := mx_192_12 h112_y
          refine ok_if (fun c114_y => ?_) (fun c114_y => ?_)
          · refine ok_chk (by omega) ?_
            refine ok_chk (by omega) ?_
            have b115_y := mx_202 h112_y (v1).toNat
            refine ok_chk (by omega) ?_
            have b116_y := mx_192_13 h112_y
            have b117_y := mx_201 h112_y (v1).toNat
            have b118_y := in01 S5x107_z (gi S5x107_z 192 13) (gi S5x107_z 201 (v1).toNat) ((gi S5x107_z 202 (v1).toNat) + 1)
            refine ok_if (fun c119_y => ?_) (fun c119_y => ?_)
            · unfold f_M_readMove_105
              have b121_y := mx_192_3 h112_y
              refine ok_b3 (ok_M_number S5x107_z 0 (gi S5x107_z 192 3) h112_y) (fun S4x120_z h122_y => ?_) (fun r2x120_z S3x120_z h122_y => ?_)
              · have h123_y := (h122_y).1
                exact ok_some ⟨h123_y, fun r h => by cases h⟩
              · have h124_y := (h122_y).1
                have p125_y := (h122_y).2 _ rfl
                refine ok_chk (by omega) ?_
                refine ok_lt (fun S6x120_z eS6x120_z => ?_)
                have h126_y : MX 1 S6x120_z := by rw [eS6x120_z]; exact ms_203 h124_y (by omega) (by omega)
                exact ok_some ⟨h126_y, fun r h => by cases h; trivial⟩
            · have b127_y := mx_192_10 h112_y
              refine ok_lt (fun S16x107_z eS16x107_z => ?_)
              have h128_y : MX 1 S16x107_z := by rw [eS16x107_z]; exact mx_M_wrong h112_y (by omega) (by omega)
              exact ok_some ⟨h128_y, fun r h => by cases h⟩
          · unfold f_M_readMove_105
            have b130_y := mx_192_3 h112_y
            refine ok_b3 (ok_M_number S5x107_z 0 (gi S5x107_z 192 3) h112_y) (fun S4x129_z h131_y => ?_) (fun r2x129_z S3x129_z h131_y => ?_)
            · have h132_y := (h131_y).1
              exact ok_some ⟨h132_y, fun r h => by cases h⟩
            · have h133_y := (h131_y).1
              have p134_y := (h131_y).2 _ rfl
              refine ok_chk (by omega) ?_
              refine ok_lt (fun S6x129_z eS6x129_z => ?_)
              have h135_y : MX 1 S6x129_z := by rw [eS6x129_z]; exact ms_203 h133_y (by omega) (by omega)
              exact ok_some ⟨h135_y, fun r h => by cases h; trivial⟩
theorem okl_M_first (v1 : Int) (h1 : 0 ≤ v1 ∧ v1 ≤ 60) : ∀ (n : Nat) (S : SS) (v2_ : Int), MX 0 S → (0 ≤ v2_ ∧ v2_ ≤ v1) → v1 - v2_ < (n : Int) → okk (f_M_first_19 n S v1 v2_) (fun u => MX 0 u.2 ∧ True) := by
  intro n
  induction n with
  | zero => intro S v2_ hC hi hm; exfalso; omega
  | succ n ih =>
    intro S v2_ hC hi hm
    have hm : v1 - v2_ < (n : Int) + 1 := by omega
    show okk (f_M_first_19_b (f_M_first_19 n) S v1 v2_) _
    unfold f_M_first_19_b
    refine ok_if (fun _ => ok_lt (fun S1 e1 => ?_)) (fun c1 => ok_chk (by omega) (ok_chk (by omega) (ok_lt (fun S4 e4 => ok_chk (by omega) ?_))))
    · have m1 : MX 0 S1 := by rw [e1]; exact ms_192_3 hC (by omega) (by omega)
      refine ok_lt (fun S2 e2 => ok_some ⟨?_, trivial⟩)
      show MX 0 S2
      rw [e2]; exact ms_192_27 m1 (by omega) (by omega)
    · exact ih S4 (v2_ + 1) (by rw [e4]; exact ms_sl hC) (by omega) (by omega)
theorem ok_M_first (S : SS) (hC : MX 0 S) : okk (f_M_first S) (fun u => MX 0 u.2 ∧ True) := by
  have h1 := mx_M_begin hC
  unfold f_M_first
  refine ok_lt (fun S1 e1 => ok_b3 (ok_M_readProof S1 60 (show MX 1 S1 by rw [e1]; exact h1) (by omega)) (fun S5 h5 => ok_some ⟨h5.1.weak, trivial⟩) (fun r3 S4 h4 => ?_))
  have p4 := h4.2 _ rfl
  exact okl_M_first r3 (by omega) FU S4 0 h4.1.weak (by omega) (by unfold FU; omega)
theorem okl_M_second (v1 : Int) (h1 : 0 ≤ v1 ∧ v1 ≤ 150) : ∀ (n : Nat) (S : SS) (v2_ : Int), MX 0 S → (0 ≤ v2_ ∧ v2_ ≤ v1) → v1 - v2_ < (n : Int) → okk (f_M_second_20 n S v1 v2_) (fun u => MX 0 u.2 ∧ True) := by
  intro n
  induction n with
  | zero => intro S v2_ hC hi hm; exfalso; omega
  | succ n ih =>
    intro S v2_ hC hi hm
    have hm : v1 - v2_ < (n : Int) + 1 := by omega
    show okk (f_M_second_20_b (f_M_second_20 n) S v1 v2_) _
    unfold f_M_second_20_b
    refine ok_if (fun _ => ok_lt (fun S1 e1 => ?_)) (fun c1 => ok_chk (by omega) (ok_chk (by omega) (ok_lt (fun S4 e4 => ok_chk (by omega) ?_))))
    · have m1 : MX 0 S1 := by rw [e1]; exact ms_192_4 hC (by omega) (by omega)
      exact ok_some ⟨m1, trivial⟩
    · exact ih S4 (v2_ + 1) (by rw [e4]; exact ms_sl hC) (by omega) (by omega)
theorem ok_M_second (S : SS) (hC : MX 0 S) : okk (f_M_second S) (fun u => MX 0 u.2 ∧ True) := by
  have h1 := mx_M_begin hC
  unfold f_M_second
  refine ok_lt (fun S1 e1 => ok_b3 (ok_M_readProof S1 150 (show MX 1 S1 by rw [e1]; exact h1) (by omega)) (fun S5 h5 => ok_some ⟨h5.1.weak, trivial⟩) (fun r3 S4 h4 => ?_))
  have p4 := h4.2 _ rfl
  exact okl_M_second r3 (by omega) FU S4 0 h4.1.weak (by omega) (by unfold FU; omega)
theorem okm_charAt {b : Nat} (S : SS) (i0 : Nat) (v1 : Int) (hC : MX b S) (hi0 : i0 < 13) (hp0 : 0 ≤ v1 ∧ v1 < stl i0) : okk (f_charAt S i0 v1) (fun r => True) := by
  unfold f_charAt
  refine ok_if (fun h => absurd (show (1 : Int) = 0 from h) (by decide)) (fun _ => ?_)
  refine ok_b1 (R := fun r => 0 ≤ r ∧ r < 65536) ?_ (fun r h => ok_chk h (ok_some trivial))
  unfold f_l1charAt
  refine ok_b1 (R := fun _ => True) ?_ (fun _ _ => ok_chk hp0 (ok_chk (toc_rng _) (ok_some (toc_rng _))))
  unfold f_checkIndex f_preCheck
  exact ⟨(), by rw [if_neg (by omega), if_pos (by omega)]; rfl, trivial⟩
set_option maxHeartbeats 4000000 in
theorem okl_M_is_40 (S : SS) (i1 : Nat) (hC : MX 1 S) (hi1 : i1 < 13) : ∀ (n : Nat) (v2_ : Int) (v3_ : Int), ((v2_ = 0 ∨ (v2_ = 1 ∧ gi S 192 11 - gi S 192 10 = stl i1)) ∧ 0 ≤ v3_ ∧ v3_ ≤ 100 ∧ gi S 192 9 ≤ 2000) → 100 - v3_ < (n : Int) → okk (f_M_is_40 S i1 n v2_ v3_) (fun r => r = 0 ∨ r = 1) := by
  intro n
  induction n with
  | zero => intro v2_ v3_ hi hm; exfalso; omega
  | succ n ih =>
    intro v2_ v3_ hi hm
    have hm : 100 - v3_ < (n : Int) + 1 := by omega
    show okk (f_M_is_40_b S i1 (f_M_is_40 S i1 n) v2_ v3_) _
    unfold f_M_is_40_b
    have b1_y := And.intro ((hC).1 rfl) (mx_192_11 hC)
    have b2_y := mx_192_10 hC
    have b3_y := And.intro ((hC).1 rfl) (mx_192_9 hC)
    have b4_y := stl_rng hi1
    have b5_y := len_rng S hi1
    refine ok_if (fun c6_y => ?_) (fun c6_y => ?_)
    · refine ok_chk (by omega) ?_
      exact ok_some (by omega)
    · refine ok_if (fun c7_y => ?_) (fun c7_y => ?_)
      · refine ok_chk (by omega) ?_
        exact ok_some (by omega)
      · refine ok_chk (by omega) ?_
        refine ok_chk (by omega) ?_
        refine ok_b1 (okm_charAt S i1 v3_ hC hi1 (by omega)) (fun r7_z h8_y => ?_)
        have b9_y := mx_197 hC ((gi S 192 10) + v3_).toNat
        refine ok_if (fun c10_y => ?_) (fun c10_y => ?_)
        · unfold f_M_is_76
          refine ok_chk (by omega) ?_
          exact ih 1 (v3_ + 1) (by omega) (by omega)
        · unfold f_M_is_76
          refine ok_chk (by omega) ?_
          exact ih 0 (v3_ + 1) (by omega) (by omega)
set_option maxHeartbeats 4000000 in
theorem ok_M_is (S : SS) (i1 : Nat) (hC : MX 1 S) (hi1 : i1 < 13) : okk (f_M_is S i1) (fun r => r = 0 ∨ r = 1) := by
  have b1_y := And.intro ((hC).1 rfl) (mx_192_9 hC)
  have b2_y := mx_192_10 hC
  have b3_y := And.intro ((hC).1 rfl) (mx_192_11 hC)
  unfold f_M_is
  have b5_y := mx_192_12 hC
  refine ok_if (fun c6_y => ?_) (fun c6_y => ?_)
  · unfold f_M_is_16
    refine ok_chk (by omega) ?_
    have b8_y := len_rng S hi1
    refine ok_if (fun c9_y => ?_) (fun c9_y => ?_)
    · unfold f_M_is_37
      exact okl_M_is_40 S i1 hC hi1 FU 1 0 (by omega) (by unfold FU; omega)
    · unfold f_M_is_36
      unfold f_M_is_37
      exact okl_M_is_40 S i1 hC hi1 FU 0 0 (by omega) (by unfold FU; omega)
  · refine ok_if (fun c13_y => ?_) (fun c13_y => ?_)
    · unfold f_M_is_16
      refine ok_chk (by omega) ?_
      have b15_y := len_rng S hi1
      refine ok_if (fun c16_y => ?_) (fun c16_y => ?_)
      · unfold f_M_is_37
        exact okl_M_is_40 S i1 hC hi1 FU 1 0 (by omega) (by unfold FU; omega)
      · unfold f_M_is_36
        unfold f_M_is_37
        exact okl_M_is_40 S i1 hC hi1 FU 0 0 (by omega) (by unfold FU; omega)
    · unfold f_M_is_36
      unfold f_M_is_37
      exact okl_M_is_40 S i1 hC hi1 FU 0 0 (by omega) (by unfold FU; omega)
def QU (u : Option Unit × SS) : Prop := MX 1 u.2 ∧ (∀ r, u.1 = some r → True)
theorem qu_w {S : SS} (h : MX 1 S) (k : Int) (hk : 1 ≤ k ∧ k ≤ 3) : okk (w_lt (f_M_wrong S k (gi S 192 10)) (fun S1 => some ((none : Option Unit), S1))) QU := by
  have b10 := mx_192_10 h
  refine ok_lt (fun S1 e => ok_some ⟨?_, fun _ _ => trivial⟩)
  show MX 1 S1
  rw [e]; exact mx_M_wrong h (by omega) (by omega)
theorem ok_rw191 (v1 : Int) (k19 : SS → Option (Option Unit × SS)) (k96 : SS → Int → Int64 → Option (Option Unit × SS)) (S : SS) (v2 : Int) (w3 : Int64) (h : MX 1 S) (hl : gi S 192 11 < gi S 192 9) (hk : ∀ S', MX 1 S' → gi S' 192 11 = gi S 192 11 + 1 → gi S' 204 v1.toNat = gi S 204 v1.toNat → okk (k96 S' v2 w3) QU) : okk (f_M_readWords_191 v1 k19 k96 S v2 w3) QU := by
  have b11 := mx_192_11 h
  have b9 := mx_192_9 h
  unfold f_M_readWords_191
  refine ok_chk (by omega) (ok_lt (fun S3 e => hk S3 ?_ (gi_eq e) (gi_ne e (by omega))))
  rw [e]; exact ms_192_11 h (fun _ => by omega) (by omega) (by omega)
theorem ok_rw204 (v1 : Int) (k19 : SS → Option (Option Unit × SS)) (S : SS) (v2 : Int) (w3 : Int64) (m : Int) (h : MX 1 S) (hv : 0 ≤ v1 ∧ v1 < 41) (hm : 2001 - gi S 192 11 + 6 - gi S 204 v1.toNat ≤ m) (hk : ∀ S', MX 1 S' → 2001 - gi S' 192 11 + 6 - gi S' 204 v1.toNat < m → okk (k19 S') QU) : okk (f_M_readWords_204 v1 k19 S v2 w3) QU := by
  have bw := mx_204 h v1.toNat
  unfold f_M_readWords_204
  refine ok_if (fun _ => qu_w h 1 (by omega)) (fun _ => ok_chk (by omega) (ok_if (fun _ => qu_w h 3 (by omega)) (fun c2 => ?_)))
  refine ok_chk (by omega) (ok_chk (by omega) (ok_chk (by omega) (ok_chk (by omega) (ok_lt (fun S5 e5 => ?_)))))
  have h5 : MX 1 S5 := by rw [e5]; exact ms_sl h
  have f5 : gi S5 204 v1.toNat = gi S 204 v1.toNat := gi_sl e5
  have g5 : gi S5 192 11 = gi S 192 11 := gi_sl e5
  refine ok_chk (by omega) (ok_chk (by omega) (ok_chk (by omega) (ok_lt (fun S8 e8 => ?_))))
  have h8 : MX 1 S8 := by rw [e8]; exact ms_204 h5 (by omega) (by omega)
  have f8 : gi S8 204 v1.toNat = gi S5 204 v1.toNat + 1 := gi_eq e8
  have g8 : gi S8 192 11 = gi S5 192 11 := gi_ne e8 (by omega)
  exact hk S8 h8 (by omega)
theorem okl_rw96 (v1 : Int) (k19 : SS → Option (Option Unit × SS)) (m : Int) (hv : 0 ≤ v1 ∧ v1 < 41) (hk : ∀ S', MX 1 S' → 2001 - gi S' 192 11 + 6 - gi S' 204 v1.toNat < m → okk (k19 S') QU) : ∀ (n : Nat) (S : SS) (v2 : Int) (w3 : Int64), MX 1 S → 2001 - gi S 192 11 + 6 - gi S 204 v1.toNat ≤ m → 2001 - gi S 192 11 < (n : Int) → okk (f_M_readWords_96 v1 k19 n S v2 w3) QU := by
  intro n
  induction n with
  | zero => intro S v2 w3 h hi hm; have b11 := mx_192_11 h; exfalso; omega
  | succ n ih =>
    intro S v2 w3 h hi hm
    have hm : 2001 - gi S 192 11 < (n : Int) + 1 := by omega
    show okk (f_M_readWords_96_b v1 k19 (f_M_readWords_96 v1 k19 n) S v2 w3) _
    unfold f_M_readWords_96_b
    have b11 := mx_192_11 h
    have go := ok_rw204 v1 k19 S v2 w3 m h hv hi hk
    refine ok_if (fun _ => go) (fun c1 => ?_)
    have nx : ∀ v2' w', okk (f_M_readWords_191 v1 k19 (f_M_readWords_96 v1 k19 n) S v2' w') QU := fun v2' w' => ok_rw191 v1 k19 _ S v2' w' h (by omega) (fun S' q1 q2 q3 => ih S' v2' w' q1 (by omega) (by omega))
    have n0 : okk (f_M_readWords_170 v1 k19 (f_M_readWords_96 v1 k19 n) S w3) QU := by
      unfold f_M_readWords_170 f_M_readWords_171
      exact ok_if (fun _ => nx _ _) (fun _ => ok_b1 (ok_M_byteAt S _ h (by omega)) (fun _ _ => nx _ _))
    have n1 : okk (f_M_readWords_171 v1 k19 (f_M_readWords_96 v1 k19 n) S w3 1) QU := by
      unfold f_M_readWords_171
      exact ok_if (fun _ => nx _ _) (fun _ => ok_b1 (ok_M_byteAt S _ h (by omega)) (fun _ _ => nx _ _))
    have b10 := mx_192_10 h
    refine ok_b1 (ok_M_byteAt S _ h (by omega)) (fun r4 _ => ok_if (fun _ => ok_b1 (ok_M_byteAt S _ h (by omega)) (fun r8 _ => ok_if (fun _ => go) (fun _ => ok_if (fun _ => n0) (fun _ => ok_b1 (ok_M_byteAt S _ h (by omega)) (fun r11 _ => ok_if (fun _ => n0) (fun _ => ok_chk (by omega) (ok_if (fun _ => n0) (fun _ => n1)))))))) (fun _ => go))
theorem ok_rw269 (v1 : Int) (S : SS) (h : MX 1 S) (hv : 0 ≤ v1 ∧ v1 < 41) : okk (f_M_readWords_269 v1 S) QU := by
  unfold f_M_readWords_269
  exact ok_chk (by omega) (ok_if (fun _ => qu_w h 1 (by omega)) (fun _ => ok_b1 (ok_M_scan S h) (fun S2 h2 => ok_some ⟨h2.1, fun _ _ => trivial⟩)))
theorem okl_rw19 (v1 : Int) (hv : 0 ≤ v1 ∧ v1 < 41) : ∀ (n : Nat) (S : SS), MX 1 S → 2001 - gi S 192 11 + 6 - gi S 204 v1.toNat < (n : Int) → okk (f_M_readWords_19 v1 n S) QU := by
  intro n
  induction n with
  | zero => intro S h hm; have b11 := mx_192_11 h; have bw := mx_204 h v1.toNat; exfalso; omega
  | succ n ih =>
    intro S h hm
    have hm : 2001 - gi S 192 11 + 6 - gi S 204 v1.toNat < (n : Int) + 1 := by omega
    show okk (f_M_readWords_19_b v1 (f_M_readWords_19 v1 n) S) _
    unfold f_M_readWords_19_b
    have b11 := mx_192_11 h
    have b9 := mx_192_9 h
    have go : okk (f_M_readWords_57 v1 (f_M_readWords_19 v1 n) S) QU := by
      unfold f_M_readWords_57
      refine ok_lt (fun S2 e2 => ?_)
      have h2 : MX 1 S2 := by rw [e2]; exact ms_192_10 h (by omega) (by omega)
      have f2 : gi S2 192 11 = gi S 192 11 := gi_ne e2 (by omega)
      have g2 : gi S2 204 v1.toNat = gi S 204 v1.toNat := gi_ne e2 (by omega)
      refine ok_if (fun _ => ok_rw269 v1 S2 h2 hv) (fun _ => ok_b1 (ok_M_byteAt S2 _ h2 (by omega)) (fun r6 _ => ok_if (fun _ => ok_rw269 v1 S2 h2 hv) (fun _ => ?_)))
      exact okl_rw96 v1 _ (n : Int) hv (fun S' q1 q2 => ih S' q1 q2) FU S2 1 0 h2 (by omega) (by unfold FU; omega)
    refine ok_if (fun _ => go) (fun c1 => ok_b1 (ok_M_byteAt S _ h (by omega)) (fun r4 _ => ok_if (fun _ => go) (fun _ => ok_chk (by omega) (ok_lt (fun S9 e9 => ?_)))))
    have h9 : MX 1 S9 := by rw [e9]; exact ms_192_11 h (fun _ => by omega) (by omega) (by omega)
    have f9 : gi S9 192 11 = gi S 192 11 + 1 := gi_eq e9
    have g9 : gi S9 204 v1.toNat = gi S 204 v1.toNat := gi_ne e9 (by omega)
    exact ih S9 h9 (by omega)
theorem ok_M_readWords (S : SS) (v1 : Int) (hC : MX 1 S) (hp0 : 0 ≤ v1 ∧ v1 < 41) : okk (f_M_readWords S v1) (fun u => MX 1 u.2 ∧ (∀ r, u.1 = some r → True)) := by
  have b11 := mx_192_11 hC
  have bw := mx_204 hC v1.toNat
  unfold f_M_readWords
  refine ok_b1 (ok_M_is S 11 hC (by decide)) (fun r1 _ => ok_if (fun _ => qu_w hC 1 (by omega)) (fun _ => ?_))
  exact okl_rw19 v1 hp0 FU S hC (by unfold FU; omega)
set_option maxHeartbeats 4000000 in
theorem ok_M_readLine_505 (v1 : Int) (S : SS) (hC : MX 1 S) (hp0 : 0 ≤ v1 ∧ v1 < 40) : okk (f_M_readLine_505 v1 S) (fun u => MX 1 u.2 ∧ (∀ r, u.1 = some r → v1 < 40)) := by
  unfold f_M_readLine_505
  refine ok_b1 (ok_M_is S 12 hC (by decide)) (fun r1x1_z h2_y => ?_)
  refine ok_if (fun c3_y => ?_) (fun c3_y => ?_)
  · have b4_y := mx_192_10 hC
    refine ok_lt (fun S6x1_z eS6x1_z => ?_)
    have h5_y : MX 1 S6x1_z := by rw [eS6x1_z]; exact mx_M_wrong hC (by omega) (by omega)
    exact ok_some ⟨h5_y, fun r h => by cases h⟩
  · refine ok_b1 (ok_M_scan S hC) (fun S3x1_z h6_y => ?_)
    obtain ⟨h7_y, p8_y⟩ := h6_y
    exact ok_some ⟨h7_y, fun r h => by cases h; omega⟩
set_option maxHeartbeats 4000000 in
theorem ok_M_readLine_500 (v1 : Int) (S : SS) (hC : MX 1 S) (hp0 : 0 ≤ v1 ∧ v1 < 40) : okk (f_M_readLine_500 v1 S) (fun u => MX 1 u.2 ∧ (∀ r, u.1 = some r → v1 < 40)) := by
  unfold f_M_readLine_500
  refine ok_b3 (ok_M_readWords S v1 hC (by omega)) (fun S3x1_z h2_y => ?_) (fun _ S2x1_z h2_y => ?_)
  · have h3_y := (h2_y).1
    exact ok_some ⟨h3_y, fun r h => by cases h⟩
  · have h4_y := (h2_y).1
    have p5_y := (h2_y).2 _ rfl
    exact ok_M_readLine_505 v1 S2x1_z h4_y (by omega)
set_option maxHeartbeats 4000000 in
theorem ok_M_readLine_480 (v1 : Int) (S : SS) (hC : MX 1 S) (hp0 : 0 ≤ v1 ∧ v1 < 40) : okk (f_M_readLine_480 v1 S) (fun u => MX 1 u.2 ∧ (∀ r, u.1 = some r → v1 < 40)) := by
  unfold f_M_readLine_480
  refine ok_chk (by omega) ?_
  have b2_y := mx_199 hC (v1).toNat
  refine ok_if (fun c3_y => ?_) (fun c3_y => ?_)
  · exact ok_M_readLine_500 v1 S hC (by omega)
  · refine ok_chk (by omega) ?_
    refine ok_if (fun c4_y => ?_) (fun c4_y => ?_)
    · exact ok_M_readLine_500 v1 S hC (by omega)
    · exact ok_M_readLine_505 v1 S hC (by omega)
set_option maxHeartbeats 4000000 in
theorem ok_M_readLine_466 (v1 : Int) (S : SS) (hC : MX 1 S) (hp0 : 0 ≤ v1 ∧ v1 < 40) : okk (f_M_readLine_466 v1 S) (fun u => MX 1 u.2 ∧ (∀ r, u.1 = some r → v1 < 40)) := by
  unfold f_M_readLine_466
  refine ok_chk (by omega) ?_
  refine ok_b3 (ok_M_number S 0 (v1 - 1) hC) (fun S4x1_z h2_y => ?_) (fun r2x1_z S3x1_z h2_y => ?_)
  · have h3_y := (h2_y).1
    exact ok_some ⟨h3_y, fun r h => by cases h⟩
  · have h4_y := (h2_y).1
    have p5_y := (h2_y).2 _ rfl
    refine ok_chk (by omega) ?_
    refine ok_lt (fun S6x1_z eS6x1_z => ?_)
    have h6_y : MX 1 S6x1_z := by rw [eS6x1_z]; exact ms_201 h4_y (by omega) (by omega)
    exact ok_M_readLine_480 v1 S6x1_z h6_y (by omega)
set_option maxHeartbeats 4000000 in
theorem ok_M_readLine_456 (v1 : Int) (S : SS) (hC : MX 1 S) (hp0 : 0 ≤ v1 ∧ v1 < 40) : okk (f_M_readLine_456 v1 S) (fun u => MX 1 u.2 ∧ (∀ r, u.1 = some r → v1 < 40)) := by
  unfold f_M_readLine_456
  have b2_y := mx_192_10 hC
  refine ok_lt (fun S2x1_z eS2x1_z => ?_)
  have h3_y : MX 1 S2x1_z := by rw [eS2x1_z]; exact mx_M_wrong hC (by omega) (by omega)
  exact ok_some ⟨h3_y, fun r h => by cases h⟩
set_option maxHeartbeats 4000000 in
theorem ok_M_readLine_250 (v1 : Int) (S : SS) (v3_ : Int) (vt0_ : Int) (vt1_ : Int) (hC : MX 1 S) (hp0 : 0 ≤ v1 ∧ v1 < 40) (hp1 : -1 ≤ v3_ ∧ v3_ ≤ 59) (hp2 : -1 ≤ vt0_ ∧ vt0_ ≤ 5) (hp3 : 0 ≤ vt1_ ∧ vt1_ < 40) : okk (f_M_readLine_250 v1 S v3_ vt0_ vt1_) (fun u => MX 1 u.2 ∧ (∀ r, u.1 = some r → v1 < 40)) := by
  unfold f_M_readLine_250
  refine ok_chk (by omega) ?_
  refine ok_lt (fun S1x1_z eS1x1_z => ?_)
  have h2_y : MX 1 S1x1_z := by rw [eS1x1_z]; exact ms_199 hC (by omega) (by omega)
  refine ok_chk (by omega) ?_
  have b3_y := mx_199 h2_y (v1).toNat
  refine ok_if (fun c4_y => ?_) (fun c4_y => ?_)
  · have b5_y := mx_192_10 h2_y
    refine ok_lt (fun S67x1_z eS67x1_z => ?_)
    have h6_y : MX 1 S67x1_z := by rw [eS67x1_z]; exact mx_M_wrong h2_y (by omega) (by omega)
    exact ok_some ⟨h6_y, fun r h => by cases h⟩
  · refine ok_b1 (ok_M_scan S1x1_z h2_y) (fun S3x1_z h7_y => ?_)
    obtain ⟨h8_y, p9_y⟩ := h7_y
    refine ok_chk (by omega) ?_
    have b10_y := mx_199 h8_y (v1).toNat
    refine ok_if (fun c11_y => ?_) (fun c11_y => ?_)
    · refine ok_b3 (ok_M_number S3x1_z 0 v3_ h8_y) (fun S9x1_z h12_y => ?_) (fun r7x1_z S8x1_z h12_y => ?_)
      · have h13_y := (h12_y).1
        exact ok_some ⟨h13_y, fun r h => by cases h⟩
      · have h14_y := (h12_y).1
        have p15_y := (h12_y).2 _ rfl
        refine ok_chk (by omega) ?_
        refine ok_lt (fun S11x1_z eS11x1_z => ?_)
        have h16_y : MX 1 S11x1_z := by rw [eS11x1_z]; exact ms_201 h14_y (by omega) (by omega)
        refine ok_chk (by omega) ?_
        have b17_y := mx_201 h16_y (v1).toNat
        refine ok_b3 (ok_M_number S11x1_z (gi S11x1_z 201 (v1).toNat) v3_ h16_y) (fun S15x1_z h18_y => ?_) (fun r13x1_z S14x1_z h18_y => ?_)
        · have h19_y := (h18_y).1
          exact ok_some ⟨h19_y, fun r h => by cases h⟩
        · have h20_y := (h18_y).1
          have p21_y := (h18_y).2 _ rfl
          refine ok_chk (by omega) ?_
          refine ok_lt (fun S17x1_z eS17x1_z => ?_)
          have h22_y : MX 1 S17x1_z := by rw [eS17x1_z]; exact ms_202 h20_y (by omega) (by omega)
          exact ok_M_readLine_480 v1 S17x1_z h22_y (by omega)
    · refine ok_if (fun c23_y => ?_) (fun c23_y => ?_)
      · have b24_y := mx_192_3 h8_y
        refine ok_b3 (ok_M_number S3x1_z 0 (gi S3x1_z 192 3) h8_y) (fun S22x1_z h25_y => ?_) (fun r20x1_z S21x1_z h25_y => ?_)
        · have h26_y := (h25_y).1
          exact ok_some ⟨h26_y, fun r h => by cases h⟩
        · have h27_y := (h25_y).1
          have p28_y := (h25_y).2 _ rfl
          refine ok_chk (by omega) ?_
          refine ok_lt (fun S24x1_z eS24x1_z => ?_)
          have h29_y : MX 1 S24x1_z := by rw [eS24x1_z]; exact ms_201 h27_y (by omega) (by omega)
          exact ok_M_readLine_480 v1 S24x1_z h29_y (by omega)
      · refine ok_if (fun c30_y => ?_) (fun c30_y => ?_)
        · refine ok_b3 (ok_M_number S3x1_z 0 v3_ h8_y) (fun S28x1_z h31_y => ?_) (fun r26x1_z S27x1_z h31_y => ?_)
          · have h32_y := (h31_y).1
            exact ok_some ⟨h32_y, fun r h => by cases h⟩
          · have h33_y := (h31_y).1
            have p34_y := (h31_y).2 _ rfl
            refine ok_chk (by omega) ?_
            refine ok_lt (fun S30x1_z eS30x1_z => ?_)
            have h35_y : MX 1 S30x1_z := by rw [eS30x1_z]; exact ms_201 h33_y (by omega) (by omega)
            refine ok_chk (by omega) ?_
            have b36_y := mx_201 h35_y (v1).toNat
            refine ok_b3 (ok_M_number S30x1_z (gi S30x1_z 201 (v1).toNat) v3_ h35_y) (fun S34x1_z h37_y => ?_) (fun r32x1_z S33x1_z h37_y => ?_)
            · have h38_y := (h37_y).1
              exact ok_some ⟨h38_y, fun r h => by cases h⟩
            · have h39_y := (h37_y).1
              have p40_y := (h37_y).2 _ rfl
              refine ok_chk (by omega) ?_
              refine ok_lt (fun S36x1_z eS36x1_z => ?_)
              have h41_y : MX 1 S36x1_z := by rw [eS36x1_z]; exact ms_202 h39_y (by omega) (by omega)
              exact ok_M_readLine_480 v1 S36x1_z h41_y (by omega)
        · refine ok_if (fun c42_y => ?_) (fun c42_y => ?_)
          · refine ok_chk (by omega) ?_
            refine ok_b3 (ok_M_number S3x1_z 0 (v3_ - 1) h8_y) (fun S41x1_z h43_y => ?_) (fun r39x1_z S40x1_z h43_y => ?_)
            · have h44_y := (h43_y).1
              exact ok_some ⟨h44_y, fun r h => by cases h⟩
            · have h45_y := (h43_y).1
              have p46_y := (h43_y).2 _ rfl
              refine ok_chk (by omega) ?_
              refine ok_lt (fun S43x1_z eS43x1_z => ?_)
              have h47_y : MX 1 S43x1_z := by rw [eS43x1_z]; exact ms_201 h45_y (by omega) (by omega)
              refine ok_chk (by omega) ?_
              have b48_y := mx_201 h47_y (v1).toNat
              refine ok_chk (by omega) ?_
              refine ok_b3 (ok_M_number S43x1_z ((gi S43x1_z 201 (v1).toNat) + 1) v3_ h47_y) (fun S48x1_z h49_y => ?_) (fun r46x1_z S47x1_z h49_y => ?_)
              · have h50_y := (h49_y).1
                exact ok_some ⟨h50_y, fun r h => by cases h⟩
              · have h51_y := (h49_y).1
                have p52_y := (h49_y).2 _ rfl
                refine ok_chk (by omega) ?_
                refine ok_lt (fun S50x1_z eS50x1_z => ?_)
                have h53_y : MX 1 S50x1_z := by rw [eS50x1_z]; exact ms_202 h51_y (by omega) (by omega)
                refine ok_chk (by omega) ?_
                have b54_y := mx_202 h53_y (v1).toNat
                refine ok_b3 (ok_M_number S50x1_z (gi S50x1_z 202 (v1).toNat) v3_ h53_y) (fun S54x1_z h55_y => ?_) (fun r52x1_z S53x1_z h55_y => ?_)
                · have h56_y := (h55_y).1
                  exact ok_some ⟨h56_y, fun r h => by cases h⟩
                · have h57_y := (h55_y).1
                  have p58_y := (h55_y).2 _ rfl
                  refine ok_chk (by omega) ?_
                  refine ok_lt (fun S56x1_z eS56x1_z => ?_)
                  have h59_y : MX 1 S56x1_z := by rw [eS56x1_z]; exact ms_203 h57_y (by omega) (by omega)
                  exact ok_M_readLine_480 v1 S56x1_z h59_y (by omega)
          · refine ok_if (fun c60_y => ?_) (fun c60_y => ?_)
            · refine ok_b3 (ok_M_readMove S3x1_z v1 h8_y (by omega)) (fun S60x1_z h61_y => ?_) (fun _ S59x1_z h61_y => ?_)
              · have h62_y := (h61_y).1
                exact ok_some ⟨h62_y, fun r h => by cases h⟩
              · have h63_y := (h61_y).1
                have p64_y := (h61_y).2 _ rfl
                exact ok_M_readLine_480 v1 S59x1_z h63_y (by omega)
            · have b65_y := mx_192_12 h8_y
              refine ok_if (fun c66_y => ?_) (fun c66_y => ?_)
              · have b67_y := mx_192_13 h8_y
                refine ok_if (fun c68_y => ?_) (fun c68_y => ?_)
                · exact ok_M_readLine_456 v1 S3x1_z h8_y (by omega)
                · refine ok_chk (by omega) ?_
                  have b69_y := mx_199 h8_y (gi S3x1_z 192 13).toNat
                  refine ok_if (fun c70_y => ?_) (fun c70_y => ?_)
                  · exact ok_M_readLine_456 v1 S3x1_z h8_y (by omega)
                  · exact ok_M_readLine_466 v1 S3x1_z h8_y (by omega)
              · exact ok_M_readLine_466 v1 S3x1_z h8_y (by omega)
set_option maxHeartbeats 4000000 in
theorem ok_M_readLine_249 (v1 : Int) (S : SS) (v3_ : Int) (vt0_ : Int) (hC : MX 1 S) (hp0 : 0 ≤ v1 ∧ v1 < 40) (hp1 : -1 ≤ v3_ ∧ v3_ ≤ 59) (hp2 : 0 ≤ vt0_ ∧ vt0_ < 40) : okk (f_M_readLine_249 v1 S v3_ vt0_) (fun u => MX 1 u.2 ∧ (∀ r, u.1 = some r → v1 < 40)) := by
  unfold f_M_readLine_249
  exact ok_M_readLine_250 v1 S v3_ (-1) vt0_ hC (by omega) (by omega) (by omega) (by omega)
set_option maxHeartbeats 4000000 in
theorem ok_M_readLine_150 (v1 : Int) (S : SS) (hC : MX 1 S) (hp0 : 0 ≤ v1 ∧ v1 < 40) : okk (f_M_readLine_150 v1 S) (fun u => MX 1 u.2 ∧ (∀ r, u.1 = some r → v1 < 40)) := by
  unfold f_M_readLine_150
  have b2_y := mx_192_3 hC
  refine ok_chk (by omega) ?_
  refine ok_b1 (ok_M_is S 5 hC (by decide)) (fun r3x1_z h3_y => ?_)
  refine ok_if (fun c4_y => ?_) (fun c4_y => ?_)
  · refine ok_b1 (ok_M_is S 6 hC (by decide)) (fun r5x1_z h5_y => ?_)
    refine ok_if (fun c6_y => ?_) (fun c6_y => ?_)
    · refine ok_b1 (ok_M_is S 7 hC (by decide)) (fun r7x1_z h7_y => ?_)
      refine ok_if (fun c8_y => ?_) (fun c8_y => ?_)
      · refine ok_b1 (ok_M_is S 8 hC (by decide)) (fun r9x1_z h9_y => ?_)
        refine ok_if (fun c10_y => ?_) (fun c10_y => ?_)
        · refine ok_b1 (ok_M_is S 9 hC (by decide)) (fun r11x1_z h11_y => ?_)
          refine ok_if (fun c12_y => ?_) (fun c12_y => ?_)
          · refine ok_b1 (ok_M_is S 10 hC (by decide)) (fun r13x1_z h13_y => ?_)
            refine ok_if (fun c14_y => ?_) (fun c14_y => ?_)
            · exact ok_M_readLine_249 v1 S ((gi S 192 3) - 1) v1 hC (by omega) (by omega) (by omega)
            · refine ok_chk (by omega) ?_
              have b15_y := mx_207 hC (v1).toNat
              refine ok_if (fun c16_y => ?_) (fun c16_y => ?_)
              · exact ok_M_readLine_250 v1 S ((gi S 192 3) - 1) 5 v1 hC (by omega) (by omega) (by omega) (by omega)
              · exact ok_M_readLine_249 v1 S ((gi S 192 3) - 1) v1 hC (by omega) (by omega) (by omega)
          · exact ok_M_readLine_250 v1 S ((gi S 192 3) - 1) 4 v1 hC (by omega) (by omega) (by omega) (by omega)
        · exact ok_M_readLine_250 v1 S ((gi S 192 3) - 1) 3 v1 hC (by omega) (by omega) (by omega) (by omega)
      · exact ok_M_readLine_250 v1 S ((gi S 192 3) - 1) 2 v1 hC (by omega) (by omega) (by omega) (by omega)
    · exact ok_M_readLine_250 v1 S ((gi S 192 3) - 1) 1 v1 hC (by omega) (by omega) (by omega) (by omega)
  · exact ok_M_readLine_250 v1 S ((gi S 192 3) - 1) 0 v1 hC (by omega) (by omega) (by omega) (by omega)
set_option maxHeartbeats 4000000 in
theorem ok_M_readLine_40 (v1 : Int) (S : SS) (vt0_ : Int) (hC : MX 1 S) (hp0 : 0 ≤ v1 ∧ v1 ≤ 40) (hp1 : -1 ≤ vt0_ ∧ vt0_ ≤ 2) : okk (f_M_readLine_40 v1 S vt0_) (fun u => MX 1 u.2 ∧ (∀ r, u.1 = some r → v1 < 40)) := by
  unfold f_M_readLine_40
  refine ok_if (fun c2_y => ?_) (fun c2_y => ?_)
  · have b3_y := mx_192_10 hC
    refine ok_lt (fun S21x1_z eS21x1_z => ?_)
    have h4_y : MX 1 S21x1_z := by rw [eS21x1_z]; exact mx_M_wrong hC (by omega) (by omega)
    exact ok_some ⟨h4_y, fun r h => by cases h⟩
  · refine ok_if (fun c5_y => ?_) (fun c5_y => ?_)
    · have b6_y := mx_192_10 hC
      refine ok_lt (fun S18x1_z eS18x1_z => ?_)
      have h7_y : MX 1 S18x1_z := by rw [eS18x1_z]; exact mx_M_wrong hC (by omega) (by omega)
      exact ok_some ⟨h7_y, fun r h => by cases h⟩
    · refine ok_chk (by omega) ?_
      refine ok_lt (fun S1x1_z eS1x1_z => ?_)
      have h8_y : MX 1 S1x1_z := by rw [eS1x1_z]; exact ms_200 hC (by omega) (by omega)
      refine ok_chk (by omega) ?_
      refine ok_lt (fun S2x1_z eS2x1_z => ?_)
      have h9_y : MX 1 S2x1_z := by rw [eS2x1_z]; exact ms_201 h8_y (by omega) (by omega)
      refine ok_chk (by omega) ?_
      refine ok_lt (fun S3x1_z eS3x1_z => ?_)
      have h10_y : MX 1 S3x1_z := by rw [eS3x1_z]; exact ms_202 h9_y (by omega) (by omega)
      refine ok_chk (by omega) ?_
      refine ok_lt (fun S4x1_z eS4x1_z => ?_)
      have h11_y : MX 1 S4x1_z := by rw [eS4x1_z]; exact ms_203 h10_y (by omega) (by omega)
      refine ok_chk (by omega) ?_
      refine ok_lt (fun S5x1_z eS5x1_z => ?_)
      have h12_y : MX 1 S5x1_z := by rw [eS5x1_z]; exact ms_204 h11_y (by omega) (by omega)
      refine ok_chk (by omega) ?_
      refine ok_lt (fun S6x1_z eS6x1_z => ?_)
      have h13_y : MX 1 S6x1_z := by rw [eS6x1_z]; exact ms_205 h12_y (by omega) (by omega)
      refine ok_chk (by omega) ?_
      refine ok_lt (fun S7x1_z eS7x1_z => ?_)
      have h14_y : MX 1 S7x1_z := by rw [eS7x1_z]; exact ms_208 h13_y (by omega) (by omega)
      refine ok_b1 (ok_M_scan S7x1_z h14_y) (fun S8x1_z h15_y => ?_)
      obtain ⟨h16_y, p17_y⟩ := h15_y
      refine ok_b1 (ok_M_is S8x1_z 4 h16_y (by decide)) (fun r10x1_z h18_y => ?_)
      refine ok_chk (by omega) ?_
      refine ok_chk (by omega) ?_
      refine ok_lt (fun S13x1_z eS13x1_z => ?_)
      have h19_y : MX 1 S13x1_z := by rw [eS13x1_z]; exact ms_207 h16_y (by omega) (by omega)
      refine ok_chk (by omega) ?_
      have b20_y := mx_207 h19_y (v1).toNat
      refine ok_if (fun c21_y => ?_) (fun c21_y => ?_)
      · exact ok_M_readLine_150 v1 S13x1_z h19_y (by omega)
      · refine ok_b1 (ok_M_scan S13x1_z h19_y) (fun S15x1_z h22_y => ?_)
        obtain ⟨h23_y, p24_y⟩ := h22_y
        exact ok_M_readLine_150 v1 S15x1_z h23_y (by omega)
set_option maxHeartbeats 4000000 in
theorem ok_M_readLine (S : SS) (v1 : Int) (hC : MX 1 S) (hp0 : 0 ≤ v1 ∧ v1 ≤ 40) : okk (f_M_readLine S v1) (fun u => MX 1 u.2 ∧ (∀ r, u.1 = some r → v1 < 40)) := by
  unfold f_M_readLine
  refine ok_b1 (ok_M_is S 1 hC (by decide)) (fun r1x1_z h2_y => ?_)
  refine ok_if (fun c3_y => ?_) (fun c3_y => ?_)
  · refine ok_b1 (ok_M_is S 2 hC (by decide)) (fun r3x1_z h4_y => ?_)
    refine ok_if (fun c5_y => ?_) (fun c5_y => ?_)
    · refine ok_b1 (ok_M_is S 3 hC (by decide)) (fun r5x1_z h6_y => ?_)
      refine ok_if (fun c7_y => ?_) (fun c7_y => ?_)
      · exact ok_M_readLine_40 v1 S (-1) hC (by omega) (by omega)
      · exact ok_M_readLine_40 v1 S 2 hC (by omega) (by omega)
    · exact ok_M_readLine_40 v1 S 1 hC (by omega) (by omega)
  · exact ok_M_readLine_40 v1 S 0 hC (by omega) (by omega)
theorem okl_M_marks : ∀ (n : Nat) (S : SS) (v1_ : Int), MX 1 S → (0 ≤ v1_ ∧ v1_ ≤ 40) → 40 - v1_ < (n : Int) → okk (f_M_marks_13 n S v1_) (fun u => MX 0 u.2 ∧ True) := by
  intro n
  induction n with
  | zero => intro S v1_ h hi hm; exfalso; omega
  | succ n ih =>
    intro S v1_ h hi hm
    have hm : 40 - v1_ < (n : Int) + 1 := by omega
    show okk (f_M_marks_13_b (f_M_marks_13 n) S v1_) _
    unfold f_M_marks_13_b
    have b27 := mx_192_27 h
    refine ok_if (fun _ => ok_chk (by omega) (ok_lt (fun S4 e4 => ok_some ⟨?_, trivial⟩))) (fun _ => ok_b3 (ok_M_readLine S v1_ h (by omega)) (fun S7 h7 => ok_some ⟨h7.1.weak, trivial⟩) (fun r S6 h6 => ?_))
    · show MX 0 S4
      rw [e4]; exact ms_192_27 h.weak (by omega) (by omega)
    · have p6 := h6.2 _ rfl
      exact ok_chk (by omega) (ih S6 (v1_ + 1) h6.1 (by omega) (by omega))
theorem ok_M_marks (S : SS) (hC : MX 0 S) : okk (f_M_marks S) (fun u => MX 0 u.2 ∧ True) := by
  have h1 := mx_M_begin hC
  have b27 := mx_192_27 h1
  unfold f_M_marks
  refine ok_lt (fun S1 e1 => ?_)
  rw [← e1] at h1 b27
  refine ok_b1 (ok_M_scan S1 h1) (fun S4 h4 => ?_)
  exact okl_M_marks FU S4 _ h4.1 (by omega) (by unfold FU; omega)
