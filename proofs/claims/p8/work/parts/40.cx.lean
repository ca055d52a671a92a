/-! the functions give an answer: rules; the class's state between its steps -/
def okk {α : Type} (x : Option α) (P : α → Prop) : Prop := ∃ r, x = some r ∧ P r
theorem ok_some {α : Type} {P : α → Prop} {r : α} (h : P r) : okk (some r) P := ⟨r, rfl, h⟩
theorem ok_chk {α : Type} {P : α → Prop} {c : Prop} [Decidable c] {x : Option α} (hc : c) (h : okk x P) : okk (w_chk c x) P := by rw [w_chkP hc]; exact h
theorem ok_lt {α β : Type} {P : β → Prop} {x : α} {k : α → Option β} (h : ∀ y, y = x → okk (k y) P) : okk (w_lt x k) P := h x rfl
theorem ok_if {α : Type} {P : α → Prop} {c : Prop} [Decidable c] {x y : Option α} (h1 : c → okk x P) (h2 : ¬ c → okk y P) : okk (if c then x else y) P := by
  by_cases hc : c
  · rw [if_pos hc]; exact h1 hc
  · rw [if_neg hc]; exact h2 hc
theorem ok_b1 {α β : Type} {R : α → Prop} {P : β → Prop} {x : Option α} {k : α → Option β} (h : okk x R) (hk : ∀ a, R a → okk (k a) P) : okk (w_b1 x k) P := by
  obtain ⟨a, rfl, ha⟩ := h
  exact hk a ha
theorem ok_b2 {α σ β : Type} {R : α × σ → Prop} {P : β → Prop} {x : Option (α × σ)} {k : α → σ → Option β} (h : okk x R) (hk : ∀ a t, R (a, t) → okk (k a t) P) : okk (w_b2 x k) P := by
  obtain ⟨⟨a, t⟩, rfl, ha⟩ := h
  exact hk a t ha
theorem ok_b3 {α σ β : Type} {R : Option α × σ → Prop} {P : β → Prop} {x : Option (Option α × σ)} {t : σ → Option β} {k : α → σ → Option β} (h : okk x R) (ht : ∀ s, R (none, s) → okk (t s) P) (hk : ∀ a s, R (some a, s) → okk (k a s) P) : okk (w_b3 x t k) P := by
  obtain ⟨⟨o, s⟩, rfl, ha⟩ := h
  cases o with
  | none => exact ht s ha
  | some a => exact hk a s ha
theorem ok_on {β : Type} {P : β → Prop} {o : Option Nat} {x : Option β} {k : Nat → Option β} (h1 : o = none → okk x P) (h2 : ∀ j, o = some j → okk (k j) P) : okk (w_on o x k) P := by
  cases o with
  | none => exact h1 rfl
  | some j => exact h2 j rfl
theorem ok_mono {α : Type} {P R : α → Prop} {x : Option α} (h : okk x P) (hp : ∀ r, P r → R r) : okk x R := by
  obtain ⟨r, e, h⟩ := h
  exact ⟨r, e, hp r h⟩
theorem cap_le (q : Nat) : 6 ≤ cap q ∧ cap q ≤ 300 := by
  unfold cap
  repeat' split
  all_goals omega
theorem gq_sq (S : SS) (r k r' k' : Nat) (v : Option Nat) : gq (sq S r k v) r' k' = if r' = r ∧ k' = k then v else gq S r' k' := by
  unfold gq sq
  by_cases h : r' = r
  · subst h
    by_cases h2 : k' = k
    · simp [up2, h2]
    · simp [up2, h2]
  · simp [up2, h]
theorem gi_ne {S S1 : SS} {r k r' k' : Nat} {v : Int} (e : S1 = si S r k v) (h : ¬ (r' = r ∧ k' = k)) : gi S1 r' k' = gi S r' k' := by rw [e, gi_si, if_neg h]
theorem gi_eq {S S1 : SS} {r k : Nat} {v : Int} (e : S1 = si S r k v) : gi S1 r k = v := by rw [e, gi_si, if_pos ⟨rfl, rfl⟩]
theorem gi_sl {S S1 : SS} {r k r' k' : Nat} {v : Int64} (e : S1 = sl S r k v) : gi S1 r' k' = gi S r' k' := by rw [e]; rfl
theorem gi_sq {S S1 : SS} {r k r' k' : Nat} {v : Option Nat} (e : S1 = sq S r k v) : gi S1 r' k' = gi S r' k' := by rw [e]; rfl
def loB (r k : Nat) : Int := (if shOk r then (if k = 1 then 0 else (-2147483648)) else if 14 ≤ r ∧ r < 174 ∧ (r - 14) % 4 = 0 then (if k = 2 then -1 else if k = 3 then 0 else if k = 4 then -1 else if k = 5 then -1 else if k = 6 then -1 else if k = 7 then 0 else if k = 8 then 0 else if k = 9 then 0 else (-2147483648)) else if 14 ≤ r ∧ r < 174 ∧ (r - 14) % 4 = 1 then -1 else if r = 1 then (if k = 1 then 0 else (-2147483648)) else if r = 10 then (if k = 3 then 0 else if k = 4 then 0 else if k = 5 then 0 else (-2147483648)) else if r = 177 then (if k = 3 then 0 else if k = 4 then 0 else if k = 5 then 0 else (-2147483648)) else if r = 178 then (if k = 2 then 0 else (-2147483648)) else if r = 183 then (if k = 5 then 1 else if k = 6 then 1 else if k = 7 then 0 else if k = 8 then 0 else if k = 9 then 0 else if k = 10 then 0 else if k = 11 then 0 else (-2147483648)) else if r = 180 then 0 else if r = 182 then 0 else if r = 191 then 0 else (-2147483648))
def hiB (r k : Nat) : Int := (if shOk r then (if k = 1 then cap r else 2147483647) else if 14 ≤ r ∧ r < 174 ∧ (r - 14) % 4 = 0 then (if k = 2 then 5 else if k = 3 then 2 else if k = 4 then 999 else if k = 5 then 999 else if k = 6 then 999 else if k = 7 then 1 else if k = 8 then 1 else if k = 9 then 1 else 2147483647) else if 14 ≤ r ∧ r < 174 ∧ (r - 14) % 4 = 1 then 999 else if r = 1 then (if k = 1 then 2000 else 2147483647) else if r = 10 then (if k = 3 then 40 else if k = 4 then 40 else if k = 5 then 40 else 2147483647) else if r = 177 then (if k = 3 then 60 else if k = 4 then 2000 else if k = 5 then 2000 else 2147483647) else if r = 178 then (if k = 2 then 40 else 2147483647) else if r = 183 then (if k = 5 then 9 else if k = 6 then 9 else if k = 7 then 1 else if k = 8 then 255 else if k = 9 then 8 else if k = 10 then 400 else if k = 11 then 150 else 2147483647) else if r = 180 then 1 else if r = 182 then 2147483647 else if r = 191 then 999 else 2147483647)
def CX (b : Nat) (S : SS) : Prop := (∀ r k, loB r k ≤ gi S r k ∧ gi S r k ≤ hiB r k) ∧ (∀ k, k < 40 → gq S 11 k = some k) ∧ (∀ k j, gq S 179 k = some j → j < 40) ∧ (∀ k q, gq S 178 k = some q → shOk q) ∧ (b = 1 → gq S 178 3 ≠ none ∧ gq S 178 4 ≠ none) ∧ (2 ≤ b → (gq S 177 0 = some 1 ∧ gq S 177 1 = some 10 ∧ gq S 177 2 = some 3) ∧ gi S 10 3 + gi S 10 4 = (b : Int) - 2)
theorem CX.set {b : Nat} {S : SS} (h : CX b S) {r k : Nat} {v : Int} (h1 : loB r k ≤ v) (h2 : v ≤ hiB r k) (hn : b < 2 ∨ ¬ (r = 10 ∧ (k = 3 ∨ k = 4))) : CX b (si S r k v) := by
  refine ⟨fun r' k' => ?_, h.2.1, h.2.2.1, h.2.2.2.1, h.2.2.2.2.1, fun hb => ⟨(h.2.2.2.2.2 hb).1, ?_⟩⟩
  · rw [gi_si]
    by_cases e : r' = r ∧ k' = k
    · rw [if_pos e, e.1, e.2]; exact ⟨h1, h2⟩
    · rw [if_neg e]; exact h.1 r' k'
  · rw [gi_si, gi_si, if_neg (by omega), if_neg (by omega)]; exact (h.2.2.2.2.2 hb).2
theorem cs_sl {b : Nat} {S : SS} (h : CX b S) {r k : Nat} {v : Int64} : CX b (sl S r k v) := h
theorem cs_q179 {b : Nat} {S : SS} (h : CX b S) {k j : Nat} (hj : j < 40) : CX b (sq S 179 k (some j)) := by
  refine ⟨h.1, fun k' hk => ?_, fun k' j' e => ?_, fun k' q e => ?_, fun hb => ?_, fun hb => ?_⟩
  · rw [gq_sq, if_neg (by omega)]; exact h.2.1 k' hk
  · rw [gq_sq] at e
    by_cases q : 179 = 179 ∧ k' = k
    · rw [if_pos q] at e; cases e; exact hj
    · rw [if_neg q] at e; exact h.2.2.1 k' j' e
  · rw [gq_sq, if_neg (by omega)] at e; exact h.2.2.2.1 k' q e
  · rw [gq_sq, gq_sq, if_neg (by omega), if_neg (by omega)]; exact h.2.2.2.2.1 hb
  · rw [gq_sq, gq_sq, gq_sq, if_neg (by omega), if_neg (by omega), if_neg (by omega)]; exact h.2.2.2.2.2 hb
theorem cs_q178 {b : Nat} {S : SS} (h : CX b S) {k j : Nat} (hj : shOk j) : CX b (sq S 178 k (some j)) := by
  refine ⟨h.1, fun k' hk => ?_, fun k' j' e => ?_, fun k' q e => ?_, fun hb => ?_, fun hb => ?_⟩
  · rw [gq_sq, if_neg (by omega)]; exact h.2.1 k' hk
  · rw [gq_sq, if_neg (by omega)] at e; exact h.2.2.1 k' j' e
  · rw [gq_sq] at e
    by_cases q2 : 178 = 178 ∧ k' = k
    · rw [if_pos q2] at e; cases e; exact hj
    · rw [if_neg q2] at e; exact h.2.2.2.1 k' q e
  · have h5 := h.2.2.2.2.1 hb
    constructor
    · rw [gq_sq]; split
      · exact fun q => nomatch q
      · exact h5.1
    · rw [gq_sq]; split
      · exact fun q => nomatch q
      · exact h5.2
  · rw [gq_sq, gq_sq, gq_sq, if_neg (by omega), if_neg (by omega), if_neg (by omega)]; exact h.2.2.2.2.2 hb
theorem cs_q177 {b : Nat} {S : SS} (h : CX b S) (hn : b < 2) {k : Nat} {v : Option Nat} : CX b (sq S 177 k v) := by
  refine ⟨h.1, fun k' hk => ?_, fun k' j' e => ?_, fun k' q e => ?_, fun hb => ?_, fun hb => absurd hb (by omega)⟩
  · rw [gq_sq, if_neg (by omega)]; exact h.2.1 k' hk
  · rw [gq_sq, if_neg (by omega)] at e; exact h.2.2.1 k' j' e
  · rw [gq_sq, if_neg (by omega)] at e; exact h.2.2.2.1 k' q e
  · rw [gq_sq, gq_sq, if_neg (by omega), if_neg (by omega)]; exact h.2.2.2.2.1 hb
theorem CX.weak {b : Nat} {S : SS} (h : CX b S) : CX 0 S := ⟨h.1, h.2.1, h.2.2.1, h.2.2.2.1, fun hb => absurd hb (by decide), fun hb => absurd hb (by decide)⟩
theorem CX.one {S : SS} (h : CX 0 S) (h3 : gq S 178 3 ≠ none) (h4 : gq S 178 4 ≠ none) : CX 1 S := ⟨h.1, h.2.1, h.2.2.1, h.2.2.2.1, fun _ => ⟨h3, h4⟩, fun hb => absurd hb (by decide)⟩
theorem CX.two {S : SS} {t : Nat} (h : CX 0 S) (h3 : gq S 177 0 = some 1 ∧ gq S 177 1 = some 10 ∧ gq S 177 2 = some 3) (h4 : gi S 10 3 + gi S 10 4 = (t : Int)) : CX (t + 2) S := ⟨h.1, h.2.1, h.2.2.1, h.2.2.2.1, fun hb => absurd hb (by omega), fun _ => ⟨h3, by omega⟩⟩
theorem cx_n {S : SS} (h : CX 1 S) : gq S 178 3 ≠ none ∧ gq S 178 4 ≠ none := h.2.2.2.2.1 rfl
theorem lo_sh {q : Nat} (hq : shOk q) : loB q 1 = 0 ∧ hiB q 1 = cap q := by unfold loB hiB; rw [if_pos hq, if_pos hq]; exact ⟨rfl, rfl⟩
theorem cx_sh {b : Nat} {S : SS} (h : CX b S) {q : Nat} (hq : shOk q) : 0 ≤ gi S q 1 ∧ gi S q 1 ≤ cap q ∧ 6 ≤ cap q ∧ cap q ≤ 300 := by
  have h1 := h.1 q 1
  rw [(lo_sh hq).1, (lo_sh hq).2] at h1
  exact ⟨h1.1, h1.2, cap_le q⟩
theorem cs_sh {b : Nat} {S : SS} (h : CX b S) {q : Nat} (hq : shOk q) {v : Int} (h1 : 0 ≤ v) (h2 : v ≤ cap q) : CX b (si S q 1 v) := h.set (by rw [(lo_sh hq).1]; exact h1) (by rw [(lo_sh hq).2]; exact h2) (.inr (by omega))
theorem lo_nm {j : Nat} (hj : j < 40) (k : Nat) : loB (14 + 4 * j + 1) k = -1 ∧ hiB (14 + 4 * j + 1) k = 999 := by
  have h1 : ¬ shOk (14 + 4 * j + 1) := by omega
  have h2 : ¬ (14 ≤ 14 + 4 * j + 1 ∧ 14 + 4 * j + 1 < 174 ∧ (14 + 4 * j + 1 - 14) % 4 = 0) := by omega
  have h3 : 14 ≤ 14 + 4 * j + 1 ∧ 14 + 4 * j + 1 < 174 ∧ (14 + 4 * j + 1 - 14) % 4 = 1 := by omega
  constructor
  · unfold loB; rw [if_neg h1, if_neg h2, if_pos h3]
  · unfold hiB; rw [if_neg h1, if_neg h2, if_pos h3]
theorem cx_nm {b : Nat} {S : SS} (h : CX b S) {j : Nat} (hj : j < 40) (k : Nat) : -1 ≤ gi S (14 + 4 * j + 1) k ∧ gi S (14 + 4 * j + 1) k ≤ 999 := by
  have h1 := h.1 (14 + 4 * j + 1) k
  rw [(lo_nm hj k).1, (lo_nm hj k).2] at h1
  exact h1
theorem cs_nm {b : Nat} {S : SS} (h : CX b S) {j : Nat} (hj : j < 40) {k : Nat} {v : Int} (h1 : -1 ≤ v) (h2 : v ≤ 999) : CX b (si S (14 + 4 * j + 1) k v) := h.set (by rw [(lo_nm hj k).1]; exact h1) (by rw [(lo_nm hj k).2]; exact h2) (.inr (by omega))
theorem lo_mk_2 {j : Nat} (hj : j < 40) : loB (14 + 4 * j) 2 = -1 ∧ hiB (14 + 4 * j) 2 = 5 := by
  have h1 : ¬ shOk (14 + 4 * j) := by omega
  have h2 : 14 ≤ 14 + 4 * j ∧ 14 + 4 * j < 174 ∧ (14 + 4 * j - 14) % 4 = 0 := by omega
  constructor
  · unfold loB; rw [if_neg h1, if_pos h2]; rfl
  · unfold hiB; rw [if_neg h1, if_pos h2]; rfl
theorem cx_mk_2 {b : Nat} {S : SS} (h : CX b S) {j : Nat} (hj : j < 40) : -1 ≤ gi S (14 + 4 * j) 2 ∧ gi S (14 + 4 * j) 2 ≤ 5 := by
  have h1 := h.1 (14 + 4 * j) 2
  rw [(lo_mk_2 hj).1, (lo_mk_2 hj).2] at h1
  exact h1
theorem cs_mk_2 {b : Nat} {S : SS} (h : CX b S) {j : Nat} (hj : j < 40) {v : Int} (h1 : -1 ≤ v) (h2 : v ≤ 5) : CX b (si S (14 + 4 * j) 2 v) := h.set (by rw [(lo_mk_2 hj).1]; exact h1) (by rw [(lo_mk_2 hj).2]; exact h2) (.inr (by omega))
theorem lo_mk_3 {j : Nat} (hj : j < 40) : loB (14 + 4 * j) 3 = 0 ∧ hiB (14 + 4 * j) 3 = 2 := by
  have h1 : ¬ shOk (14 + 4 * j) := by omega
  have h2 : 14 ≤ 14 + 4 * j ∧ 14 + 4 * j < 174 ∧ (14 + 4 * j - 14) % 4 = 0 := by omega
  constructor
  · unfold loB; rw [if_neg h1, if_pos h2]; rfl
  · unfold hiB; rw [if_neg h1, if_pos h2]; rfl
theorem cx_mk_3 {b : Nat} {S : SS} (h : CX b S) {j : Nat} (hj : j < 40) : 0 ≤ gi S (14 + 4 * j) 3 ∧ gi S (14 + 4 * j) 3 ≤ 2 := by
  have h1 := h.1 (14 + 4 * j) 3
  rw [(lo_mk_3 hj).1, (lo_mk_3 hj).2] at h1
  exact h1
theorem cs_mk_3 {b : Nat} {S : SS} (h : CX b S) {j : Nat} (hj : j < 40) {v : Int} (h1 : 0 ≤ v) (h2 : v ≤ 2) : CX b (si S (14 + 4 * j) 3 v) := h.set (by rw [(lo_mk_3 hj).1]; exact h1) (by rw [(lo_mk_3 hj).2]; exact h2) (.inr (by omega))
theorem lo_mk_4 {j : Nat} (hj : j < 40) : loB (14 + 4 * j) 4 = -1 ∧ hiB (14 + 4 * j) 4 = 999 := by
  have h1 : ¬ shOk (14 + 4 * j) := by omega
  have h2 : 14 ≤ 14 + 4 * j ∧ 14 + 4 * j < 174 ∧ (14 + 4 * j - 14) % 4 = 0 := by omega
  constructor
  · unfold loB; rw [if_neg h1, if_pos h2]; rfl
  · unfold hiB; rw [if_neg h1, if_pos h2]; rfl
theorem cx_mk_4 {b : Nat} {S : SS} (h : CX b S) {j : Nat} (hj : j < 40) : -1 ≤ gi S (14 + 4 * j) 4 ∧ gi S (14 + 4 * j) 4 ≤ 999 := by
  have h1 := h.1 (14 + 4 * j) 4
  rw [(lo_mk_4 hj).1, (lo_mk_4 hj).2] at h1
  exact h1
theorem cs_mk_4 {b : Nat} {S : SS} (h : CX b S) {j : Nat} (hj : j < 40) {v : Int} (h1 : -1 ≤ v) (h2 : v ≤ 999) : CX b (si S (14 + 4 * j) 4 v) := h.set (by rw [(lo_mk_4 hj).1]; exact h1) (by rw [(lo_mk_4 hj).2]; exact h2) (.inr (by omega))
theorem lo_mk_5 {j : Nat} (hj : j < 40) : loB (14 + 4 * j) 5 = -1 ∧ hiB (14 + 4 * j) 5 = 999 := by
  have h1 : ¬ shOk (14 + 4 * j) := by omega
  have h2 : 14 ≤ 14 + 4 * j ∧ 14 + 4 * j < 174 ∧ (14 + 4 * j - 14) % 4 = 0 := by omega
  constructor
  · unfold loB; rw [if_neg h1, if_pos h2]; rfl
  · unfold hiB; rw [if_neg h1, if_pos h2]; rfl
theorem cx_mk_5 {b : Nat} {S : SS} (h : CX b S) {j : Nat} (hj : j < 40) : -1 ≤ gi S (14 + 4 * j) 5 ∧ gi S (14 + 4 * j) 5 ≤ 999 := by
  have h1 := h.1 (14 + 4 * j) 5
  rw [(lo_mk_5 hj).1, (lo_mk_5 hj).2] at h1
  exact h1
theorem cs_mk_5 {b : Nat} {S : SS} (h : CX b S) {j : Nat} (hj : j < 40) {v : Int} (h1 : -1 ≤ v) (h2 : v ≤ 999) : CX b (si S (14 + 4 * j) 5 v) := h.set (by rw [(lo_mk_5 hj).1]; exact h1) (by rw [(lo_mk_5 hj).2]; exact h2) (.inr (by omega))
theorem lo_mk_6 {j : Nat} (hj : j < 40) : loB (14 + 4 * j) 6 = -1 ∧ hiB (14 + 4 * j) 6 = 999 := by
  have h1 : ¬ shOk (14 + 4 * j) := by omega
  have h2 : 14 ≤ 14 + 4 * j ∧ 14 + 4 * j < 174 ∧ (14 + 4 * j - 14) % 4 = 0 := by omega
  constructor
  · unfold loB; rw [if_neg h1, if_pos h2]; rfl
  · unfold hiB; rw [if_neg h1, if_pos h2]; rfl
theorem cx_mk_6 {b : Nat} {S : SS} (h : CX b S) {j : Nat} (hj : j < 40) : -1 ≤ gi S (14 + 4 * j) 6 ∧ gi S (14 + 4 * j) 6 ≤ 999 := by
  have h1 := h.1 (14 + 4 * j) 6
  rw [(lo_mk_6 hj).1, (lo_mk_6 hj).2] at h1
  exact h1
theorem cs_mk_6 {b : Nat} {S : SS} (h : CX b S) {j : Nat} (hj : j < 40) {v : Int} (h1 : -1 ≤ v) (h2 : v ≤ 999) : CX b (si S (14 + 4 * j) 6 v) := h.set (by rw [(lo_mk_6 hj).1]; exact h1) (by rw [(lo_mk_6 hj).2]; exact h2) (.inr (by omega))
theorem lo_mk_7 {j : Nat} (hj : j < 40) : loB (14 + 4 * j) 7 = 0 ∧ hiB (14 + 4 * j) 7 = 1 := by
  have h1 : ¬ shOk (14 + 4 * j) := by omega
  have h2 : 14 ≤ 14 + 4 * j ∧ 14 + 4 * j < 174 ∧ (14 + 4 * j - 14) % 4 = 0 := by omega
  constructor
  · unfold loB; rw [if_neg h1, if_pos h2]; rfl
  · unfold hiB; rw [if_neg h1, if_pos h2]; rfl
theorem cx_mk_7 {b : Nat} {S : SS} (h : CX b S) {j : Nat} (hj : j < 40) : 0 ≤ gi S (14 + 4 * j) 7 ∧ gi S (14 + 4 * j) 7 ≤ 1 := by
  have h1 := h.1 (14 + 4 * j) 7
  rw [(lo_mk_7 hj).1, (lo_mk_7 hj).2] at h1
  exact h1
theorem cs_mk_7 {b : Nat} {S : SS} (h : CX b S) {j : Nat} (hj : j < 40) {v : Int} (h1 : 0 ≤ v) (h2 : v ≤ 1) : CX b (si S (14 + 4 * j) 7 v) := h.set (by rw [(lo_mk_7 hj).1]; exact h1) (by rw [(lo_mk_7 hj).2]; exact h2) (.inr (by omega))
theorem lo_mk_8 {j : Nat} (hj : j < 40) : loB (14 + 4 * j) 8 = 0 ∧ hiB (14 + 4 * j) 8 = 1 := by
  have h1 : ¬ shOk (14 + 4 * j) := by omega
  have h2 : 14 ≤ 14 + 4 * j ∧ 14 + 4 * j < 174 ∧ (14 + 4 * j - 14) % 4 = 0 := by omega
  constructor
  · unfold loB; rw [if_neg h1, if_pos h2]; rfl
  · unfold hiB; rw [if_neg h1, if_pos h2]; rfl
theorem cx_mk_8 {b : Nat} {S : SS} (h : CX b S) {j : Nat} (hj : j < 40) : 0 ≤ gi S (14 + 4 * j) 8 ∧ gi S (14 + 4 * j) 8 ≤ 1 := by
  have h1 := h.1 (14 + 4 * j) 8
  rw [(lo_mk_8 hj).1, (lo_mk_8 hj).2] at h1
  exact h1
theorem cs_mk_8 {b : Nat} {S : SS} (h : CX b S) {j : Nat} (hj : j < 40) {v : Int} (h1 : 0 ≤ v) (h2 : v ≤ 1) : CX b (si S (14 + 4 * j) 8 v) := h.set (by rw [(lo_mk_8 hj).1]; exact h1) (by rw [(lo_mk_8 hj).2]; exact h2) (.inr (by omega))
theorem lo_mk_9 {j : Nat} (hj : j < 40) : loB (14 + 4 * j) 9 = 0 ∧ hiB (14 + 4 * j) 9 = 1 := by
  have h1 : ¬ shOk (14 + 4 * j) := by omega
  have h2 : 14 ≤ 14 + 4 * j ∧ 14 + 4 * j < 174 ∧ (14 + 4 * j - 14) % 4 = 0 := by omega
  constructor
  · unfold loB; rw [if_neg h1, if_pos h2]; rfl
  · unfold hiB; rw [if_neg h1, if_pos h2]; rfl
theorem cx_mk_9 {b : Nat} {S : SS} (h : CX b S) {j : Nat} (hj : j < 40) : 0 ≤ gi S (14 + 4 * j) 9 ∧ gi S (14 + 4 * j) 9 ≤ 1 := by
  have h1 := h.1 (14 + 4 * j) 9
  rw [(lo_mk_9 hj).1, (lo_mk_9 hj).2] at h1
  exact h1
theorem cs_mk_9 {b : Nat} {S : SS} (h : CX b S) {j : Nat} (hj : j < 40) {v : Int} (h1 : 0 ≤ v) (h2 : v ≤ 1) : CX b (si S (14 + 4 * j) 9 v) := h.set (by rw [(lo_mk_9 hj).1]; exact h1) (by rw [(lo_mk_9 hj).2]; exact h2) (.inr (by omega))
theorem lo_mk_10 {j : Nat} (hj : j < 40) : loB (14 + 4 * j) 10 = (-2147483648) ∧ hiB (14 + 4 * j) 10 = 2147483647 := by
  have h1 : ¬ shOk (14 + 4 * j) := by omega
  have h2 : 14 ≤ 14 + 4 * j ∧ 14 + 4 * j < 174 ∧ (14 + 4 * j - 14) % 4 = 0 := by omega
  constructor
  · unfold loB; rw [if_neg h1, if_pos h2]; rfl
  · unfold hiB; rw [if_neg h1, if_pos h2]; rfl
theorem cx_mk_10 {b : Nat} {S : SS} (h : CX b S) {j : Nat} (hj : j < 40) : (-2147483648) ≤ gi S (14 + 4 * j) 10 ∧ gi S (14 + 4 * j) 10 ≤ 2147483647 := by
  have h1 := h.1 (14 + 4 * j) 10
  rw [(lo_mk_10 hj).1, (lo_mk_10 hj).2] at h1
  exact h1
theorem cs_mk_10 {b : Nat} {S : SS} (h : CX b S) {j : Nat} (hj : j < 40) {v : Int} (h1 : (-2147483648) ≤ v) (h2 : v ≤ 2147483647) : CX b (si S (14 + 4 * j) 10 v) := h.set (by rw [(lo_mk_10 hj).1]; exact h1) (by rw [(lo_mk_10 hj).2]; exact h2) (.inr (by omega))
theorem lo_mk_11 {j : Nat} (hj : j < 40) : loB (14 + 4 * j) 11 = (-2147483648) ∧ hiB (14 + 4 * j) 11 = 2147483647 := by
  have h1 : ¬ shOk (14 + 4 * j) := by omega
  have h2 : 14 ≤ 14 + 4 * j ∧ 14 + 4 * j < 174 ∧ (14 + 4 * j - 14) % 4 = 0 := by omega
  constructor
  · unfold loB; rw [if_neg h1, if_pos h2]; rfl
  · unfold hiB; rw [if_neg h1, if_pos h2]; rfl
theorem cx_mk_11 {b : Nat} {S : SS} (h : CX b S) {j : Nat} (hj : j < 40) : (-2147483648) ≤ gi S (14 + 4 * j) 11 ∧ gi S (14 + 4 * j) 11 ≤ 2147483647 := by
  have h1 := h.1 (14 + 4 * j) 11
  rw [(lo_mk_11 hj).1, (lo_mk_11 hj).2] at h1
  exact h1
theorem cs_mk_11 {b : Nat} {S : SS} (h : CX b S) {j : Nat} (hj : j < 40) {v : Int} (h1 : (-2147483648) ≤ v) (h2 : v ≤ 2147483647) : CX b (si S (14 + 4 * j) 11 v) := h.set (by rw [(lo_mk_11 hj).1]; exact h1) (by rw [(lo_mk_11 hj).2]; exact h2) (.inr (by omega))
theorem lo_mk_12 {j : Nat} (hj : j < 40) : loB (14 + 4 * j) 12 = (-2147483648) ∧ hiB (14 + 4 * j) 12 = 2147483647 := by
  have h1 : ¬ shOk (14 + 4 * j) := by omega
  have h2 : 14 ≤ 14 + 4 * j ∧ 14 + 4 * j < 174 ∧ (14 + 4 * j - 14) % 4 = 0 := by omega
  constructor
  · unfold loB; rw [if_neg h1, if_pos h2]; rfl
  · unfold hiB; rw [if_neg h1, if_pos h2]; rfl
theorem cx_mk_12 {b : Nat} {S : SS} (h : CX b S) {j : Nat} (hj : j < 40) : (-2147483648) ≤ gi S (14 + 4 * j) 12 ∧ gi S (14 + 4 * j) 12 ≤ 2147483647 := by
  have h1 := h.1 (14 + 4 * j) 12
  rw [(lo_mk_12 hj).1, (lo_mk_12 hj).2] at h1
  exact h1
theorem cs_mk_12 {b : Nat} {S : SS} (h : CX b S) {j : Nat} (hj : j < 40) {v : Int} (h1 : (-2147483648) ≤ v) (h2 : v ≤ 2147483647) : CX b (si S (14 + 4 * j) 12 v) := h.set (by rw [(lo_mk_12 hj).1]; exact h1) (by rw [(lo_mk_12 hj).2]; exact h2) (.inr (by omega))
theorem cx_1_1 {b : Nat} {S : SS} (h : CX b S) : 0 ≤ gi S 1 1 ∧ gi S 1 1 ≤ 2000 := h.1 1 1
theorem cs_1_1 {b : Nat} {S : SS} (h : CX b S) {v : Int} (h1 : 0 ≤ v) (h2 : v ≤ 2000) : CX b (si S 1 1 v) := h.set h1 h2 (.inr (by omega))
theorem cx_10_3 {b : Nat} {S : SS} (h : CX b S) : 0 ≤ gi S 10 3 ∧ gi S 10 3 ≤ 40 := h.1 10 3
theorem cs_10_3 {b : Nat} {S : SS} (h : CX b S) (hn : b < 2) {v : Int} (h1 : 0 ≤ v) (h2 : v ≤ 40) : CX b (si S 10 3 v) := h.set h1 h2 (.inl hn)
theorem cx_10_4 {b : Nat} {S : SS} (h : CX b S) : 0 ≤ gi S 10 4 ∧ gi S 10 4 ≤ 40 := h.1 10 4
theorem cs_10_4 {b : Nat} {S : SS} (h : CX b S) (hn : b < 2) {v : Int} (h1 : 0 ≤ v) (h2 : v ≤ 40) : CX b (si S 10 4 v) := h.set h1 h2 (.inl hn)
theorem cx_10_5 {b : Nat} {S : SS} (h : CX b S) : 0 ≤ gi S 10 5 ∧ gi S 10 5 ≤ 40 := h.1 10 5
theorem cs_10_5 {b : Nat} {S : SS} (h : CX b S) {v : Int} (h1 : 0 ≤ v) (h2 : v ≤ 40) : CX b (si S 10 5 v) := h.set h1 h2 (.inr (by omega))
theorem cx_177_3 {b : Nat} {S : SS} (h : CX b S) : 0 ≤ gi S 177 3 ∧ gi S 177 3 ≤ 60 := h.1 177 3
theorem cs_177_3 {b : Nat} {S : SS} (h : CX b S) {v : Int} (h1 : 0 ≤ v) (h2 : v ≤ 60) : CX b (si S 177 3 v) := h.set h1 h2 (.inr (by omega))
theorem cx_177_4 {b : Nat} {S : SS} (h : CX b S) : 0 ≤ gi S 177 4 ∧ gi S 177 4 ≤ 2000 := h.1 177 4
theorem cs_177_4 {b : Nat} {S : SS} (h : CX b S) {v : Int} (h1 : 0 ≤ v) (h2 : v ≤ 2000) : CX b (si S 177 4 v) := h.set h1 h2 (.inr (by omega))
theorem cx_177_5 {b : Nat} {S : SS} (h : CX b S) : 0 ≤ gi S 177 5 ∧ gi S 177 5 ≤ 2000 := h.1 177 5
theorem cs_177_5 {b : Nat} {S : SS} (h : CX b S) {v : Int} (h1 : 0 ≤ v) (h2 : v ≤ 2000) : CX b (si S 177 5 v) := h.set h1 h2 (.inr (by omega))
theorem cx_178_2 {b : Nat} {S : SS} (h : CX b S) : 0 ≤ gi S 178 2 ∧ gi S 178 2 ≤ 40 := h.1 178 2
theorem cs_178_2 {b : Nat} {S : SS} (h : CX b S) {v : Int} (h1 : 0 ≤ v) (h2 : v ≤ 40) : CX b (si S 178 2 v) := h.set h1 h2 (.inr (by omega))
theorem cx_183_5 {b : Nat} {S : SS} (h : CX b S) : 1 ≤ gi S 183 5 ∧ gi S 183 5 ≤ 9 := h.1 183 5
theorem cs_183_5 {b : Nat} {S : SS} (h : CX b S) {v : Int} (h1 : 1 ≤ v) (h2 : v ≤ 9) : CX b (si S 183 5 v) := h.set h1 h2 (.inr (by omega))
theorem cx_183_6 {b : Nat} {S : SS} (h : CX b S) : 1 ≤ gi S 183 6 ∧ gi S 183 6 ≤ 9 := h.1 183 6
theorem cs_183_6 {b : Nat} {S : SS} (h : CX b S) {v : Int} (h1 : 1 ≤ v) (h2 : v ≤ 9) : CX b (si S 183 6 v) := h.set h1 h2 (.inr (by omega))
theorem cx_183_7 {b : Nat} {S : SS} (h : CX b S) : 0 ≤ gi S 183 7 ∧ gi S 183 7 ≤ 1 := h.1 183 7
theorem cs_183_7 {b : Nat} {S : SS} (h : CX b S) {v : Int} (h1 : 0 ≤ v) (h2 : v ≤ 1) : CX b (si S 183 7 v) := h.set h1 h2 (.inr (by omega))
theorem cx_183_8 {b : Nat} {S : SS} (h : CX b S) : 0 ≤ gi S 183 8 ∧ gi S 183 8 ≤ 255 := h.1 183 8
theorem cs_183_8 {b : Nat} {S : SS} (h : CX b S) {v : Int} (h1 : 0 ≤ v) (h2 : v ≤ 255) : CX b (si S 183 8 v) := h.set h1 h2 (.inr (by omega))
theorem cx_183_9 {b : Nat} {S : SS} (h : CX b S) : 0 ≤ gi S 183 9 ∧ gi S 183 9 ≤ 8 := h.1 183 9
theorem cs_183_9 {b : Nat} {S : SS} (h : CX b S) {v : Int} (h1 : 0 ≤ v) (h2 : v ≤ 8) : CX b (si S 183 9 v) := h.set h1 h2 (.inr (by omega))
theorem cx_183_10 {b : Nat} {S : SS} (h : CX b S) : 0 ≤ gi S 183 10 ∧ gi S 183 10 ≤ 400 := h.1 183 10
theorem cs_183_10 {b : Nat} {S : SS} (h : CX b S) {v : Int} (h1 : 0 ≤ v) (h2 : v ≤ 400) : CX b (si S 183 10 v) := h.set h1 h2 (.inr (by omega))
theorem cx_183_11 {b : Nat} {S : SS} (h : CX b S) : 0 ≤ gi S 183 11 ∧ gi S 183 11 ≤ 150 := h.1 183 11
theorem cs_183_11 {b : Nat} {S : SS} (h : CX b S) {v : Int} (h1 : 0 ≤ v) (h2 : v ≤ 150) : CX b (si S 183 11 v) := h.set h1 h2 (.inr (by omega))
theorem cx_180 {b : Nat} {S : SS} (h : CX b S) (k : Nat) : 0 ≤ gi S 180 k ∧ gi S 180 k ≤ 1 := h.1 180 k
theorem cs_180 {b : Nat} {S : SS} (h : CX b S) {k : Nat} {v : Int} (h1 : 0 ≤ v) (h2 : v ≤ 1) : CX b (si S 180 k v) := h.set h1 h2 (.inr (by omega))
theorem cx_182 {b : Nat} {S : SS} (h : CX b S) (k : Nat) : 0 ≤ gi S 182 k ∧ gi S 182 k ≤ 2147483647 := h.1 182 k
theorem cs_182 {b : Nat} {S : SS} (h : CX b S) {k : Nat} {v : Int} (h1 : 0 ≤ v) (h2 : v ≤ 2147483647) : CX b (si S 182 k v) := h.set h1 h2 (.inr (by omega))
theorem cx_191 {b : Nat} {S : SS} (h : CX b S) (k : Nat) : 0 ≤ gi S 191 k ∧ gi S 191 k ≤ 999 := h.1 191 k
theorem cs_191 {b : Nat} {S : SS} (h : CX b S) {k : Nat} {v : Int} (h1 : 0 ≤ v) (h2 : v ≤ 999) : CX b (si S 191 k v) := h.set h1 h2 (.inr (by omega))
theorem cx_2 {b : Nat} {S : SS} (h : CX b S) (k : Nat) : (-2147483648) ≤ gi S 2 k ∧ gi S 2 k ≤ 2147483647 := h.1 2 k
theorem cs_2 {b : Nat} {S : SS} (h : CX b S) {k : Nat} {v : Int} (h1 : (-2147483648) ≤ v) (h2 : v ≤ 2147483647) : CX b (si S 2 k v) := h.set h1 h2 (.inr (by omega))
theorem cx_3 {b : Nat} {S : SS} (h : CX b S) (k : Nat) : (-2147483648) ≤ gi S 3 k ∧ gi S 3 k ≤ 2147483647 := h.1 3 k
theorem cs_3 {b : Nat} {S : SS} (h : CX b S) {k : Nat} {v : Int} (h1 : (-2147483648) ≤ v) (h2 : v ≤ 2147483647) : CX b (si S 3 k v) := h.set h1 h2 (.inr (by omega))
theorem cx_12 {b : Nat} {S : SS} (h : CX b S) (k : Nat) : (-2147483648) ≤ gi S 12 k ∧ gi S 12 k ≤ 2147483647 := h.1 12 k
theorem cs_12 {b : Nat} {S : SS} (h : CX b S) {k : Nat} {v : Int} (h1 : (-2147483648) ≤ v) (h2 : v ≤ 2147483647) : CX b (si S 12 k v) := h.set h1 h2 (.inr (by omega))
theorem cx_13 {b : Nat} {S : SS} (h : CX b S) (k : Nat) : (-2147483648) ≤ gi S 13 k ∧ gi S 13 k ≤ 2147483647 := h.1 13 k
theorem cs_13 {b : Nat} {S : SS} (h : CX b S) {k : Nat} {v : Int} (h1 : (-2147483648) ≤ v) (h2 : v ≤ 2147483647) : CX b (si S 13 k v) := h.set h1 h2 (.inr (by omega))
theorem cx_186 {b : Nat} {S : SS} (h : CX b S) (k : Nat) : (-2147483648) ≤ gi S 186 k ∧ gi S 186 k ≤ 2147483647 := h.1 186 k
theorem cs_186 {b : Nat} {S : SS} (h : CX b S) {k : Nat} {v : Int} (h1 : (-2147483648) ≤ v) (h2 : v ≤ 2147483647) : CX b (si S 186 k v) := h.set h1 h2 (.inr (by omega))
theorem cx_187 {b : Nat} {S : SS} (h : CX b S) (k : Nat) : (-2147483648) ≤ gi S 187 k ∧ gi S 187 k ≤ 2147483647 := h.1 187 k
theorem cs_187 {b : Nat} {S : SS} (h : CX b S) {k : Nat} {v : Int} (h1 : (-2147483648) ≤ v) (h2 : v ≤ 2147483647) : CX b (si S 187 k v) := h.set h1 h2 (.inr (by omega))
theorem cx_188 {b : Nat} {S : SS} (h : CX b S) (k : Nat) : (-2147483648) ≤ gi S 188 k ∧ gi S 188 k ≤ 2147483647 := h.1 188 k
theorem cs_188 {b : Nat} {S : SS} (h : CX b S) {k : Nat} {v : Int} (h1 : (-2147483648) ≤ v) (h2 : v ≤ 2147483647) : CX b (si S 188 k v) := h.set h1 h2 (.inr (by omega))
theorem cx_189 {b : Nat} {S : SS} (h : CX b S) (k : Nat) : (-2147483648) ≤ gi S 189 k ∧ gi S 189 k ≤ 2147483647 := h.1 189 k
theorem cs_189 {b : Nat} {S : SS} (h : CX b S) {k : Nat} {v : Int} (h1 : (-2147483648) ≤ v) (h2 : v ≤ 2147483647) : CX b (si S 189 k v) := h.set h1 h2 (.inr (by omega))
theorem cs_177_6 {b : Nat} {S : SS} (h : CX b S) {v : Int} (h1 : (-2147483648) ≤ v) (h2 : v ≤ 2147483647) : CX b (si S 177 6 v) := h.set h1 h2 (.inr (by omega))
theorem iI_rng (r k : Nat) : -1 ≤ iI r k ∧ iI r k ≤ 12 := by
  unfold iI
  repeat' split
  all_goals constructor <;> omega
theorem iI_0 {r k : Nat} (h3 : r ≠ 3) (h12 : r ≠ 12) (h183 : r ≠ 183) (h191 : r ≠ 191) (h : r < 192) : iI r k = 0 := by
  unfold iI
  rw [if_neg h3, if_neg h12, if_neg h183, if_neg h191, if_neg (by omega), if_neg (by omega), if_neg (by omega), if_neg (by omega)]
theorem iI_191 (k : Nat) : 0 ≤ iI 191 k := by
  show (0 : Int) ≤ (if k = 0 then 5 else if k = 1 then 10 else if k = 2 then 10 else if k = 3 then 8 else if k = 4 then 12 else 0)
  repeat' split
  all_goals omega
theorem lo0 {r k : Nat} (h : r ≠ 183) : loB r k ≤ 0 := by
  unfold loB
  repeat' split
  all_goals omega
theorem hi0 {r k : Nat} : 0 ≤ hiB r k := by
  have hc := cap_le r
  unfold hiB
  repeat' split
  all_goals omega
theorem lo192 {r k : Nat} (h : 192 ≤ r) : loB r k = -2147483648 ∧ hiB r k = 2147483647 := by
  have n1 : ¬ shOk r := by omega
  have n2 : ¬ (14 ≤ r ∧ r < 174 ∧ (r - 14) % 4 = 0) := by omega
  have n3 : ¬ (14 ≤ r ∧ r < 174 ∧ (r - 14) % 4 = 1) := by omega
  have a1 : ¬ r = 1 := by omega
  have a2 : ¬ r = 10 := by omega
  have a3 : ¬ r = 177 := by omega
  have a4 : ¬ r = 178 := by omega
  have a5 : ¬ r = 183 := by omega
  have a6 : ¬ r = 180 := by omega
  have a7 : ¬ r = 191 := by omega
  have a8 : ¬ r = 182 := by omega
  constructor
  · unfold loB; rw [if_neg n1, if_neg n2, if_neg n3, if_neg a1, if_neg a2, if_neg a3, if_neg a4, if_neg a5, if_neg a6, if_neg a8, if_neg a7]
  · unfold hiB; rw [if_neg n1, if_neg n2, if_neg n3, if_neg a1, if_neg a2, if_neg a3, if_neg a4, if_neg a5, if_neg a6, if_neg a8, if_neg a7]
theorem CX_183 (k : Nat) : loB 183 k ≤ iI 183 k ∧ iI 183 k ≤ hiB 183 k := by
  constructor
  · show (if k = 5 then (1 : Int) else if k = 6 then 1 else if k = 7 then 0 else if k = 8 then 0 else if k = 9 then 0 else if k = 10 then 0 else if k = 11 then 0 else (-2147483648)) ≤ (if k = 5 then (2 : Int) else if k = 6 then 3 else 0)
    by_cases k5 : k = 5
    · rw [if_pos k5, if_pos k5]; omega
    by_cases k6 : k = 6
    · rw [if_neg k5, if_neg k5, if_pos k6, if_pos k6]; omega
    rw [if_neg k5, if_neg k5, if_neg k6, if_neg k6]
    repeat' split
    all_goals omega
  · show (if k = 5 then (2 : Int) else if k = 6 then 3 else 0) ≤ (if k = 5 then (9 : Int) else if k = 6 then 9 else if k = 7 then 1 else if k = 8 then 255 else if k = 9 then 8 else if k = 10 then 400 else if k = 11 then 150 else 2147483647)
    by_cases k5 : k = 5
    · rw [if_pos k5, if_pos k5]; omega
    by_cases k6 : k = 6
    · rw [if_neg k5, if_neg k5, if_pos k6, if_pos k6]; omega
    rw [if_neg k5, if_neg k5, if_neg k6, if_neg k6]
    repeat' split
    all_goals omega
theorem CX_0 : CX 0 SZ := by
  refine ⟨fun r k => ?_, fun k hk => ?_, fun k j e => ?_, fun k q e => ?_, fun hb => absurd hb (by decide), fun hb => absurd hb (by decide)⟩
  · show loB r k ≤ iI r k ∧ iI r k ≤ hiB r k
    have hr := iI_rng r k
    by_cases h3 : r = 183
    · subst h3; exact CX_183 k
    by_cases h1 : r = 3
    · subst h1; exact ⟨show (-2147483648 : Int) ≤ _ by omega, show _ ≤ (2147483647 : Int) by omega⟩
    by_cases h2 : r = 12
    · subst h2; exact ⟨show (-2147483648 : Int) ≤ _ by omega, show _ ≤ (2147483647 : Int) by omega⟩
    by_cases h4 : r = 191
    · subst h4; exact ⟨show (0 : Int) ≤ _ from iI_191 k, show _ ≤ (999 : Int) by omega⟩
    by_cases h5 : 192 ≤ r
    · rw [(lo192 h5).1, (lo192 h5).2]; omega
    · rw [iI_0 h1 h2 h3 h4 (by omega)]; exact ⟨lo0 h3, hi0⟩
  · show iQ 11 k = some k
    unfold iQ; rw [if_pos rfl, if_pos hk]
  · have : iQ 179 k = none := by unfold iQ; rw [if_neg (by omega)]
    have e : iQ 179 k = some j := e
    rw [this] at e; cases e
  · have : iQ 178 k = none := by unfold iQ; rw [if_neg (by omega)]
    have e : iQ 178 k = some q := e
    rw [this] at e; cases e
