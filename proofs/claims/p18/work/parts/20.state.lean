/-! the cells as a state of whole numbers, and rows from bytecode to functions of that state -/
abbrev SS : Type := (Nat → Nat → Int) × (Nat → Nat → Int64) × (Nat → Nat → Option Nat)
def gi (S : SS) (r k : Nat) : Int := S.1 r k
def gl (S : SS) (r k : Nat) : Int64 := S.2.1 r k
def gq (S : SS) (r k : Nat) : Option Nat := S.2.2 r k
def up2 {α : Type} (f : Nat → Nat → α) (r k : Nat) (v : α) : Nat → Nat → α := fun r' => if r' = r then (fun k' => if k' = k then v else f r k') else f r'
def si (S : SS) (r k : Nat) (v : Int) : SS := (up2 S.1 r k v, S.2)
def sl (S : SS) (r k : Nat) (v : Int64) : SS := (S.1, up2 S.2.1 r k v, S.2.2)
def sq (S : SS) (r k : Nat) (v : Option Nat) : SS := (S.1, S.2.1, up2 S.2.2 r k v)
def oi (a : Int) : Int32 := Int32.ofInt a
abbrev i32 (a : Int) : Prop := -2147483648 ≤ a ∧ a < 2147483648
def rng (S : SS) : Prop := ∀ r k, i32 (gi S r k)
def om (b : Nat) (o : Option Nat) : Option Nat := o.map (fun j => b + (14 + 4 * j))
def os (b : Nat) (o : Option Nat) : Option Nat := o.map (fun r => b + r)
theorem oi_to {x : Int32} {a : Int} (h : x.toInt = a) : oi a = x := by rw [← h]; exact Int32.ofInt_toInt x
theorem to_oi {a : Int} (h : i32 a) : (oi a).toInt = a := Int32.toInt_ofInt_of_le h.1 h.2
theorem i32_of {x : Int32} {a : Int} (h : x.toInt = a) : i32 a := by
  have h1 := Int32.toInt_lt x
  have h2 := Int32.le_toInt x
  rw [h] at h1 h2
  exact ⟨by omega, by omega⟩
theorem up2_self {α : Type} (f : Nat → Nat → α) (r k : Nat) (v : α) : up2 f r k v r = fun k' => if k' = k then v else f r k' := by funext k'; simp [up2]
theorem up2_ne {α : Type} (f : Nat → Nat → α) {r k r' : Nat} (v : α) (h : r' ≠ r) : up2 f r k v r' = f r' := by simp [up2, h]
theorem gi_si (S : SS) (r k r' k' : Nat) (v : Int) : gi (si S r k v) r' k' = if r' = r ∧ k' = k then v else gi S r' k' := by
  unfold gi si
  by_cases h : r' = r
  · subst h
    by_cases h2 : k' = k
    · simp [up2, h2]
    · simp [up2, h2]
  · simp [up2, h]
theorem rng_si {S : SS} (hS : rng S) {r k : Nat} {v : Int} (hv : i32 v) : rng (si S r k v) := by
  intro r' k'
  rw [gi_si]
  by_cases h : r' = r ∧ k' = k
  · rw [if_pos h]; exact hv
  · rw [if_neg h]; exact hS r' k'
theorem rng_sl {S : SS} (hS : rng S) {r k : Nat} {v : Int64} : rng (sl S r k v) := hS
theorem rng_sq {S : SS} (hS : rng S) {r k : Nat} {v : Option Nat} : rng (sq S r k v) := hS
/-- a test without which there is no answer -/
def w_chk {α : Type} (c : Prop) [Decidable c] (x : Option α) : Option α := if c then x else none
theorem w_chkE {α : Type} {c : Prop} [Decidable c] {x : Option α} {r : α} (h : w_chk c x = some r) : c ∧ x = some r := by
  unfold w_chk at h
  by_cases hc : c
  · rw [if_pos hc] at h; exact ⟨hc, h⟩
  · rw [if_neg hc] at h; cases h
theorem w_chkP {α : Type} {c : Prop} [Decidable c] (hc : c) (x : Option α) : w_chk c x = x := if_pos hc
def w_lt {α β : Type} (x : α) (k : α → β) : β := k x
def w_on {α : Type} (o : Option Nat) (A : α) (B : Nat → α) : α := match o with | none => A | some j => B j
theorem w_bindE {α β : Type} {x : Option α} {k : α → Option β} {r : β} (h : x.bind k = some r) : ∃ u, x = some u ∧ k u = some r := Option.bind_eq_some_iff.mp h
theorem w_it {α : Type} {c : Prop} [Decidable c] {A B r : α} (hc : c) (h : (if c then A else B) = r) : A = r := by rw [if_pos hc] at h; exact h
theorem w_if {α : Type} {c : Prop} [Decidable c] {A B r : α} (hc : ¬ c) (h : (if c then A else B) = r) : B = r := by rw [if_neg hc] at h; exact h
theorem r_1 {α β : Type} {a v : α} {s t : β} (h : some (a, s) = some (v, t)) : a = v := (Prod.mk.inj (Option.some.inj h)).1
theorem r_2 {α β : Type} {a v : α} {s t : β} (h : some (a, s) = some (v, t)) : s = t := (Prod.mk.inj (Option.some.inj h)).2
theorem r_p1 {α β : Type} {a v : α} {s t : β} (h : (a, s) = (v, t)) : a = v := (Prod.mk.inj h).1
theorem r_p2 {α β : Type} {a v : α} {s t : β} (h : (a, s) = (v, t)) : s = t := (Prod.mk.inj h).2
def FU : Nat := 4000
abbrev shOk (q : Nat) : Prop := q = 4 ∨ q = 6 ∨ q = 8 ∨ q = 175 ∨ q = 184 ∨ (16 ≤ q ∧ q < 174 ∧ q % 4 = 0)
def cap (q : Nat) : Int := if q = 4 then 60 else if q = 6 then 150 else if q = 8 then 300 else if q = 175 then 150 else if q = 184 then 108 else 6
def capN (q : Nat) : Nat := if q = 4 then 60 else if q = 6 then 150 else if q = 8 then 300 else if q = 175 then 150 else if q = 184 then 108 else 6
theorem cap_N (q : Nat) : cap q = (capN q : Int) := by
  unfold cap capN
  repeat' split
  all_goals rfl
theorem capN_le (q : Nat) : capN q ≤ 300 := by
  unfold capN
  repeat' split
  all_goals omega

def cellOf (b : Nat) (kc : Nat → ClassId) (r : Nat) (i : Nat → Int) (l : Nat → Int64) (q : Nat → Option Nat) : va_E :=
  if 14 ≤ r ∧ r < 174 then (match (r - 14) % 4 with
    | 0 => .inr (3, [.ref (b + (r + 1)), .ref (b + (r + 2)), .int (oi (i 2)), .int (oi (i 3)), .int (oi (i 4)), .int (oi (i 5)), .int (oi (i 6)), .int (oi (i 7)), .int (oi (i 8)), .int (oi (i 9)), .int (oi (i 10)), .int (oi (i 11)), .int (oi (i 12))])
    | 1 => .inl (kc 1, 3, .inl (fun k => oi (i k)))
    | 2 => .inr (8, [.ref (b + (r + 1)), .int (oi (i 1))])
    | _ => .inl (kc 2, 6, .inr (.inl (fun k => l k))))
  else match r with
    | 0 => .inr (11, [.ref (b + 1), .ref (b + 3), .ref (b + 4), .ref (b + 6), .ref (b + 8), .ref (b + 10), .ref (b + 174), .ref (b + 177), .ref (b + 178), .ref (b + 181), .ref (b + 183), .ref (b + 190)])
    | 1 => .inr (10, [.ref (b + 2), .int (oi (i 1))])
    | 2 => .inl (kc 0, 2000, .inl (fun k => oi (i k)))
    | 3 => .inr (1, [.int (oi (i 0)), .int (oi (i 1))])
    | 4 => .inr (8, [.ref (b + 5), .int (oi (i 1))])
    | 5 => .inl (kc 2, 60, .inr (.inl (fun k => l k)))
    | 6 => .inr (8, [.ref (b + 7), .int (oi (i 1))])
    | 7 => .inl (kc 2, 150, .inr (.inl (fun k => l k)))
    | 8 => .inr (8, [.ref (b + 9), .int (oi (i 1))])
    | 9 => .inl (kc 2, 300, .inr (.inl (fun k => l k)))
    | 10 => .inr (5, [.ref (b + 11), .ref (b + 12), .ref (b + 13), .int (oi (i 3)), .int (oi (i 4)), .int (oi (i 5))])
    | 11 => .inl (kc 4, 40, .inr (.inr (.inr (.inr (fun k => om b (q k))))))
    | 12 => .inl (kc 1, 3, .inl (fun k => oi (i k)))
    | 13 => .inl (kc 1, 40, .inl (fun k => oi (i k)))
    | 174 => .inr (9, [.ref (b + 175)])
    | 175 => .inr (8, [.ref (b + 176), .int (oi (i 1))])
    | 176 => .inl (kc 2, 150, .inr (.inl (fun k => l k)))
    | 177 => .inr (4, [va_rf (os b (q 0)), va_rf (os b (q 1)), va_rf (os b (q 2)), .int (oi (i 3)), .int (oi (i 4)), .int (oi (i 5)), .int (oi (i 6))])
    | 178 => .inr (7, [.ref (b + 179), .ref (b + 180), .int (oi (i 2)), va_rf (os b (q 3)), va_rf (os b (q 4))])
    | 179 => .inl (kc 4, 40, .inr (.inr (.inr (.inr (fun k => om b (q k))))))
    | 180 => .inl (kc 3, 40, .inl (fun k => oi (i k)))
    | 181 => .inr (6, [.ref (b + 182)])
    | 182 => .inl (kc 1, 301, .inl (fun k => oi (i k)))
    | 183 => .inr (2, [.ref (b + 184), .ref (b + 186), .ref (b + 187), .ref (b + 188), .ref (b + 189), .int (oi (i 5)), .int (oi (i 6)), .int (oi (i 7)), .int (oi (i 8)), .int (oi (i 9)), .int (oi (i 10)), .int (oi (i 11))])
    | 184 => .inr (8, [.ref (b + 185), .int (oi (i 1))])
    | 185 => .inl (kc 2, 108, .inr (.inl (fun k => l k)))
    | 186 => .inl (kc 1, 8, .inl (fun k => oi (i k)))
    | 187 => .inl (kc 1, 150, .inl (fun k => oi (i k)))
    | 188 => .inl (kc 1, 150, .inl (fun k => oi (i k)))
    | 189 => .inl (kc 1, 150, .inl (fun k => oi (i k)))
    | 190 => .inr (0, [.ref (b + 191)])
    | 191 => .inl (kc 1, 5, .inl (fun k => oi (i k)))
    | 192 => .inr (13, [.ref (b + 193), .ref (b + 194), .ref (b + 195), .int (oi (i 3)), .int (oi (i 4)), .int (oi (i 5)), .ref (b + 196), .ref (b + 197), .int (oi (i 8)), .int (oi (i 9)), .int (oi (i 10)), .int (oi (i 11)), .int (oi (i 12)), .int (oi (i 13)), .int (oi (i 14)), .int (oi (i 15)), .ref (b + 198), .ref (b + 199), .ref (b + 200), .ref (b + 201), .ref (b + 202), .ref (b + 203), .ref (b + 204), .ref (b + 205), .ref (b + 206), .ref (b + 207), .ref (b + 208), .int (oi (i 27)), .ref (b + 209), .ref (b + 210), .ref (b + 211), .ref (b + 212), .ref (b + 213), .ref (b + 214), .ref (b + 215), .int (oi (i 35)), .int (oi (i 36)), .int (oi (i 37)), .int (oi (i 38)), .ref (b + 216), .ref (b + 217), .ref (b + 218), .ref (b + 219)])
    | 193 => .inl (kc 2, 60, .inr (.inl (fun k => l k)))
    | 194 => .inl (kc 2, 150, .inr (.inl (fun k => l k)))
    | 195 => .inl (kc 2, 320, .inr (.inl (fun k => l k)))
    | 196 => .inr (12, [.null, .null, .null, .null, .null, .int 0])
    | 197 => .inl (kc 0, 2000, .inl (fun k => oi (i k)))
    | 198 => .inl (kc 2, 150, .inr (.inl (fun k => l k)))
    | 199 => .inl (kc 1, 41, .inl (fun k => oi (i k)))
    | 200 => .inl (kc 1, 41, .inl (fun k => oi (i k)))
    | 201 => .inl (kc 1, 41, .inl (fun k => oi (i k)))
    | 202 => .inl (kc 1, 41, .inl (fun k => oi (i k)))
    | 203 => .inl (kc 1, 41, .inl (fun k => oi (i k)))
    | 204 => .inl (kc 1, 41, .inl (fun k => oi (i k)))
    | 205 => .inl (kc 1, 41, .inl (fun k => oi (i k)))
    | 206 => .inl (kc 2, 246, .inr (.inl (fun k => l k)))
    | 207 => .inl (kc 3, 41, .inl (fun k => oi (i k)))
    | 208 => .inl (kc 3, 41, .inl (fun k => oi (i k)))
    | 209 => .inl (kc 1, 3, .inl (fun k => oi (i k)))
    | 210 => .inl (kc 1, 5, .inl (fun k => oi (i k)))
    | 211 => .inl (kc 1, 2, .inl (fun k => oi (i k)))
    | 212 => .inl (kc 1, 40, .inl (fun k => oi (i k)))
    | 213 => .inl (kc 1, 40, .inl (fun k => oi (i k)))
    | 214 => .inl (kc 3, 40, .inl (fun k => oi (i k)))
    | 215 => .inl (kc 1, 103041, .inl (fun k => oi (i k)))
    | 216 => .inl (kc 1, 8, .inl (fun k => oi (i k)))
    | 217 => .inl (kc 1, 470, .inl (fun k => oi (i k)))
    | 218 => .inl (kc 1, 470, .inl (fun k => oi (i k)))
    | 219 => .inl (kc 1, 470, .inl (fun k => oi (i k)))
    | _ => .inl (kc 1, 0, .inl (fun _ => 0))
def jX (b : Nat) (kc : Nat → ClassId) (T S : SS) : Nat → va_E := fun r => if r < 192 then cellOf b kc r (S.1 r) (S.2.1 r) (S.2.2 r) else cellOf b kc r (T.1 r) (T.2.1 r) (T.2.2 r)
def jM (b : Nat) (kc : Nat → ClassId) (T S : SS) : Nat → va_E := jX b kc S T
theorem jX_at {b : Nat} {kc : Nat → ClassId} {T S : SS} {r : Nat} (hr : r < 192) : jX b kc T S r = cellOf b kc r (S.1 r) (S.2.1 r) (S.2.2 r) := by simp only [jX, if_pos hr]
theorem jM_at {b : Nat} {kc : Nat → ClassId} {T S : SS} {r : Nat} (hr : ¬ r < 192) : jM b kc T S r = cellOf b kc r (S.1 r) (S.2.1 r) (S.2.2 r) := by simp only [jM, jX, if_neg hr]
theorem jX_up {b : Nat} {kc : Nat → ClassId} {T S S1 : SS} {r : Nat} (hr : r < 192) {x : va_E} (h1 : ∀ q, q ≠ r → S1.1 q = S.1 q ∧ S1.2.1 q = S.2.1 q ∧ S1.2.2 q = S.2.2 q) (h : cellOf b kc r (S1.1 r) (S1.2.1 r) (S1.2.2 r) = x) : va_up (jX b kc T S) r x = jX b kc T S1 := by
  funext q
  by_cases e : q = r
  · subst e
    simp only [va_up, if_pos, jX, if_pos hr]
    exact h.symm
  · simp only [va_up, if_neg e, jX]
    obtain ⟨e1, e2, e3⟩ := h1 q e
    rw [e1, e2, e3]
theorem jM_up {b : Nat} {kc : Nat → ClassId} {T S S1 : SS} {r : Nat} (hr : ¬ r < 192) {x : va_E} (h1 : ∀ q, q ≠ r → S1.1 q = S.1 q ∧ S1.2.1 q = S.2.1 q ∧ S1.2.2 q = S.2.2 q) (h : cellOf b kc r (S1.1 r) (S1.2.1 r) (S1.2.2 r) = x) : va_up (jM b kc T S) r x = jM b kc T S1 := by
  funext q
  by_cases e : q = r
  · subst e
    simp only [va_up, if_pos, jM, jX, if_neg hr]
    exact h.symm
  · simp only [va_up, if_neg e, jM, jX]
    obtain ⟨e1, e2, e3⟩ := h1 q e
    rw [e1, e2, e3]
theorem n_si {S : SS} {r k : Nat} {v : Int} : ∀ q, q ≠ r → (si S r k v).1 q = S.1 q ∧ (si S r k v).2.1 q = S.2.1 q ∧ (si S r k v).2.2 q = S.2.2 q := fun q h => ⟨up2_ne _ _ h, rfl, rfl⟩
theorem n_sl {S : SS} {r k : Nat} {v : Int64} : ∀ q, q ≠ r → (sl S r k v).1 q = S.1 q ∧ (sl S r k v).2.1 q = S.2.1 q ∧ (sl S r k v).2.2 q = S.2.2 q := fun q h => ⟨rfl, up2_ne _ _ h, rfl⟩
theorem n_sq {S : SS} {r k : Nat} {v : Option Nat} : ∀ q, q ≠ r → (sq S r k v).1 q = S.1 q ∧ (sq S r k v).2.1 q = S.2.1 q ∧ (sq S r k v).2.2 q = S.2.2 q := fun q h => ⟨rfl, rfl, up2_ne _ _ h⟩
theorem s_si (S : SS) (r k : Nat) (v : Int) : (si S r k v).1 r = fun k' => if k' = k then v else S.1 r k' := up2_self _ _ _ _
theorem s_sl (S : SS) (r k : Nat) (v : Int64) : (sl S r k v).2.1 r = fun k' => if k' = k then v else S.2.1 r k' := up2_self _ _ _ _
theorem s_sq (S : SS) (r k : Nat) (v : Option Nat) : (sq S r k v).2.2 r = fun k' => if k' = k then v else S.2.2 r k' := up2_self _ _ _ _
theorem cl_mark (b : Nat) (kc : Nat → ClassId) {j : Nat} (hj : j < 40) (i : Nat → Int) (l : Nat → Int64) (q : Nat → Option Nat) : cellOf b kc (14 + 4 * j) i l q = .inr (3, [.ref (b + (14 + 4 * j + 1)), .ref (b + (14 + 4 * j + 2)), .int (oi (i 2)), .int (oi (i 3)), .int (oi (i 4)), .int (oi (i 5)), .int (oi (i 6)), .int (oi (i 7)), .int (oi (i 8)), .int (oi (i 9)), .int (oi (i 10)), .int (oi (i 11)), .int (oi (i 12))]) := by
  have h1 : (14 + 4 * j - 14) % 4 = 0 := by omega
  simp only [cellOf, if_pos (show 14 ≤ 14 + 4 * j ∧ 14 + 4 * j < 174 by omega), h1]
theorem cl_num (b : Nat) (kc : Nat → ClassId) {j : Nat} (hj : j < 40) (i : Nat → Int) (l : Nat → Int64) (q : Nat → Option Nat) : cellOf b kc (14 + 4 * j + 1) i l q = .inl (kc 1, 3, .inl (fun k => oi (i k))) := by
  have h1 : (14 + 4 * j + 1 - 14) % 4 = 1 := by omega
  simp only [cellOf, if_pos (show 14 ≤ 14 + 4 * j + 1 ∧ 14 + 4 * j + 1 < 174 by omega), h1]
theorem cl_sh (b : Nat) (kc : Nat → ClassId) {r : Nat} (hr : shOk r) (i : Nat → Int) (l : Nat → Int64) (q : Nat → Option Nat) : cellOf b kc r i l q = .inr (8, [.ref (b + (r + 1)), .int (oi (i 1))]) := by
  rcases hr with rfl | rfl | rfl | rfl | rfl | hr
  · rfl
  · rfl
  · rfl
  · rfl
  · rfl
  · have h1 : (r - 14) % 4 = 2 := by omega
    simp only [cellOf, if_pos (show 14 ≤ r ∧ r < 174 by omega), h1]
theorem cl_la (b : Nat) (kc : Nat → ClassId) {r : Nat} (hr : shOk r) (i : Nat → Int) (l : Nat → Int64) (q : Nat → Option Nat) : cellOf b kc (r + 1) i l q = .inl (kc 2, capN r, .inr (.inl (fun k => l k))) := by
  rcases hr with rfl | rfl | rfl | rfl | rfl | hr
  · rfl
  · rfl
  · rfl
  · rfl
  · rfl
  · have h1 : (r + 1 - 14) % 4 = 3 := by omega
    have h2 : capN r = 6 := by
      unfold capN
      rw [if_neg (by omega), if_neg (by omega), if_neg (by omega), if_neg (by omega), if_neg (by omega)]
    simp only [cellOf, if_pos (show 14 ≤ r + 1 ∧ r + 1 < 174 by omega), h1, h2]
theorem shOk_lt {q : Nat} (h : shOk q) : q < 191 := by omega
theorem e_0 (b : Nat) (kc : Nat → ClassId) (T S : SS) : jX b kc T S 0 = .inr (11, [.ref (b + 1), .ref (b + 3), .ref (b + 4), .ref (b + 6), .ref (b + 8), .ref (b + 10), .ref (b + 174), .ref (b + 177), .ref (b + 178), .ref (b + 181), .ref (b + 183), .ref (b + 190)]) := rfl
theorem e_1 (b : Nat) (kc : Nat → ClassId) (T S : SS) : jX b kc T S 1 = .inr (10, [.ref (b + 2), .int (oi (gi S 1 1))]) := rfl
theorem e_2 (b : Nat) (kc : Nat → ClassId) (T S : SS) : jX b kc T S 2 = .inl (kc 0, 2000, .inl (fun k => oi (gi S 2 k))) := rfl
theorem e_3 (b : Nat) (kc : Nat → ClassId) (T S : SS) : jX b kc T S 3 = .inr (1, [.int (oi (gi S 3 0)), .int (oi (gi S 3 1))]) := rfl
theorem e_4 (b : Nat) (kc : Nat → ClassId) (T S : SS) : jX b kc T S 4 = .inr (8, [.ref (b + 5), .int (oi (gi S 4 1))]) := rfl
theorem e_5 (b : Nat) (kc : Nat → ClassId) (T S : SS) : jX b kc T S 5 = .inl (kc 2, 60, .inr (.inl (fun k => gl S 5 k))) := rfl
theorem e_6 (b : Nat) (kc : Nat → ClassId) (T S : SS) : jX b kc T S 6 = .inr (8, [.ref (b + 7), .int (oi (gi S 6 1))]) := rfl
theorem e_7 (b : Nat) (kc : Nat → ClassId) (T S : SS) : jX b kc T S 7 = .inl (kc 2, 150, .inr (.inl (fun k => gl S 7 k))) := rfl
theorem e_8 (b : Nat) (kc : Nat → ClassId) (T S : SS) : jX b kc T S 8 = .inr (8, [.ref (b + 9), .int (oi (gi S 8 1))]) := rfl
theorem e_9 (b : Nat) (kc : Nat → ClassId) (T S : SS) : jX b kc T S 9 = .inl (kc 2, 300, .inr (.inl (fun k => gl S 9 k))) := rfl
theorem e_10 (b : Nat) (kc : Nat → ClassId) (T S : SS) : jX b kc T S 10 = .inr (5, [.ref (b + 11), .ref (b + 12), .ref (b + 13), .int (oi (gi S 10 3)), .int (oi (gi S 10 4)), .int (oi (gi S 10 5))]) := rfl
theorem e_11 (b : Nat) (kc : Nat → ClassId) (T S : SS) : jX b kc T S 11 = .inl (kc 4, 40, .inr (.inr (.inr (.inr (fun k => om b (gq S 11 k)))))) := rfl
theorem e_12 (b : Nat) (kc : Nat → ClassId) (T S : SS) : jX b kc T S 12 = .inl (kc 1, 3, .inl (fun k => oi (gi S 12 k))) := rfl
theorem e_13 (b : Nat) (kc : Nat → ClassId) (T S : SS) : jX b kc T S 13 = .inl (kc 1, 40, .inl (fun k => oi (gi S 13 k))) := rfl
theorem e_174 (b : Nat) (kc : Nat → ClassId) (T S : SS) : jX b kc T S 174 = .inr (9, [.ref (b + 175)]) := rfl
theorem e_175 (b : Nat) (kc : Nat → ClassId) (T S : SS) : jX b kc T S 175 = .inr (8, [.ref (b + 176), .int (oi (gi S 175 1))]) := rfl
theorem e_176 (b : Nat) (kc : Nat → ClassId) (T S : SS) : jX b kc T S 176 = .inl (kc 2, 150, .inr (.inl (fun k => gl S 176 k))) := rfl
theorem e_177 (b : Nat) (kc : Nat → ClassId) (T S : SS) : jX b kc T S 177 = .inr (4, [va_rf (os b (gq S 177 0)), va_rf (os b (gq S 177 1)), va_rf (os b (gq S 177 2)), .int (oi (gi S 177 3)), .int (oi (gi S 177 4)), .int (oi (gi S 177 5)), .int (oi (gi S 177 6))]) := rfl
theorem e_178 (b : Nat) (kc : Nat → ClassId) (T S : SS) : jX b kc T S 178 = .inr (7, [.ref (b + 179), .ref (b + 180), .int (oi (gi S 178 2)), va_rf (os b (gq S 178 3)), va_rf (os b (gq S 178 4))]) := rfl
theorem e_179 (b : Nat) (kc : Nat → ClassId) (T S : SS) : jX b kc T S 179 = .inl (kc 4, 40, .inr (.inr (.inr (.inr (fun k => om b (gq S 179 k)))))) := rfl
theorem e_180 (b : Nat) (kc : Nat → ClassId) (T S : SS) : jX b kc T S 180 = .inl (kc 3, 40, .inl (fun k => oi (gi S 180 k))) := rfl
theorem e_181 (b : Nat) (kc : Nat → ClassId) (T S : SS) : jX b kc T S 181 = .inr (6, [.ref (b + 182)]) := rfl
theorem e_182 (b : Nat) (kc : Nat → ClassId) (T S : SS) : jX b kc T S 182 = .inl (kc 1, 301, .inl (fun k => oi (gi S 182 k))) := rfl
theorem e_183 (b : Nat) (kc : Nat → ClassId) (T S : SS) : jX b kc T S 183 = .inr (2, [.ref (b + 184), .ref (b + 186), .ref (b + 187), .ref (b + 188), .ref (b + 189), .int (oi (gi S 183 5)), .int (oi (gi S 183 6)), .int (oi (gi S 183 7)), .int (oi (gi S 183 8)), .int (oi (gi S 183 9)), .int (oi (gi S 183 10)), .int (oi (gi S 183 11))]) := rfl
theorem e_184 (b : Nat) (kc : Nat → ClassId) (T S : SS) : jX b kc T S 184 = .inr (8, [.ref (b + 185), .int (oi (gi S 184 1))]) := rfl
theorem e_185 (b : Nat) (kc : Nat → ClassId) (T S : SS) : jX b kc T S 185 = .inl (kc 2, 108, .inr (.inl (fun k => gl S 185 k))) := rfl
theorem e_186 (b : Nat) (kc : Nat → ClassId) (T S : SS) : jX b kc T S 186 = .inl (kc 1, 8, .inl (fun k => oi (gi S 186 k))) := rfl
theorem e_187 (b : Nat) (kc : Nat → ClassId) (T S : SS) : jX b kc T S 187 = .inl (kc 1, 150, .inl (fun k => oi (gi S 187 k))) := rfl
theorem e_188 (b : Nat) (kc : Nat → ClassId) (T S : SS) : jX b kc T S 188 = .inl (kc 1, 150, .inl (fun k => oi (gi S 188 k))) := rfl
theorem e_189 (b : Nat) (kc : Nat → ClassId) (T S : SS) : jX b kc T S 189 = .inl (kc 1, 150, .inl (fun k => oi (gi S 189 k))) := rfl
theorem e_190 (b : Nat) (kc : Nat → ClassId) (T S : SS) : jX b kc T S 190 = .inr (0, [.ref (b + 191)]) := rfl
theorem e_191 (b : Nat) (kc : Nat → ClassId) (T S : SS) : jX b kc T S 191 = .inl (kc 1, 5, .inl (fun k => oi (gi S 191 k))) := rfl
theorem e_192 (b : Nat) (kc : Nat → ClassId) (T S : SS) : jM b kc T S 192 = .inr (13, [.ref (b + 193), .ref (b + 194), .ref (b + 195), .int (oi (gi S 192 3)), .int (oi (gi S 192 4)), .int (oi (gi S 192 5)), .ref (b + 196), .ref (b + 197), .int (oi (gi S 192 8)), .int (oi (gi S 192 9)), .int (oi (gi S 192 10)), .int (oi (gi S 192 11)), .int (oi (gi S 192 12)), .int (oi (gi S 192 13)), .int (oi (gi S 192 14)), .int (oi (gi S 192 15)), .ref (b + 198), .ref (b + 199), .ref (b + 200), .ref (b + 201), .ref (b + 202), .ref (b + 203), .ref (b + 204), .ref (b + 205), .ref (b + 206), .ref (b + 207), .ref (b + 208), .int (oi (gi S 192 27)), .ref (b + 209), .ref (b + 210), .ref (b + 211), .ref (b + 212), .ref (b + 213), .ref (b + 214), .ref (b + 215), .int (oi (gi S 192 35)), .int (oi (gi S 192 36)), .int (oi (gi S 192 37)), .int (oi (gi S 192 38)), .ref (b + 216), .ref (b + 217), .ref (b + 218), .ref (b + 219)]) := rfl
theorem e_193 (b : Nat) (kc : Nat → ClassId) (T S : SS) : jM b kc T S 193 = .inl (kc 2, 60, .inr (.inl (fun k => gl S 193 k))) := rfl
theorem e_194 (b : Nat) (kc : Nat → ClassId) (T S : SS) : jM b kc T S 194 = .inl (kc 2, 150, .inr (.inl (fun k => gl S 194 k))) := rfl
theorem e_195 (b : Nat) (kc : Nat → ClassId) (T S : SS) : jM b kc T S 195 = .inl (kc 2, 320, .inr (.inl (fun k => gl S 195 k))) := rfl
theorem e_196 (b : Nat) (kc : Nat → ClassId) (T S : SS) : jM b kc T S 196 = .inr (12, [.null, .null, .null, .null, .null, .int 0]) := rfl
theorem e_197 (b : Nat) (kc : Nat → ClassId) (T S : SS) : jM b kc T S 197 = .inl (kc 0, 2000, .inl (fun k => oi (gi S 197 k))) := rfl
theorem e_198 (b : Nat) (kc : Nat → ClassId) (T S : SS) : jM b kc T S 198 = .inl (kc 2, 150, .inr (.inl (fun k => gl S 198 k))) := rfl
theorem e_199 (b : Nat) (kc : Nat → ClassId) (T S : SS) : jM b kc T S 199 = .inl (kc 1, 41, .inl (fun k => oi (gi S 199 k))) := rfl
theorem e_200 (b : Nat) (kc : Nat → ClassId) (T S : SS) : jM b kc T S 200 = .inl (kc 1, 41, .inl (fun k => oi (gi S 200 k))) := rfl
theorem e_201 (b : Nat) (kc : Nat → ClassId) (T S : SS) : jM b kc T S 201 = .inl (kc 1, 41, .inl (fun k => oi (gi S 201 k))) := rfl
theorem e_202 (b : Nat) (kc : Nat → ClassId) (T S : SS) : jM b kc T S 202 = .inl (kc 1, 41, .inl (fun k => oi (gi S 202 k))) := rfl
theorem e_203 (b : Nat) (kc : Nat → ClassId) (T S : SS) : jM b kc T S 203 = .inl (kc 1, 41, .inl (fun k => oi (gi S 203 k))) := rfl
theorem e_204 (b : Nat) (kc : Nat → ClassId) (T S : SS) : jM b kc T S 204 = .inl (kc 1, 41, .inl (fun k => oi (gi S 204 k))) := rfl
theorem e_205 (b : Nat) (kc : Nat → ClassId) (T S : SS) : jM b kc T S 205 = .inl (kc 1, 41, .inl (fun k => oi (gi S 205 k))) := rfl
theorem e_206 (b : Nat) (kc : Nat → ClassId) (T S : SS) : jM b kc T S 206 = .inl (kc 2, 246, .inr (.inl (fun k => gl S 206 k))) := rfl
theorem e_207 (b : Nat) (kc : Nat → ClassId) (T S : SS) : jM b kc T S 207 = .inl (kc 3, 41, .inl (fun k => oi (gi S 207 k))) := rfl
theorem e_208 (b : Nat) (kc : Nat → ClassId) (T S : SS) : jM b kc T S 208 = .inl (kc 3, 41, .inl (fun k => oi (gi S 208 k))) := rfl
theorem e_209 (b : Nat) (kc : Nat → ClassId) (T S : SS) : jM b kc T S 209 = .inl (kc 1, 3, .inl (fun k => oi (gi S 209 k))) := rfl
theorem e_210 (b : Nat) (kc : Nat → ClassId) (T S : SS) : jM b kc T S 210 = .inl (kc 1, 5, .inl (fun k => oi (gi S 210 k))) := rfl
theorem e_211 (b : Nat) (kc : Nat → ClassId) (T S : SS) : jM b kc T S 211 = .inl (kc 1, 2, .inl (fun k => oi (gi S 211 k))) := rfl
theorem e_212 (b : Nat) (kc : Nat → ClassId) (T S : SS) : jM b kc T S 212 = .inl (kc 1, 40, .inl (fun k => oi (gi S 212 k))) := rfl
theorem e_213 (b : Nat) (kc : Nat → ClassId) (T S : SS) : jM b kc T S 213 = .inl (kc 1, 40, .inl (fun k => oi (gi S 213 k))) := rfl
theorem e_214 (b : Nat) (kc : Nat → ClassId) (T S : SS) : jM b kc T S 214 = .inl (kc 3, 40, .inl (fun k => oi (gi S 214 k))) := rfl
theorem e_215 (b : Nat) (kc : Nat → ClassId) (T S : SS) : jM b kc T S 215 = .inl (kc 1, 103041, .inl (fun k => oi (gi S 215 k))) := rfl
theorem e_216 (b : Nat) (kc : Nat → ClassId) (T S : SS) : jM b kc T S 216 = .inl (kc 1, 8, .inl (fun k => oi (gi S 216 k))) := rfl
theorem e_217 (b : Nat) (kc : Nat → ClassId) (T S : SS) : jM b kc T S 217 = .inl (kc 1, 470, .inl (fun k => oi (gi S 217 k))) := rfl
theorem e_218 (b : Nat) (kc : Nat → ClassId) (T S : SS) : jM b kc T S 218 = .inl (kc 1, 470, .inl (fun k => oi (gi S 218 k))) := rfl
theorem e_219 (b : Nat) (kc : Nat → ClassId) (T S : SS) : jM b kc T S 219 = .inl (kc 1, 470, .inl (fun k => oi (gi S 219 k))) := rfl
theorem e_mk (b : Nat) (kc : Nat → ClassId) (T S : SS) {j : Nat} (hj : j < 40) : jX b kc T S (14 + 4 * j) = .inr (3, [.ref (b + (14 + 4 * j + 1)), .ref (b + (14 + 4 * j + 2)), .int (oi (gi S (14 + 4 * j) 2)), .int (oi (gi S (14 + 4 * j) 3)), .int (oi (gi S (14 + 4 * j) 4)), .int (oi (gi S (14 + 4 * j) 5)), .int (oi (gi S (14 + 4 * j) 6)), .int (oi (gi S (14 + 4 * j) 7)), .int (oi (gi S (14 + 4 * j) 8)), .int (oi (gi S (14 + 4 * j) 9)), .int (oi (gi S (14 + 4 * j) 10)), .int (oi (gi S (14 + 4 * j) 11)), .int (oi (gi S (14 + 4 * j) 12))]) := by rw [jX_at (by omega), cl_mark b kc hj]; rfl
theorem e_nm (b : Nat) (kc : Nat → ClassId) (T S : SS) {j : Nat} (hj : j < 40) : jX b kc T S (14 + 4 * j + 1) = .inl (kc 1, 3, .inl (fun k => oi (gi S (14 + 4 * j + 1) k))) := by rw [jX_at (by omega), cl_num b kc hj]; rfl
theorem e_sh (b : Nat) (kc : Nat → ClassId) (T S : SS) {r : Nat} (hr : shOk r) : jX b kc T S r = .inr (8, [.ref (b + (r + 1)), .int (oi (gi S r 1))]) := by rw [jX_at (by omega), cl_sh b kc hr]; rfl
theorem e_la (b : Nat) (kc : Nat → ClassId) (T S : SS) {r : Nat} (hr : shOk r) : jX b kc T S (r + 1) = .inl (kc 2, capN r, .inr (.inl (fun k => gl S (r + 1) k))) := by rw [jX_at (by omega), cl_la b kc hr]; rfl
theorem p_1_1 {b : Nat} {kc : Nat → ClassId} {T S : SS} {x : Int32} {a : Int} (hx : x.toInt = a) : va_up (jX b kc T S) 1 (.inr (10, [.ref (b + 2), .int x])) = jX b kc T (si S 1 1 a) := by
  refine jX_up (by decide) n_si ?_
  show (.inr (10, [.ref (b + 2), .int (oi a)]) : va_E) = _
  rw [oi_to hx]
theorem p_3_0 {b : Nat} {kc : Nat → ClassId} {T S : SS} {x : Int32} {a : Int} (hx : x.toInt = a) : va_up (jX b kc T S) 3 (.inr (1, [.int x, .int (oi (gi S 3 1))])) = jX b kc T (si S 3 0 a) := by
  refine jX_up (by decide) n_si ?_
  show (.inr (1, [.int (oi a), .int (oi (gi S 3 1))]) : va_E) = _
  rw [oi_to hx]
theorem p_3_1 {b : Nat} {kc : Nat → ClassId} {T S : SS} {x : Int32} {a : Int} (hx : x.toInt = a) : va_up (jX b kc T S) 3 (.inr (1, [.int (oi (gi S 3 0)), .int x])) = jX b kc T (si S 3 1 a) := by
  refine jX_up (by decide) n_si ?_
  show (.inr (1, [.int (oi (gi S 3 0)), .int (oi a)]) : va_E) = _
  rw [oi_to hx]
theorem p_10_3 {b : Nat} {kc : Nat → ClassId} {T S : SS} {x : Int32} {a : Int} (hx : x.toInt = a) : va_up (jX b kc T S) 10 (.inr (5, [.ref (b + 11), .ref (b + 12), .ref (b + 13), .int x, .int (oi (gi S 10 4)), .int (oi (gi S 10 5))])) = jX b kc T (si S 10 3 a) := by
  refine jX_up (by decide) n_si ?_
  show (.inr (5, [.ref (b + 11), .ref (b + 12), .ref (b + 13), .int (oi a), .int (oi (gi S 10 4)), .int (oi (gi S 10 5))]) : va_E) = _
  rw [oi_to hx]
theorem p_10_4 {b : Nat} {kc : Nat → ClassId} {T S : SS} {x : Int32} {a : Int} (hx : x.toInt = a) : va_up (jX b kc T S) 10 (.inr (5, [.ref (b + 11), .ref (b + 12), .ref (b + 13), .int (oi (gi S 10 3)), .int x, .int (oi (gi S 10 5))])) = jX b kc T (si S 10 4 a) := by
  refine jX_up (by decide) n_si ?_
  show (.inr (5, [.ref (b + 11), .ref (b + 12), .ref (b + 13), .int (oi (gi S 10 3)), .int (oi a), .int (oi (gi S 10 5))]) : va_E) = _
  rw [oi_to hx]
theorem p_10_5 {b : Nat} {kc : Nat → ClassId} {T S : SS} {x : Int32} {a : Int} (hx : x.toInt = a) : va_up (jX b kc T S) 10 (.inr (5, [.ref (b + 11), .ref (b + 12), .ref (b + 13), .int (oi (gi S 10 3)), .int (oi (gi S 10 4)), .int x])) = jX b kc T (si S 10 5 a) := by
  refine jX_up (by decide) n_si ?_
  show (.inr (5, [.ref (b + 11), .ref (b + 12), .ref (b + 13), .int (oi (gi S 10 3)), .int (oi (gi S 10 4)), .int (oi a)]) : va_E) = _
  rw [oi_to hx]
theorem p_177_0 {b : Nat} {kc : Nat → ClassId} {T S : SS} (x : Nat) : va_up (jX b kc T S) 177 (.inr (4, [.ref (b + x), va_rf (os b (gq S 177 1)), va_rf (os b (gq S 177 2)), .int (oi (gi S 177 3)), .int (oi (gi S 177 4)), .int (oi (gi S 177 5)), .int (oi (gi S 177 6))])) = jX b kc T (sq S 177 0 (some x)) := jX_up (by decide) n_sq rfl
theorem p_177_1 {b : Nat} {kc : Nat → ClassId} {T S : SS} (x : Nat) : va_up (jX b kc T S) 177 (.inr (4, [va_rf (os b (gq S 177 0)), .ref (b + x), va_rf (os b (gq S 177 2)), .int (oi (gi S 177 3)), .int (oi (gi S 177 4)), .int (oi (gi S 177 5)), .int (oi (gi S 177 6))])) = jX b kc T (sq S 177 1 (some x)) := jX_up (by decide) n_sq rfl
theorem p_177_2 {b : Nat} {kc : Nat → ClassId} {T S : SS} (x : Nat) : va_up (jX b kc T S) 177 (.inr (4, [va_rf (os b (gq S 177 0)), va_rf (os b (gq S 177 1)), .ref (b + x), .int (oi (gi S 177 3)), .int (oi (gi S 177 4)), .int (oi (gi S 177 5)), .int (oi (gi S 177 6))])) = jX b kc T (sq S 177 2 (some x)) := jX_up (by decide) n_sq rfl
theorem p_177_3 {b : Nat} {kc : Nat → ClassId} {T S : SS} {x : Int32} {a : Int} (hx : x.toInt = a) : va_up (jX b kc T S) 177 (.inr (4, [va_rf (os b (gq S 177 0)), va_rf (os b (gq S 177 1)), va_rf (os b (gq S 177 2)), .int x, .int (oi (gi S 177 4)), .int (oi (gi S 177 5)), .int (oi (gi S 177 6))])) = jX b kc T (si S 177 3 a) := by
  refine jX_up (by decide) n_si ?_
  show (.inr (4, [va_rf (os b (gq S 177 0)), va_rf (os b (gq S 177 1)), va_rf (os b (gq S 177 2)), .int (oi a), .int (oi (gi S 177 4)), .int (oi (gi S 177 5)), .int (oi (gi S 177 6))]) : va_E) = _
  rw [oi_to hx]
theorem p_177_4 {b : Nat} {kc : Nat → ClassId} {T S : SS} {x : Int32} {a : Int} (hx : x.toInt = a) : va_up (jX b kc T S) 177 (.inr (4, [va_rf (os b (gq S 177 0)), va_rf (os b (gq S 177 1)), va_rf (os b (gq S 177 2)), .int (oi (gi S 177 3)), .int x, .int (oi (gi S 177 5)), .int (oi (gi S 177 6))])) = jX b kc T (si S 177 4 a) := by
  refine jX_up (by decide) n_si ?_
  show (.inr (4, [va_rf (os b (gq S 177 0)), va_rf (os b (gq S 177 1)), va_rf (os b (gq S 177 2)), .int (oi (gi S 177 3)), .int (oi a), .int (oi (gi S 177 5)), .int (oi (gi S 177 6))]) : va_E) = _
  rw [oi_to hx]
theorem p_177_5 {b : Nat} {kc : Nat → ClassId} {T S : SS} {x : Int32} {a : Int} (hx : x.toInt = a) : va_up (jX b kc T S) 177 (.inr (4, [va_rf (os b (gq S 177 0)), va_rf (os b (gq S 177 1)), va_rf (os b (gq S 177 2)), .int (oi (gi S 177 3)), .int (oi (gi S 177 4)), .int x, .int (oi (gi S 177 6))])) = jX b kc T (si S 177 5 a) := by
  refine jX_up (by decide) n_si ?_
  show (.inr (4, [va_rf (os b (gq S 177 0)), va_rf (os b (gq S 177 1)), va_rf (os b (gq S 177 2)), .int (oi (gi S 177 3)), .int (oi (gi S 177 4)), .int (oi a), .int (oi (gi S 177 6))]) : va_E) = _
  rw [oi_to hx]
theorem p_177_6 {b : Nat} {kc : Nat → ClassId} {T S : SS} {x : Int32} {a : Int} (hx : x.toInt = a) : va_up (jX b kc T S) 177 (.inr (4, [va_rf (os b (gq S 177 0)), va_rf (os b (gq S 177 1)), va_rf (os b (gq S 177 2)), .int (oi (gi S 177 3)), .int (oi (gi S 177 4)), .int (oi (gi S 177 5)), .int x])) = jX b kc T (si S 177 6 a) := by
  refine jX_up (by decide) n_si ?_
  show (.inr (4, [va_rf (os b (gq S 177 0)), va_rf (os b (gq S 177 1)), va_rf (os b (gq S 177 2)), .int (oi (gi S 177 3)), .int (oi (gi S 177 4)), .int (oi (gi S 177 5)), .int (oi a)]) : va_E) = _
  rw [oi_to hx]
theorem p_178_2 {b : Nat} {kc : Nat → ClassId} {T S : SS} {x : Int32} {a : Int} (hx : x.toInt = a) : va_up (jX b kc T S) 178 (.inr (7, [.ref (b + 179), .ref (b + 180), .int x, va_rf (os b (gq S 178 3)), va_rf (os b (gq S 178 4))])) = jX b kc T (si S 178 2 a) := by
  refine jX_up (by decide) n_si ?_
  show (.inr (7, [.ref (b + 179), .ref (b + 180), .int (oi a), va_rf (os b (gq S 178 3)), va_rf (os b (gq S 178 4))]) : va_E) = _
  rw [oi_to hx]
theorem p_178_3 {b : Nat} {kc : Nat → ClassId} {T S : SS} (x : Nat) : va_up (jX b kc T S) 178 (.inr (7, [.ref (b + 179), .ref (b + 180), .int (oi (gi S 178 2)), .ref (b + x), va_rf (os b (gq S 178 4))])) = jX b kc T (sq S 178 3 (some x)) := jX_up (by decide) n_sq rfl
theorem p_178_4 {b : Nat} {kc : Nat → ClassId} {T S : SS} (x : Nat) : va_up (jX b kc T S) 178 (.inr (7, [.ref (b + 179), .ref (b + 180), .int (oi (gi S 178 2)), va_rf (os b (gq S 178 3)), .ref (b + x)])) = jX b kc T (sq S 178 4 (some x)) := jX_up (by decide) n_sq rfl
theorem p_183_5 {b : Nat} {kc : Nat → ClassId} {T S : SS} {x : Int32} {a : Int} (hx : x.toInt = a) : va_up (jX b kc T S) 183 (.inr (2, [.ref (b + 184), .ref (b + 186), .ref (b + 187), .ref (b + 188), .ref (b + 189), .int x, .int (oi (gi S 183 6)), .int (oi (gi S 183 7)), .int (oi (gi S 183 8)), .int (oi (gi S 183 9)), .int (oi (gi S 183 10)), .int (oi (gi S 183 11))])) = jX b kc T (si S 183 5 a) := by
  refine jX_up (by decide) n_si ?_
  show (.inr (2, [.ref (b + 184), .ref (b + 186), .ref (b + 187), .ref (b + 188), .ref (b + 189), .int (oi a), .int (oi (gi S 183 6)), .int (oi (gi S 183 7)), .int (oi (gi S 183 8)), .int (oi (gi S 183 9)), .int (oi (gi S 183 10)), .int (oi (gi S 183 11))]) : va_E) = _
  rw [oi_to hx]
theorem p_183_6 {b : Nat} {kc : Nat → ClassId} {T S : SS} {x : Int32} {a : Int} (hx : x.toInt = a) : va_up (jX b kc T S) 183 (.inr (2, [.ref (b + 184), .ref (b + 186), .ref (b + 187), .ref (b + 188), .ref (b + 189), .int (oi (gi S 183 5)), .int x, .int (oi (gi S 183 7)), .int (oi (gi S 183 8)), .int (oi (gi S 183 9)), .int (oi (gi S 183 10)), .int (oi (gi S 183 11))])) = jX b kc T (si S 183 6 a) := by
  refine jX_up (by decide) n_si ?_
  show (.inr (2, [.ref (b + 184), .ref (b + 186), .ref (b + 187), .ref (b + 188), .ref (b + 189), .int (oi (gi S 183 5)), .int (oi a), .int (oi (gi S 183 7)), .int (oi (gi S 183 8)), .int (oi (gi S 183 9)), .int (oi (gi S 183 10)), .int (oi (gi S 183 11))]) : va_E) = _
  rw [oi_to hx]
theorem p_183_7 {b : Nat} {kc : Nat → ClassId} {T S : SS} {x : Int32} {a : Int} (hx : x.toInt = a) : va_up (jX b kc T S) 183 (.inr (2, [.ref (b + 184), .ref (b + 186), .ref (b + 187), .ref (b + 188), .ref (b + 189), .int (oi (gi S 183 5)), .int (oi (gi S 183 6)), .int x, .int (oi (gi S 183 8)), .int (oi (gi S 183 9)), .int (oi (gi S 183 10)), .int (oi (gi S 183 11))])) = jX b kc T (si S 183 7 a) := by
  refine jX_up (by decide) n_si ?_
  show (.inr (2, [.ref (b + 184), .ref (b + 186), .ref (b + 187), .ref (b + 188), .ref (b + 189), .int (oi (gi S 183 5)), .int (oi (gi S 183 6)), .int (oi a), .int (oi (gi S 183 8)), .int (oi (gi S 183 9)), .int (oi (gi S 183 10)), .int (oi (gi S 183 11))]) : va_E) = _
  rw [oi_to hx]
theorem p_183_8 {b : Nat} {kc : Nat → ClassId} {T S : SS} {x : Int32} {a : Int} (hx : x.toInt = a) : va_up (jX b kc T S) 183 (.inr (2, [.ref (b + 184), .ref (b + 186), .ref (b + 187), .ref (b + 188), .ref (b + 189), .int (oi (gi S 183 5)), .int (oi (gi S 183 6)), .int (oi (gi S 183 7)), .int x, .int (oi (gi S 183 9)), .int (oi (gi S 183 10)), .int (oi (gi S 183 11))])) = jX b kc T (si S 183 8 a) := by
  refine jX_up (by decide) n_si ?_
  show (.inr (2, [.ref (b + 184), .ref (b + 186), .ref (b + 187), .ref (b + 188), .ref (b + 189), .int (oi (gi S 183 5)), .int (oi (gi S 183 6)), .int (oi (gi S 183 7)), .int (oi a), .int (oi (gi S 183 9)), .int (oi (gi S 183 10)), .int (oi (gi S 183 11))]) : va_E) = _
  rw [oi_to hx]
theorem p_183_9 {b : Nat} {kc : Nat → ClassId} {T S : SS} {x : Int32} {a : Int} (hx : x.toInt = a) : va_up (jX b kc T S) 183 (.inr (2, [.ref (b + 184), .ref (b + 186), .ref (b + 187), .ref (b + 188), .ref (b + 189), .int (oi (gi S 183 5)), .int (oi (gi S 183 6)), .int (oi (gi S 183 7)), .int (oi (gi S 183 8)), .int x, .int (oi (gi S 183 10)), .int (oi (gi S 183 11))])) = jX b kc T (si S 183 9 a) := by
  refine jX_up (by decide) n_si ?_
  show (.inr (2, [.ref (b + 184), .ref (b + 186), .ref (b + 187), .ref (b + 188), .ref (b + 189), .int (oi (gi S 183 5)), .int (oi (gi S 183 6)), .int (oi (gi S 183 7)), .int (oi (gi S 183 8)), .int (oi a), .int (oi (gi S 183 10)), .int (oi (gi S 183 11))]) : va_E) = _
  rw [oi_to hx]
theorem p_183_10 {b : Nat} {kc : Nat → ClassId} {T S : SS} {x : Int32} {a : Int} (hx : x.toInt = a) : va_up (jX b kc T S) 183 (.inr (2, [.ref (b + 184), .ref (b + 186), .ref (b + 187), .ref (b + 188), .ref (b + 189), .int (oi (gi S 183 5)), .int (oi (gi S 183 6)), .int (oi (gi S 183 7)), .int (oi (gi S 183 8)), .int (oi (gi S 183 9)), .int x, .int (oi (gi S 183 11))])) = jX b kc T (si S 183 10 a) := by
  refine jX_up (by decide) n_si ?_
  show (.inr (2, [.ref (b + 184), .ref (b + 186), .ref (b + 187), .ref (b + 188), .ref (b + 189), .int (oi (gi S 183 5)), .int (oi (gi S 183 6)), .int (oi (gi S 183 7)), .int (oi (gi S 183 8)), .int (oi (gi S 183 9)), .int (oi a), .int (oi (gi S 183 11))]) : va_E) = _
  rw [oi_to hx]
theorem p_183_11 {b : Nat} {kc : Nat → ClassId} {T S : SS} {x : Int32} {a : Int} (hx : x.toInt = a) : va_up (jX b kc T S) 183 (.inr (2, [.ref (b + 184), .ref (b + 186), .ref (b + 187), .ref (b + 188), .ref (b + 189), .int (oi (gi S 183 5)), .int (oi (gi S 183 6)), .int (oi (gi S 183 7)), .int (oi (gi S 183 8)), .int (oi (gi S 183 9)), .int (oi (gi S 183 10)), .int x])) = jX b kc T (si S 183 11 a) := by
  refine jX_up (by decide) n_si ?_
  show (.inr (2, [.ref (b + 184), .ref (b + 186), .ref (b + 187), .ref (b + 188), .ref (b + 189), .int (oi (gi S 183 5)), .int (oi (gi S 183 6)), .int (oi (gi S 183 7)), .int (oi (gi S 183 8)), .int (oi (gi S 183 9)), .int (oi (gi S 183 10)), .int (oi a)]) : va_E) = _
  rw [oi_to hx]
theorem p_192_3 {b : Nat} {kc : Nat → ClassId} {T S : SS} {x : Int32} {a : Int} (hx : x.toInt = a) : va_up (jM b kc T S) 192 (.inr (13, [.ref (b + 193), .ref (b + 194), .ref (b + 195), .int x, .int (oi (gi S 192 4)), .int (oi (gi S 192 5)), .ref (b + 196), .ref (b + 197), .int (oi (gi S 192 8)), .int (oi (gi S 192 9)), .int (oi (gi S 192 10)), .int (oi (gi S 192 11)), .int (oi (gi S 192 12)), .int (oi (gi S 192 13)), .int (oi (gi S 192 14)), .int (oi (gi S 192 15)), .ref (b + 198), .ref (b + 199), .ref (b + 200), .ref (b + 201), .ref (b + 202), .ref (b + 203), .ref (b + 204), .ref (b + 205), .ref (b + 206), .ref (b + 207), .ref (b + 208), .int (oi (gi S 192 27)), .ref (b + 209), .ref (b + 210), .ref (b + 211), .ref (b + 212), .ref (b + 213), .ref (b + 214), .ref (b + 215), .int (oi (gi S 192 35)), .int (oi (gi S 192 36)), .int (oi (gi S 192 37)), .int (oi (gi S 192 38)), .ref (b + 216), .ref (b + 217), .ref (b + 218), .ref (b + 219)])) = jM b kc T (si S 192 3 a) := by
  refine jM_up (by decide) n_si ?_
  show (.inr (13, [.ref (b + 193), .ref (b + 194), .ref (b + 195), .int (oi a), .int (oi (gi S 192 4)), .int (oi (gi S 192 5)), .ref (b + 196), .ref (b + 197), .int (oi (gi S 192 8)), .int (oi (gi S 192 9)), .int (oi (gi S 192 10)), .int (oi (gi S 192 11)), .int (oi (gi S 192 12)), .int (oi (gi S 192 13)), .int (oi (gi S 192 14)), .int (oi (gi S 192 15)), .ref (b + 198), .ref (b + 199), .ref (b + 200), .ref (b + 201), .ref (b + 202), .ref (b + 203), .ref (b + 204), .ref (b + 205), .ref (b + 206), .ref (b + 207), .ref (b + 208), .int (oi (gi S 192 27)), .ref (b + 209), .ref (b + 210), .ref (b + 211), .ref (b + 212), .ref (b + 213), .ref (b + 214), .ref (b + 215), .int (oi (gi S 192 35)), .int (oi (gi S 192 36)), .int (oi (gi S 192 37)), .int (oi (gi S 192 38)), .ref (b + 216), .ref (b + 217), .ref (b + 218), .ref (b + 219)]) : va_E) = _
  rw [oi_to hx]
theorem p_192_4 {b : Nat} {kc : Nat → ClassId} {T S : SS} {x : Int32} {a : Int} (hx : x.toInt = a) : va_up (jM b kc T S) 192 (.inr (13, [.ref (b + 193), .ref (b + 194), .ref (b + 195), .int (oi (gi S 192 3)), .int x, .int (oi (gi S 192 5)), .ref (b + 196), .ref (b + 197), .int (oi (gi S 192 8)), .int (oi (gi S 192 9)), .int (oi (gi S 192 10)), .int (oi (gi S 192 11)), .int (oi (gi S 192 12)), .int (oi (gi S 192 13)), .int (oi (gi S 192 14)), .int (oi (gi S 192 15)), .ref (b + 198), .ref (b + 199), .ref (b + 200), .ref (b + 201), .ref (b + 202), .ref (b + 203), .ref (b + 204), .ref (b + 205), .ref (b + 206), .ref (b + 207), .ref (b + 208), .int (oi (gi S 192 27)), .ref (b + 209), .ref (b + 210), .ref (b + 211), .ref (b + 212), .ref (b + 213), .ref (b + 214), .ref (b + 215), .int (oi (gi S 192 35)), .int (oi (gi S 192 36)), .int (oi (gi S 192 37)), .int (oi (gi S 192 38)), .ref (b + 216), .ref (b + 217), .ref (b + 218), .ref (b + 219)])) = jM b kc T (si S 192 4 a) := by
  refine jM_up (by decide) n_si ?_
  show (.inr (13, [.ref (b + 193), .ref (b + 194), .ref (b + 195), .int (oi (gi S 192 3)), .int (oi a), .int (oi (gi S 192 5)), .ref (b + 196), .ref (b + 197), .int (oi (gi S 192 8)), .int (oi (gi S 192 9)), .int (oi (gi S 192 10)), .int (oi (gi S 192 11)), .int (oi (gi S 192 12)), .int (oi (gi S 192 13)), .int (oi (gi S 192 14)), .int (oi (gi S 192 15)), .ref (b + 198), .ref (b + 199), .ref (b + 200), .ref (b + 201), .ref (b + 202), .ref (b + 203), .ref (b + 204), .ref (b + 205), .ref (b + 206), .ref (b + 207), .ref (b + 208), .int (oi (gi S 192 27)), .ref (b + 209), .ref (b + 210), .ref (b + 211), .ref (b + 212), .ref (b + 213), .ref (b + 214), .ref (b + 215), .int (oi (gi S 192 35)), .int (oi (gi S 192 36)), .int (oi (gi S 192 37)), .int (oi (gi S 192 38)), .ref (b + 216), .ref (b + 217), .ref (b + 218), .ref (b + 219)]) : va_E) = _
  rw [oi_to hx]
theorem p_192_5 {b : Nat} {kc : Nat → ClassId} {T S : SS} {x : Int32} {a : Int} (hx : x.toInt = a) : va_up (jM b kc T S) 192 (.inr (13, [.ref (b + 193), .ref (b + 194), .ref (b + 195), .int (oi (gi S 192 3)), .int (oi (gi S 192 4)), .int x, .ref (b + 196), .ref (b + 197), .int (oi (gi S 192 8)), .int (oi (gi S 192 9)), .int (oi (gi S 192 10)), .int (oi (gi S 192 11)), .int (oi (gi S 192 12)), .int (oi (gi S 192 13)), .int (oi (gi S 192 14)), .int (oi (gi S 192 15)), .ref (b + 198), .ref (b + 199), .ref (b + 200), .ref (b + 201), .ref (b + 202), .ref (b + 203), .ref (b + 204), .ref (b + 205), .ref (b + 206), .ref (b + 207), .ref (b + 208), .int (oi (gi S 192 27)), .ref (b + 209), .ref (b + 210), .ref (b + 211), .ref (b + 212), .ref (b + 213), .ref (b + 214), .ref (b + 215), .int (oi (gi S 192 35)), .int (oi (gi S 192 36)), .int (oi (gi S 192 37)), .int (oi (gi S 192 38)), .ref (b + 216), .ref (b + 217), .ref (b + 218), .ref (b + 219)])) = jM b kc T (si S 192 5 a) := by
  refine jM_up (by decide) n_si ?_
  show (.inr (13, [.ref (b + 193), .ref (b + 194), .ref (b + 195), .int (oi (gi S 192 3)), .int (oi (gi S 192 4)), .int (oi a), .ref (b + 196), .ref (b + 197), .int (oi (gi S 192 8)), .int (oi (gi S 192 9)), .int (oi (gi S 192 10)), .int (oi (gi S 192 11)), .int (oi (gi S 192 12)), .int (oi (gi S 192 13)), .int (oi (gi S 192 14)), .int (oi (gi S 192 15)), .ref (b + 198), .ref (b + 199), .ref (b + 200), .ref (b + 201), .ref (b + 202), .ref (b + 203), .ref (b + 204), .ref (b + 205), .ref (b + 206), .ref (b + 207), .ref (b + 208), .int (oi (gi S 192 27)), .ref (b + 209), .ref (b + 210), .ref (b + 211), .ref (b + 212), .ref (b + 213), .ref (b + 214), .ref (b + 215), .int (oi (gi S 192 35)), .int (oi (gi S 192 36)), .int (oi (gi S 192 37)), .int (oi (gi S 192 38)), .ref (b + 216), .ref (b + 217), .ref (b + 218), .ref (b + 219)]) : va_E) = _
  rw [oi_to hx]
theorem p_192_8 {b : Nat} {kc : Nat → ClassId} {T S : SS} {x : Int32} {a : Int} (hx : x.toInt = a) : va_up (jM b kc T S) 192 (.inr (13, [.ref (b + 193), .ref (b + 194), .ref (b + 195), .int (oi (gi S 192 3)), .int (oi (gi S 192 4)), .int (oi (gi S 192 5)), .ref (b + 196), .ref (b + 197), .int x, .int (oi (gi S 192 9)), .int (oi (gi S 192 10)), .int (oi (gi S 192 11)), .int (oi (gi S 192 12)), .int (oi (gi S 192 13)), .int (oi (gi S 192 14)), .int (oi (gi S 192 15)), .ref (b + 198), .ref (b + 199), .ref (b + 200), .ref (b + 201), .ref (b + 202), .ref (b + 203), .ref (b + 204), .ref (b + 205), .ref (b + 206), .ref (b + 207), .ref (b + 208), .int (oi (gi S 192 27)), .ref (b + 209), .ref (b + 210), .ref (b + 211), .ref (b + 212), .ref (b + 213), .ref (b + 214), .ref (b + 215), .int (oi (gi S 192 35)), .int (oi (gi S 192 36)), .int (oi (gi S 192 37)), .int (oi (gi S 192 38)), .ref (b + 216), .ref (b + 217), .ref (b + 218), .ref (b + 219)])) = jM b kc T (si S 192 8 a) := by
  refine jM_up (by decide) n_si ?_
  show (.inr (13, [.ref (b + 193), .ref (b + 194), .ref (b + 195), .int (oi (gi S 192 3)), .int (oi (gi S 192 4)), .int (oi (gi S 192 5)), .ref (b + 196), .ref (b + 197), .int (oi a), .int (oi (gi S 192 9)), .int (oi (gi S 192 10)), .int (oi (gi S 192 11)), .int (oi (gi S 192 12)), .int (oi (gi S 192 13)), .int (oi (gi S 192 14)), .int (oi (gi S 192 15)), .ref (b + 198), .ref (b + 199), .ref (b + 200), .ref (b + 201), .ref (b + 202), .ref (b + 203), .ref (b + 204), .ref (b + 205), .ref (b + 206), .ref (b + 207), .ref (b + 208), .int (oi (gi S 192 27)), .ref (b + 209), .ref (b + 210), .ref (b + 211), .ref (b + 212), .ref (b + 213), .ref (b + 214), .ref (b + 215), .int (oi (gi S 192 35)), .int (oi (gi S 192 36)), .int (oi (gi S 192 37)), .int (oi (gi S 192 38)), .ref (b + 216), .ref (b + 217), .ref (b + 218), .ref (b + 219)]) : va_E) = _
  rw [oi_to hx]
theorem p_192_9 {b : Nat} {kc : Nat → ClassId} {T S : SS} {x : Int32} {a : Int} (hx : x.toInt = a) : va_up (jM b kc T S) 192 (.inr (13, [.ref (b + 193), .ref (b + 194), .ref (b + 195), .int (oi (gi S 192 3)), .int (oi (gi S 192 4)), .int (oi (gi S 192 5)), .ref (b + 196), .ref (b + 197), .int (oi (gi S 192 8)), .int x, .int (oi (gi S 192 10)), .int (oi (gi S 192 11)), .int (oi (gi S 192 12)), .int (oi (gi S 192 13)), .int (oi (gi S 192 14)), .int (oi (gi S 192 15)), .ref (b + 198), .ref (b + 199), .ref (b + 200), .ref (b + 201), .ref (b + 202), .ref (b + 203), .ref (b + 204), .ref (b + 205), .ref (b + 206), .ref (b + 207), .ref (b + 208), .int (oi (gi S 192 27)), .ref (b + 209), .ref (b + 210), .ref (b + 211), .ref (b + 212), .ref (b + 213), .ref (b + 214), .ref (b + 215), .int (oi (gi S 192 35)), .int (oi (gi S 192 36)), .int (oi (gi S 192 37)), .int (oi (gi S 192 38)), .ref (b + 216), .ref (b + 217), .ref (b + 218), .ref (b + 219)])) = jM b kc T (si S 192 9 a) := by
  refine jM_up (by decide) n_si ?_
  show (.inr (13, [.ref (b + 193), .ref (b + 194), .ref (b + 195), .int (oi (gi S 192 3)), .int (oi (gi S 192 4)), .int (oi (gi S 192 5)), .ref (b + 196), .ref (b + 197), .int (oi (gi S 192 8)), .int (oi a), .int (oi (gi S 192 10)), .int (oi (gi S 192 11)), .int (oi (gi S 192 12)), .int (oi (gi S 192 13)), .int (oi (gi S 192 14)), .int (oi (gi S 192 15)), .ref (b + 198), .ref (b + 199), .ref (b + 200), .ref (b + 201), .ref (b + 202), .ref (b + 203), .ref (b + 204), .ref (b + 205), .ref (b + 206), .ref (b + 207), .ref (b + 208), .int (oi (gi S 192 27)), .ref (b + 209), .ref (b + 210), .ref (b + 211), .ref (b + 212), .ref (b + 213), .ref (b + 214), .ref (b + 215), .int (oi (gi S 192 35)), .int (oi (gi S 192 36)), .int (oi (gi S 192 37)), .int (oi (gi S 192 38)), .ref (b + 216), .ref (b + 217), .ref (b + 218), .ref (b + 219)]) : va_E) = _
  rw [oi_to hx]
theorem p_192_10 {b : Nat} {kc : Nat → ClassId} {T S : SS} {x : Int32} {a : Int} (hx : x.toInt = a) : va_up (jM b kc T S) 192 (.inr (13, [.ref (b + 193), .ref (b + 194), .ref (b + 195), .int (oi (gi S 192 3)), .int (oi (gi S 192 4)), .int (oi (gi S 192 5)), .ref (b + 196), .ref (b + 197), .int (oi (gi S 192 8)), .int (oi (gi S 192 9)), .int x, .int (oi (gi S 192 11)), .int (oi (gi S 192 12)), .int (oi (gi S 192 13)), .int (oi (gi S 192 14)), .int (oi (gi S 192 15)), .ref (b + 198), .ref (b + 199), .ref (b + 200), .ref (b + 201), .ref (b + 202), .ref (b + 203), .ref (b + 204), .ref (b + 205), .ref (b + 206), .ref (b + 207), .ref (b + 208), .int (oi (gi S 192 27)), .ref (b + 209), .ref (b + 210), .ref (b + 211), .ref (b + 212), .ref (b + 213), .ref (b + 214), .ref (b + 215), .int (oi (gi S 192 35)), .int (oi (gi S 192 36)), .int (oi (gi S 192 37)), .int (oi (gi S 192 38)), .ref (b + 216), .ref (b + 217), .ref (b + 218), .ref (b + 219)])) = jM b kc T (si S 192 10 a) := by
  refine jM_up (by decide) n_si ?_
  show (.inr (13, [.ref (b + 193), .ref (b + 194), .ref (b + 195), .int (oi (gi S 192 3)), .int (oi (gi S 192 4)), .int (oi (gi S 192 5)), .ref (b + 196), .ref (b + 197), .int (oi (gi S 192 8)), .int (oi (gi S 192 9)), .int (oi a), .int (oi (gi S 192 11)), .int (oi (gi S 192 12)), .int (oi (gi S 192 13)), .int (oi (gi S 192 14)), .int (oi (gi S 192 15)), .ref (b + 198), .ref (b + 199), .ref (b + 200), .ref (b + 201), .ref (b + 202), .ref (b + 203), .ref (b + 204), .ref (b + 205), .ref (b + 206), .ref (b + 207), .ref (b + 208), .int (oi (gi S 192 27)), .ref (b + 209), .ref (b + 210), .ref (b + 211), .ref (b + 212), .ref (b + 213), .ref (b + 214), .ref (b + 215), .int (oi (gi S 192 35)), .int (oi (gi S 192 36)), .int (oi (gi S 192 37)), .int (oi (gi S 192 38)), .ref (b + 216), .ref (b + 217), .ref (b + 218), .ref (b + 219)]) : va_E) = _
  rw [oi_to hx]
theorem p_192_11 {b : Nat} {kc : Nat → ClassId} {T S : SS} {x : Int32} {a : Int} (hx : x.toInt = a) : va_up (jM b kc T S) 192 (.inr (13, [.ref (b + 193), .ref (b + 194), .ref (b + 195), .int (oi (gi S 192 3)), .int (oi (gi S 192 4)), .int (oi (gi S 192 5)), .ref (b + 196), .ref (b + 197), .int (oi (gi S 192 8)), .int (oi (gi S 192 9)), .int (oi (gi S 192 10)), .int x, .int (oi (gi S 192 12)), .int (oi (gi S 192 13)), .int (oi (gi S 192 14)), .int (oi (gi S 192 15)), .ref (b + 198), .ref (b + 199), .ref (b + 200), .ref (b + 201), .ref (b + 202), .ref (b + 203), .ref (b + 204), .ref (b + 205), .ref (b + 206), .ref (b + 207), .ref (b + 208), .int (oi (gi S 192 27)), .ref (b + 209), .ref (b + 210), .ref (b + 211), .ref (b + 212), .ref (b + 213), .ref (b + 214), .ref (b + 215), .int (oi (gi S 192 35)), .int (oi (gi S 192 36)), .int (oi (gi S 192 37)), .int (oi (gi S 192 38)), .ref (b + 216), .ref (b + 217), .ref (b + 218), .ref (b + 219)])) = jM b kc T (si S 192 11 a) := by
  refine jM_up (by decide) n_si ?_
  show (.inr (13, [.ref (b + 193), .ref (b + 194), .ref (b + 195), .int (oi (gi S 192 3)), .int (oi (gi S 192 4)), .int (oi (gi S 192 5)), .ref (b + 196), .ref (b + 197), .int (oi (gi S 192 8)), .int (oi (gi S 192 9)), .int (oi (gi S 192 10)), .int (oi a), .int (oi (gi S 192 12)), .int (oi (gi S 192 13)), .int (oi (gi S 192 14)), .int (oi (gi S 192 15)), .ref (b + 198), .ref (b + 199), .ref (b + 200), .ref (b + 201), .ref (b + 202), .ref (b + 203), .ref (b + 204), .ref (b + 205), .ref (b + 206), .ref (b + 207), .ref (b + 208), .int (oi (gi S 192 27)), .ref (b + 209), .ref (b + 210), .ref (b + 211), .ref (b + 212), .ref (b + 213), .ref (b + 214), .ref (b + 215), .int (oi (gi S 192 35)), .int (oi (gi S 192 36)), .int (oi (gi S 192 37)), .int (oi (gi S 192 38)), .ref (b + 216), .ref (b + 217), .ref (b + 218), .ref (b + 219)]) : va_E) = _
  rw [oi_to hx]
theorem p_192_12 {b : Nat} {kc : Nat → ClassId} {T S : SS} {x : Int32} {a : Int} (hx : x.toInt = a) : va_up (jM b kc T S) 192 (.inr (13, [.ref (b + 193), .ref (b + 194), .ref (b + 195), .int (oi (gi S 192 3)), .int (oi (gi S 192 4)), .int (oi (gi S 192 5)), .ref (b + 196), .ref (b + 197), .int (oi (gi S 192 8)), .int (oi (gi S 192 9)), .int (oi (gi S 192 10)), .int (oi (gi S 192 11)), .int x, .int (oi (gi S 192 13)), .int (oi (gi S 192 14)), .int (oi (gi S 192 15)), .ref (b + 198), .ref (b + 199), .ref (b + 200), .ref (b + 201), .ref (b + 202), .ref (b + 203), .ref (b + 204), .ref (b + 205), .ref (b + 206), .ref (b + 207), .ref (b + 208), .int (oi (gi S 192 27)), .ref (b + 209), .ref (b + 210), .ref (b + 211), .ref (b + 212), .ref (b + 213), .ref (b + 214), .ref (b + 215), .int (oi (gi S 192 35)), .int (oi (gi S 192 36)), .int (oi (gi S 192 37)), .int (oi (gi S 192 38)), .ref (b + 216), .ref (b + 217), .ref (b + 218), .ref (b + 219)])) = jM b kc T (si S 192 12 a) := by
  refine jM_up (by decide) n_si ?_
  show (.inr (13, [.ref (b + 193), .ref (b + 194), .ref (b + 195), .int (oi (gi S 192 3)), .int (oi (gi S 192 4)), .int (oi (gi S 192 5)), .ref (b + 196), .ref (b + 197), .int (oi (gi S 192 8)), .int (oi (gi S 192 9)), .int (oi (gi S 192 10)), .int (oi (gi S 192 11)), .int (oi a), .int (oi (gi S 192 13)), .int (oi (gi S 192 14)), .int (oi (gi S 192 15)), .ref (b + 198), .ref (b + 199), .ref (b + 200), .ref (b + 201), .ref (b + 202), .ref (b + 203), .ref (b + 204), .ref (b + 205), .ref (b + 206), .ref (b + 207), .ref (b + 208), .int (oi (gi S 192 27)), .ref (b + 209), .ref (b + 210), .ref (b + 211), .ref (b + 212), .ref (b + 213), .ref (b + 214), .ref (b + 215), .int (oi (gi S 192 35)), .int (oi (gi S 192 36)), .int (oi (gi S 192 37)), .int (oi (gi S 192 38)), .ref (b + 216), .ref (b + 217), .ref (b + 218), .ref (b + 219)]) : va_E) = _
  rw [oi_to hx]
theorem p_192_13 {b : Nat} {kc : Nat → ClassId} {T S : SS} {x : Int32} {a : Int} (hx : x.toInt = a) : va_up (jM b kc T S) 192 (.inr (13, [.ref (b + 193), .ref (b + 194), .ref (b + 195), .int (oi (gi S 192 3)), .int (oi (gi S 192 4)), .int (oi (gi S 192 5)), .ref (b + 196), .ref (b + 197), .int (oi (gi S 192 8)), .int (oi (gi S 192 9)), .int (oi (gi S 192 10)), .int (oi (gi S 192 11)), .int (oi (gi S 192 12)), .int x, .int (oi (gi S 192 14)), .int (oi (gi S 192 15)), .ref (b + 198), .ref (b + 199), .ref (b + 200), .ref (b + 201), .ref (b + 202), .ref (b + 203), .ref (b + 204), .ref (b + 205), .ref (b + 206), .ref (b + 207), .ref (b + 208), .int (oi (gi S 192 27)), .ref (b + 209), .ref (b + 210), .ref (b + 211), .ref (b + 212), .ref (b + 213), .ref (b + 214), .ref (b + 215), .int (oi (gi S 192 35)), .int (oi (gi S 192 36)), .int (oi (gi S 192 37)), .int (oi (gi S 192 38)), .ref (b + 216), .ref (b + 217), .ref (b + 218), .ref (b + 219)])) = jM b kc T (si S 192 13 a) := by
  refine jM_up (by decide) n_si ?_
  show (.inr (13, [.ref (b + 193), .ref (b + 194), .ref (b + 195), .int (oi (gi S 192 3)), .int (oi (gi S 192 4)), .int (oi (gi S 192 5)), .ref (b + 196), .ref (b + 197), .int (oi (gi S 192 8)), .int (oi (gi S 192 9)), .int (oi (gi S 192 10)), .int (oi (gi S 192 11)), .int (oi (gi S 192 12)), .int (oi a), .int (oi (gi S 192 14)), .int (oi (gi S 192 15)), .ref (b + 198), .ref (b + 199), .ref (b + 200), .ref (b + 201), .ref (b + 202), .ref (b + 203), .ref (b + 204), .ref (b + 205), .ref (b + 206), .ref (b + 207), .ref (b + 208), .int (oi (gi S 192 27)), .ref (b + 209), .ref (b + 210), .ref (b + 211), .ref (b + 212), .ref (b + 213), .ref (b + 214), .ref (b + 215), .int (oi (gi S 192 35)), .int (oi (gi S 192 36)), .int (oi (gi S 192 37)), .int (oi (gi S 192 38)), .ref (b + 216), .ref (b + 217), .ref (b + 218), .ref (b + 219)]) : va_E) = _
  rw [oi_to hx]
theorem p_192_14 {b : Nat} {kc : Nat → ClassId} {T S : SS} {x : Int32} {a : Int} (hx : x.toInt = a) : va_up (jM b kc T S) 192 (.inr (13, [.ref (b + 193), .ref (b + 194), .ref (b + 195), .int (oi (gi S 192 3)), .int (oi (gi S 192 4)), .int (oi (gi S 192 5)), .ref (b + 196), .ref (b + 197), .int (oi (gi S 192 8)), .int (oi (gi S 192 9)), .int (oi (gi S 192 10)), .int (oi (gi S 192 11)), .int (oi (gi S 192 12)), .int (oi (gi S 192 13)), .int x, .int (oi (gi S 192 15)), .ref (b + 198), .ref (b + 199), .ref (b + 200), .ref (b + 201), .ref (b + 202), .ref (b + 203), .ref (b + 204), .ref (b + 205), .ref (b + 206), .ref (b + 207), .ref (b + 208), .int (oi (gi S 192 27)), .ref (b + 209), .ref (b + 210), .ref (b + 211), .ref (b + 212), .ref (b + 213), .ref (b + 214), .ref (b + 215), .int (oi (gi S 192 35)), .int (oi (gi S 192 36)), .int (oi (gi S 192 37)), .int (oi (gi S 192 38)), .ref (b + 216), .ref (b + 217), .ref (b + 218), .ref (b + 219)])) = jM b kc T (si S 192 14 a) := by
  refine jM_up (by decide) n_si ?_
  show (.inr (13, [.ref (b + 193), .ref (b + 194), .ref (b + 195), .int (oi (gi S 192 3)), .int (oi (gi S 192 4)), .int (oi (gi S 192 5)), .ref (b + 196), .ref (b + 197), .int (oi (gi S 192 8)), .int (oi (gi S 192 9)), .int (oi (gi S 192 10)), .int (oi (gi S 192 11)), .int (oi (gi S 192 12)), .int (oi (gi S 192 13)), .int (oi a), .int (oi (gi S 192 15)), .ref (b + 198), .ref (b + 199), .ref (b + 200), .ref (b + 201), .ref (b + 202), .ref (b + 203), .ref (b + 204), .ref (b + 205), .ref (b + 206), .ref (b + 207), .ref (b + 208), .int (oi (gi S 192 27)), .ref (b + 209), .ref (b + 210), .ref (b + 211), .ref (b + 212), .ref (b + 213), .ref (b + 214), .ref (b + 215), .int (oi (gi S 192 35)), .int (oi (gi S 192 36)), .int (oi (gi S 192 37)), .int (oi (gi S 192 38)), .ref (b + 216), .ref (b + 217), .ref (b + 218), .ref (b + 219)]) : va_E) = _
  rw [oi_to hx]
theorem p_192_15 {b : Nat} {kc : Nat → ClassId} {T S : SS} {x : Int32} {a : Int} (hx : x.toInt = a) : va_up (jM b kc T S) 192 (.inr (13, [.ref (b + 193), .ref (b + 194), .ref (b + 195), .int (oi (gi S 192 3)), .int (oi (gi S 192 4)), .int (oi (gi S 192 5)), .ref (b + 196), .ref (b + 197), .int (oi (gi S 192 8)), .int (oi (gi S 192 9)), .int (oi (gi S 192 10)), .int (oi (gi S 192 11)), .int (oi (gi S 192 12)), .int (oi (gi S 192 13)), .int (oi (gi S 192 14)), .int x, .ref (b + 198), .ref (b + 199), .ref (b + 200), .ref (b + 201), .ref (b + 202), .ref (b + 203), .ref (b + 204), .ref (b + 205), .ref (b + 206), .ref (b + 207), .ref (b + 208), .int (oi (gi S 192 27)), .ref (b + 209), .ref (b + 210), .ref (b + 211), .ref (b + 212), .ref (b + 213), .ref (b + 214), .ref (b + 215), .int (oi (gi S 192 35)), .int (oi (gi S 192 36)), .int (oi (gi S 192 37)), .int (oi (gi S 192 38)), .ref (b + 216), .ref (b + 217), .ref (b + 218), .ref (b + 219)])) = jM b kc T (si S 192 15 a) := by
  refine jM_up (by decide) n_si ?_
  show (.inr (13, [.ref (b + 193), .ref (b + 194), .ref (b + 195), .int (oi (gi S 192 3)), .int (oi (gi S 192 4)), .int (oi (gi S 192 5)), .ref (b + 196), .ref (b + 197), .int (oi (gi S 192 8)), .int (oi (gi S 192 9)), .int (oi (gi S 192 10)), .int (oi (gi S 192 11)), .int (oi (gi S 192 12)), .int (oi (gi S 192 13)), .int (oi (gi S 192 14)), .int (oi a), .ref (b + 198), .ref (b + 199), .ref (b + 200), .ref (b + 201), .ref (b + 202), .ref (b + 203), .ref (b + 204), .ref (b + 205), .ref (b + 206), .ref (b + 207), .ref (b + 208), .int (oi (gi S 192 27)), .ref (b + 209), .ref (b + 210), .ref (b + 211), .ref (b + 212), .ref (b + 213), .ref (b + 214), .ref (b + 215), .int (oi (gi S 192 35)), .int (oi (gi S 192 36)), .int (oi (gi S 192 37)), .int (oi (gi S 192 38)), .ref (b + 216), .ref (b + 217), .ref (b + 218), .ref (b + 219)]) : va_E) = _
  rw [oi_to hx]
theorem p_192_27 {b : Nat} {kc : Nat → ClassId} {T S : SS} {x : Int32} {a : Int} (hx : x.toInt = a) : va_up (jM b kc T S) 192 (.inr (13, [.ref (b + 193), .ref (b + 194), .ref (b + 195), .int (oi (gi S 192 3)), .int (oi (gi S 192 4)), .int (oi (gi S 192 5)), .ref (b + 196), .ref (b + 197), .int (oi (gi S 192 8)), .int (oi (gi S 192 9)), .int (oi (gi S 192 10)), .int (oi (gi S 192 11)), .int (oi (gi S 192 12)), .int (oi (gi S 192 13)), .int (oi (gi S 192 14)), .int (oi (gi S 192 15)), .ref (b + 198), .ref (b + 199), .ref (b + 200), .ref (b + 201), .ref (b + 202), .ref (b + 203), .ref (b + 204), .ref (b + 205), .ref (b + 206), .ref (b + 207), .ref (b + 208), .int x, .ref (b + 209), .ref (b + 210), .ref (b + 211), .ref (b + 212), .ref (b + 213), .ref (b + 214), .ref (b + 215), .int (oi (gi S 192 35)), .int (oi (gi S 192 36)), .int (oi (gi S 192 37)), .int (oi (gi S 192 38)), .ref (b + 216), .ref (b + 217), .ref (b + 218), .ref (b + 219)])) = jM b kc T (si S 192 27 a) := by
  refine jM_up (by decide) n_si ?_
  show (.inr (13, [.ref (b + 193), .ref (b + 194), .ref (b + 195), .int (oi (gi S 192 3)), .int (oi (gi S 192 4)), .int (oi (gi S 192 5)), .ref (b + 196), .ref (b + 197), .int (oi (gi S 192 8)), .int (oi (gi S 192 9)), .int (oi (gi S 192 10)), .int (oi (gi S 192 11)), .int (oi (gi S 192 12)), .int (oi (gi S 192 13)), .int (oi (gi S 192 14)), .int (oi (gi S 192 15)), .ref (b + 198), .ref (b + 199), .ref (b + 200), .ref (b + 201), .ref (b + 202), .ref (b + 203), .ref (b + 204), .ref (b + 205), .ref (b + 206), .ref (b + 207), .ref (b + 208), .int (oi a), .ref (b + 209), .ref (b + 210), .ref (b + 211), .ref (b + 212), .ref (b + 213), .ref (b + 214), .ref (b + 215), .int (oi (gi S 192 35)), .int (oi (gi S 192 36)), .int (oi (gi S 192 37)), .int (oi (gi S 192 38)), .ref (b + 216), .ref (b + 217), .ref (b + 218), .ref (b + 219)]) : va_E) = _
  rw [oi_to hx]
theorem p_192_35 {b : Nat} {kc : Nat → ClassId} {T S : SS} {x : Int32} {a : Int} (hx : x.toInt = a) : va_up (jM b kc T S) 192 (.inr (13, [.ref (b + 193), .ref (b + 194), .ref (b + 195), .int (oi (gi S 192 3)), .int (oi (gi S 192 4)), .int (oi (gi S 192 5)), .ref (b + 196), .ref (b + 197), .int (oi (gi S 192 8)), .int (oi (gi S 192 9)), .int (oi (gi S 192 10)), .int (oi (gi S 192 11)), .int (oi (gi S 192 12)), .int (oi (gi S 192 13)), .int (oi (gi S 192 14)), .int (oi (gi S 192 15)), .ref (b + 198), .ref (b + 199), .ref (b + 200), .ref (b + 201), .ref (b + 202), .ref (b + 203), .ref (b + 204), .ref (b + 205), .ref (b + 206), .ref (b + 207), .ref (b + 208), .int (oi (gi S 192 27)), .ref (b + 209), .ref (b + 210), .ref (b + 211), .ref (b + 212), .ref (b + 213), .ref (b + 214), .ref (b + 215), .int x, .int (oi (gi S 192 36)), .int (oi (gi S 192 37)), .int (oi (gi S 192 38)), .ref (b + 216), .ref (b + 217), .ref (b + 218), .ref (b + 219)])) = jM b kc T (si S 192 35 a) := by
  refine jM_up (by decide) n_si ?_
  show (.inr (13, [.ref (b + 193), .ref (b + 194), .ref (b + 195), .int (oi (gi S 192 3)), .int (oi (gi S 192 4)), .int (oi (gi S 192 5)), .ref (b + 196), .ref (b + 197), .int (oi (gi S 192 8)), .int (oi (gi S 192 9)), .int (oi (gi S 192 10)), .int (oi (gi S 192 11)), .int (oi (gi S 192 12)), .int (oi (gi S 192 13)), .int (oi (gi S 192 14)), .int (oi (gi S 192 15)), .ref (b + 198), .ref (b + 199), .ref (b + 200), .ref (b + 201), .ref (b + 202), .ref (b + 203), .ref (b + 204), .ref (b + 205), .ref (b + 206), .ref (b + 207), .ref (b + 208), .int (oi (gi S 192 27)), .ref (b + 209), .ref (b + 210), .ref (b + 211), .ref (b + 212), .ref (b + 213), .ref (b + 214), .ref (b + 215), .int (oi a), .int (oi (gi S 192 36)), .int (oi (gi S 192 37)), .int (oi (gi S 192 38)), .ref (b + 216), .ref (b + 217), .ref (b + 218), .ref (b + 219)]) : va_E) = _
  rw [oi_to hx]
theorem p_192_36 {b : Nat} {kc : Nat → ClassId} {T S : SS} {x : Int32} {a : Int} (hx : x.toInt = a) : va_up (jM b kc T S) 192 (.inr (13, [.ref (b + 193), .ref (b + 194), .ref (b + 195), .int (oi (gi S 192 3)), .int (oi (gi S 192 4)), .int (oi (gi S 192 5)), .ref (b + 196), .ref (b + 197), .int (oi (gi S 192 8)), .int (oi (gi S 192 9)), .int (oi (gi S 192 10)), .int (oi (gi S 192 11)), .int (oi (gi S 192 12)), .int (oi (gi S 192 13)), .int (oi (gi S 192 14)), .int (oi (gi S 192 15)), .ref (b + 198), .ref (b + 199), .ref (b + 200), .ref (b + 201), .ref (b + 202), .ref (b + 203), .ref (b + 204), .ref (b + 205), .ref (b + 206), .ref (b + 207), .ref (b + 208), .int (oi (gi S 192 27)), .ref (b + 209), .ref (b + 210), .ref (b + 211), .ref (b + 212), .ref (b + 213), .ref (b + 214), .ref (b + 215), .int (oi (gi S 192 35)), .int x, .int (oi (gi S 192 37)), .int (oi (gi S 192 38)), .ref (b + 216), .ref (b + 217), .ref (b + 218), .ref (b + 219)])) = jM b kc T (si S 192 36 a) := by
  refine jM_up (by decide) n_si ?_
  show (.inr (13, [.ref (b + 193), .ref (b + 194), .ref (b + 195), .int (oi (gi S 192 3)), .int (oi (gi S 192 4)), .int (oi (gi S 192 5)), .ref (b + 196), .ref (b + 197), .int (oi (gi S 192 8)), .int (oi (gi S 192 9)), .int (oi (gi S 192 10)), .int (oi (gi S 192 11)), .int (oi (gi S 192 12)), .int (oi (gi S 192 13)), .int (oi (gi S 192 14)), .int (oi (gi S 192 15)), .ref (b + 198), .ref (b + 199), .ref (b + 200), .ref (b + 201), .ref (b + 202), .ref (b + 203), .ref (b + 204), .ref (b + 205), .ref (b + 206), .ref (b + 207), .ref (b + 208), .int (oi (gi S 192 27)), .ref (b + 209), .ref (b + 210), .ref (b + 211), .ref (b + 212), .ref (b + 213), .ref (b + 214), .ref (b + 215), .int (oi (gi S 192 35)), .int (oi a), .int (oi (gi S 192 37)), .int (oi (gi S 192 38)), .ref (b + 216), .ref (b + 217), .ref (b + 218), .ref (b + 219)]) : va_E) = _
  rw [oi_to hx]
theorem p_192_37 {b : Nat} {kc : Nat → ClassId} {T S : SS} {x : Int32} {a : Int} (hx : x.toInt = a) : va_up (jM b kc T S) 192 (.inr (13, [.ref (b + 193), .ref (b + 194), .ref (b + 195), .int (oi (gi S 192 3)), .int (oi (gi S 192 4)), .int (oi (gi S 192 5)), .ref (b + 196), .ref (b + 197), .int (oi (gi S 192 8)), .int (oi (gi S 192 9)), .int (oi (gi S 192 10)), .int (oi (gi S 192 11)), .int (oi (gi S 192 12)), .int (oi (gi S 192 13)), .int (oi (gi S 192 14)), .int (oi (gi S 192 15)), .ref (b + 198), .ref (b + 199), .ref (b + 200), .ref (b + 201), .ref (b + 202), .ref (b + 203), .ref (b + 204), .ref (b + 205), .ref (b + 206), .ref (b + 207), .ref (b + 208), .int (oi (gi S 192 27)), .ref (b + 209), .ref (b + 210), .ref (b + 211), .ref (b + 212), .ref (b + 213), .ref (b + 214), .ref (b + 215), .int (oi (gi S 192 35)), .int (oi (gi S 192 36)), .int x, .int (oi (gi S 192 38)), .ref (b + 216), .ref (b + 217), .ref (b + 218), .ref (b + 219)])) = jM b kc T (si S 192 37 a) := by
  refine jM_up (by decide) n_si ?_
  show (.inr (13, [.ref (b + 193), .ref (b + 194), .ref (b + 195), .int (oi (gi S 192 3)), .int (oi (gi S 192 4)), .int (oi (gi S 192 5)), .ref (b + 196), .ref (b + 197), .int (oi (gi S 192 8)), .int (oi (gi S 192 9)), .int (oi (gi S 192 10)), .int (oi (gi S 192 11)), .int (oi (gi S 192 12)), .int (oi (gi S 192 13)), .int (oi (gi S 192 14)), .int (oi (gi S 192 15)), .ref (b + 198), .ref (b + 199), .ref (b + 200), .ref (b + 201), .ref (b + 202), .ref (b + 203), .ref (b + 204), .ref (b + 205), .ref (b + 206), .ref (b + 207), .ref (b + 208), .int (oi (gi S 192 27)), .ref (b + 209), .ref (b + 210), .ref (b + 211), .ref (b + 212), .ref (b + 213), .ref (b + 214), .ref (b + 215), .int (oi (gi S 192 35)), .int (oi (gi S 192 36)), .int (oi a), .int (oi (gi S 192 38)), .ref (b + 216), .ref (b + 217), .ref (b + 218), .ref (b + 219)]) : va_E) = _
  rw [oi_to hx]
theorem p_192_38 {b : Nat} {kc : Nat → ClassId} {T S : SS} {x : Int32} {a : Int} (hx : x.toInt = a) : va_up (jM b kc T S) 192 (.inr (13, [.ref (b + 193), .ref (b + 194), .ref (b + 195), .int (oi (gi S 192 3)), .int (oi (gi S 192 4)), .int (oi (gi S 192 5)), .ref (b + 196), .ref (b + 197), .int (oi (gi S 192 8)), .int (oi (gi S 192 9)), .int (oi (gi S 192 10)), .int (oi (gi S 192 11)), .int (oi (gi S 192 12)), .int (oi (gi S 192 13)), .int (oi (gi S 192 14)), .int (oi (gi S 192 15)), .ref (b + 198), .ref (b + 199), .ref (b + 200), .ref (b + 201), .ref (b + 202), .ref (b + 203), .ref (b + 204), .ref (b + 205), .ref (b + 206), .ref (b + 207), .ref (b + 208), .int (oi (gi S 192 27)), .ref (b + 209), .ref (b + 210), .ref (b + 211), .ref (b + 212), .ref (b + 213), .ref (b + 214), .ref (b + 215), .int (oi (gi S 192 35)), .int (oi (gi S 192 36)), .int (oi (gi S 192 37)), .int x, .ref (b + 216), .ref (b + 217), .ref (b + 218), .ref (b + 219)])) = jM b kc T (si S 192 38 a) := by
  refine jM_up (by decide) n_si ?_
  show (.inr (13, [.ref (b + 193), .ref (b + 194), .ref (b + 195), .int (oi (gi S 192 3)), .int (oi (gi S 192 4)), .int (oi (gi S 192 5)), .ref (b + 196), .ref (b + 197), .int (oi (gi S 192 8)), .int (oi (gi S 192 9)), .int (oi (gi S 192 10)), .int (oi (gi S 192 11)), .int (oi (gi S 192 12)), .int (oi (gi S 192 13)), .int (oi (gi S 192 14)), .int (oi (gi S 192 15)), .ref (b + 198), .ref (b + 199), .ref (b + 200), .ref (b + 201), .ref (b + 202), .ref (b + 203), .ref (b + 204), .ref (b + 205), .ref (b + 206), .ref (b + 207), .ref (b + 208), .int (oi (gi S 192 27)), .ref (b + 209), .ref (b + 210), .ref (b + 211), .ref (b + 212), .ref (b + 213), .ref (b + 214), .ref (b + 215), .int (oi (gi S 192 35)), .int (oi (gi S 192 36)), .int (oi (gi S 192 37)), .int (oi a), .ref (b + 216), .ref (b + 217), .ref (b + 218), .ref (b + 219)]) : va_E) = _
  rw [oi_to hx]
theorem p_mk_2 {b : Nat} {kc : Nat → ClassId} {T S : SS} {j : Nat} (hj : j < 40) {x : Int32} {a : Int} (hx : x.toInt = a) : va_up (jX b kc T S) (14 + 4 * j) (.inr (3, [.ref (b + (14 + 4 * j + 1)), .ref (b + (14 + 4 * j + 2)), .int x, .int (oi (gi S (14 + 4 * j) 3)), .int (oi (gi S (14 + 4 * j) 4)), .int (oi (gi S (14 + 4 * j) 5)), .int (oi (gi S (14 + 4 * j) 6)), .int (oi (gi S (14 + 4 * j) 7)), .int (oi (gi S (14 + 4 * j) 8)), .int (oi (gi S (14 + 4 * j) 9)), .int (oi (gi S (14 + 4 * j) 10)), .int (oi (gi S (14 + 4 * j) 11)), .int (oi (gi S (14 + 4 * j) 12))])) = jX b kc T (si S (14 + 4 * j) 2 a) := by
  refine jX_up (by omega) n_si ?_
  rw [cl_mark b kc hj, s_si]
  show (.inr (3, [.ref (b + (14 + 4 * j + 1)), .ref (b + (14 + 4 * j + 2)), .int (oi a), .int (oi (gi S (14 + 4 * j) 3)), .int (oi (gi S (14 + 4 * j) 4)), .int (oi (gi S (14 + 4 * j) 5)), .int (oi (gi S (14 + 4 * j) 6)), .int (oi (gi S (14 + 4 * j) 7)), .int (oi (gi S (14 + 4 * j) 8)), .int (oi (gi S (14 + 4 * j) 9)), .int (oi (gi S (14 + 4 * j) 10)), .int (oi (gi S (14 + 4 * j) 11)), .int (oi (gi S (14 + 4 * j) 12))]) : va_E) = _
  rw [oi_to hx]
theorem p_mk_3 {b : Nat} {kc : Nat → ClassId} {T S : SS} {j : Nat} (hj : j < 40) {x : Int32} {a : Int} (hx : x.toInt = a) : va_up (jX b kc T S) (14 + 4 * j) (.inr (3, [.ref (b + (14 + 4 * j + 1)), .ref (b + (14 + 4 * j + 2)), .int (oi (gi S (14 + 4 * j) 2)), .int x, .int (oi (gi S (14 + 4 * j) 4)), .int (oi (gi S (14 + 4 * j) 5)), .int (oi (gi S (14 + 4 * j) 6)), .int (oi (gi S (14 + 4 * j) 7)), .int (oi (gi S (14 + 4 * j) 8)), .int (oi (gi S (14 + 4 * j) 9)), .int (oi (gi S (14 + 4 * j) 10)), .int (oi (gi S (14 + 4 * j) 11)), .int (oi (gi S (14 + 4 * j) 12))])) = jX b kc T (si S (14 + 4 * j) 3 a) := by
  refine jX_up (by omega) n_si ?_
  rw [cl_mark b kc hj, s_si]
  show (.inr (3, [.ref (b + (14 + 4 * j + 1)), .ref (b + (14 + 4 * j + 2)), .int (oi (gi S (14 + 4 * j) 2)), .int (oi a), .int (oi (gi S (14 + 4 * j) 4)), .int (oi (gi S (14 + 4 * j) 5)), .int (oi (gi S (14 + 4 * j) 6)), .int (oi (gi S (14 + 4 * j) 7)), .int (oi (gi S (14 + 4 * j) 8)), .int (oi (gi S (14 + 4 * j) 9)), .int (oi (gi S (14 + 4 * j) 10)), .int (oi (gi S (14 + 4 * j) 11)), .int (oi (gi S (14 + 4 * j) 12))]) : va_E) = _
  rw [oi_to hx]
theorem p_mk_4 {b : Nat} {kc : Nat → ClassId} {T S : SS} {j : Nat} (hj : j < 40) {x : Int32} {a : Int} (hx : x.toInt = a) : va_up (jX b kc T S) (14 + 4 * j) (.inr (3, [.ref (b + (14 + 4 * j + 1)), .ref (b + (14 + 4 * j + 2)), .int (oi (gi S (14 + 4 * j) 2)), .int (oi (gi S (14 + 4 * j) 3)), .int x, .int (oi (gi S (14 + 4 * j) 5)), .int (oi (gi S (14 + 4 * j) 6)), .int (oi (gi S (14 + 4 * j) 7)), .int (oi (gi S (14 + 4 * j) 8)), .int (oi (gi S (14 + 4 * j) 9)), .int (oi (gi S (14 + 4 * j) 10)), .int (oi (gi S (14 + 4 * j) 11)), .int (oi (gi S (14 + 4 * j) 12))])) = jX b kc T (si S (14 + 4 * j) 4 a) := by
  refine jX_up (by omega) n_si ?_
  rw [cl_mark b kc hj, s_si]
  show (.inr (3, [.ref (b + (14 + 4 * j + 1)), .ref (b + (14 + 4 * j + 2)), .int (oi (gi S (14 + 4 * j) 2)), .int (oi (gi S (14 + 4 * j) 3)), .int (oi a), .int (oi (gi S (14 + 4 * j) 5)), .int (oi (gi S (14 + 4 * j) 6)), .int (oi (gi S (14 + 4 * j) 7)), .int (oi (gi S (14 + 4 * j) 8)), .int (oi (gi S (14 + 4 * j) 9)), .int (oi (gi S (14 + 4 * j) 10)), .int (oi (gi S (14 + 4 * j) 11)), .int (oi (gi S (14 + 4 * j) 12))]) : va_E) = _
  rw [oi_to hx]
theorem p_mk_5 {b : Nat} {kc : Nat → ClassId} {T S : SS} {j : Nat} (hj : j < 40) {x : Int32} {a : Int} (hx : x.toInt = a) : va_up (jX b kc T S) (14 + 4 * j) (.inr (3, [.ref (b + (14 + 4 * j + 1)), .ref (b + (14 + 4 * j + 2)), .int (oi (gi S (14 + 4 * j) 2)), .int (oi (gi S (14 + 4 * j) 3)), .int (oi (gi S (14 + 4 * j) 4)), .int x, .int (oi (gi S (14 + 4 * j) 6)), .int (oi (gi S (14 + 4 * j) 7)), .int (oi (gi S (14 + 4 * j) 8)), .int (oi (gi S (14 + 4 * j) 9)), .int (oi (gi S (14 + 4 * j) 10)), .int (oi (gi S (14 + 4 * j) 11)), .int (oi (gi S (14 + 4 * j) 12))])) = jX b kc T (si S (14 + 4 * j) 5 a) := by
  refine jX_up (by omega) n_si ?_
  rw [cl_mark b kc hj, s_si]
  show (.inr (3, [.ref (b + (14 + 4 * j + 1)), .ref (b + (14 + 4 * j + 2)), .int (oi (gi S (14 + 4 * j) 2)), .int (oi (gi S (14 + 4 * j) 3)), .int (oi (gi S (14 + 4 * j) 4)), .int (oi a), .int (oi (gi S (14 + 4 * j) 6)), .int (oi (gi S (14 + 4 * j) 7)), .int (oi (gi S (14 + 4 * j) 8)), .int (oi (gi S (14 + 4 * j) 9)), .int (oi (gi S (14 + 4 * j) 10)), .int (oi (gi S (14 + 4 * j) 11)), .int (oi (gi S (14 + 4 * j) 12))]) : va_E) = _
  rw [oi_to hx]
theorem p_mk_6 {b : Nat} {kc : Nat → ClassId} {T S : SS} {j : Nat} (hj : j < 40) {x : Int32} {a : Int} (hx : x.toInt = a) : va_up (jX b kc T S) (14 + 4 * j) (.inr (3, [.ref (b + (14 + 4 * j + 1)), .ref (b + (14 + 4 * j + 2)), .int (oi (gi S (14 + 4 * j) 2)), .int (oi (gi S (14 + 4 * j) 3)), .int (oi (gi S (14 + 4 * j) 4)), .int (oi (gi S (14 + 4 * j) 5)), .int x, .int (oi (gi S (14 + 4 * j) 7)), .int (oi (gi S (14 + 4 * j) 8)), .int (oi (gi S (14 + 4 * j) 9)), .int (oi (gi S (14 + 4 * j) 10)), .int (oi (gi S (14 + 4 * j) 11)), .int (oi (gi S (14 + 4 * j) 12))])) = jX b kc T (si S (14 + 4 * j) 6 a) := by
  refine jX_up (by omega) n_si ?_
  rw [cl_mark b kc hj, s_si]
  show (.inr (3, [.ref (b + (14 + 4 * j + 1)), .ref (b + (14 + 4 * j + 2)), .int (oi (gi S (14 + 4 * j) 2)), .int (oi (gi S (14 + 4 * j) 3)), .int (oi (gi S (14 + 4 * j) 4)), .int (oi (gi S (14 + 4 * j) 5)), .int (oi a), .int (oi (gi S (14 + 4 * j) 7)), .int (oi (gi S (14 + 4 * j) 8)), .int (oi (gi S (14 + 4 * j) 9)), .int (oi (gi S (14 + 4 * j) 10)), .int (oi (gi S (14 + 4 * j) 11)), .int (oi (gi S (14 + 4 * j) 12))]) : va_E) = _
  rw [oi_to hx]
theorem p_mk_7 {b : Nat} {kc : Nat → ClassId} {T S : SS} {j : Nat} (hj : j < 40) {x : Int32} {a : Int} (hx : x.toInt = a) : va_up (jX b kc T S) (14 + 4 * j) (.inr (3, [.ref (b + (14 + 4 * j + 1)), .ref (b + (14 + 4 * j + 2)), .int (oi (gi S (14 + 4 * j) 2)), .int (oi (gi S (14 + 4 * j) 3)), .int (oi (gi S (14 + 4 * j) 4)), .int (oi (gi S (14 + 4 * j) 5)), .int (oi (gi S (14 + 4 * j) 6)), .int x, .int (oi (gi S (14 + 4 * j) 8)), .int (oi (gi S (14 + 4 * j) 9)), .int (oi (gi S (14 + 4 * j) 10)), .int (oi (gi S (14 + 4 * j) 11)), .int (oi (gi S (14 + 4 * j) 12))])) = jX b kc T (si S (14 + 4 * j) 7 a) := by
  refine jX_up (by omega) n_si ?_
  rw [cl_mark b kc hj, s_si]
  show (.inr (3, [.ref (b + (14 + 4 * j + 1)), .ref (b + (14 + 4 * j + 2)), .int (oi (gi S (14 + 4 * j) 2)), .int (oi (gi S (14 + 4 * j) 3)), .int (oi (gi S (14 + 4 * j) 4)), .int (oi (gi S (14 + 4 * j) 5)), .int (oi (gi S (14 + 4 * j) 6)), .int (oi a), .int (oi (gi S (14 + 4 * j) 8)), .int (oi (gi S (14 + 4 * j) 9)), .int (oi (gi S (14 + 4 * j) 10)), .int (oi (gi S (14 + 4 * j) 11)), .int (oi (gi S (14 + 4 * j) 12))]) : va_E) = _
  rw [oi_to hx]
theorem p_mk_8 {b : Nat} {kc : Nat → ClassId} {T S : SS} {j : Nat} (hj : j < 40) {x : Int32} {a : Int} (hx : x.toInt = a) : va_up (jX b kc T S) (14 + 4 * j) (.inr (3, [.ref (b + (14 + 4 * j + 1)), .ref (b + (14 + 4 * j + 2)), .int (oi (gi S (14 + 4 * j) 2)), .int (oi (gi S (14 + 4 * j) 3)), .int (oi (gi S (14 + 4 * j) 4)), .int (oi (gi S (14 + 4 * j) 5)), .int (oi (gi S (14 + 4 * j) 6)), .int (oi (gi S (14 + 4 * j) 7)), .int x, .int (oi (gi S (14 + 4 * j) 9)), .int (oi (gi S (14 + 4 * j) 10)), .int (oi (gi S (14 + 4 * j) 11)), .int (oi (gi S (14 + 4 * j) 12))])) = jX b kc T (si S (14 + 4 * j) 8 a) := by
  refine jX_up (by omega) n_si ?_
  rw [cl_mark b kc hj, s_si]
  show (.inr (3, [.ref (b + (14 + 4 * j + 1)), .ref (b + (14 + 4 * j + 2)), .int (oi (gi S (14 + 4 * j) 2)), .int (oi (gi S (14 + 4 * j) 3)), .int (oi (gi S (14 + 4 * j) 4)), .int (oi (gi S (14 + 4 * j) 5)), .int (oi (gi S (14 + 4 * j) 6)), .int (oi (gi S (14 + 4 * j) 7)), .int (oi a), .int (oi (gi S (14 + 4 * j) 9)), .int (oi (gi S (14 + 4 * j) 10)), .int (oi (gi S (14 + 4 * j) 11)), .int (oi (gi S (14 + 4 * j) 12))]) : va_E) = _
  rw [oi_to hx]
theorem p_mk_9 {b : Nat} {kc : Nat → ClassId} {T S : SS} {j : Nat} (hj : j < 40) {x : Int32} {a : Int} (hx : x.toInt = a) : va_up (jX b kc T S) (14 + 4 * j) (.inr (3, [.ref (b + (14 + 4 * j + 1)), .ref (b + (14 + 4 * j + 2)), .int (oi (gi S (14 + 4 * j) 2)), .int (oi (gi S (14 + 4 * j) 3)), .int (oi (gi S (14 + 4 * j) 4)), .int (oi (gi S (14 + 4 * j) 5)), .int (oi (gi S (14 + 4 * j) 6)), .int (oi (gi S (14 + 4 * j) 7)), .int (oi (gi S (14 + 4 * j) 8)), .int x, .int (oi (gi S (14 + 4 * j) 10)), .int (oi (gi S (14 + 4 * j) 11)), .int (oi (gi S (14 + 4 * j) 12))])) = jX b kc T (si S (14 + 4 * j) 9 a) := by
  refine jX_up (by omega) n_si ?_
  rw [cl_mark b kc hj, s_si]
  show (.inr (3, [.ref (b + (14 + 4 * j + 1)), .ref (b + (14 + 4 * j + 2)), .int (oi (gi S (14 + 4 * j) 2)), .int (oi (gi S (14 + 4 * j) 3)), .int (oi (gi S (14 + 4 * j) 4)), .int (oi (gi S (14 + 4 * j) 5)), .int (oi (gi S (14 + 4 * j) 6)), .int (oi (gi S (14 + 4 * j) 7)), .int (oi (gi S (14 + 4 * j) 8)), .int (oi a), .int (oi (gi S (14 + 4 * j) 10)), .int (oi (gi S (14 + 4 * j) 11)), .int (oi (gi S (14 + 4 * j) 12))]) : va_E) = _
  rw [oi_to hx]
theorem p_mk_10 {b : Nat} {kc : Nat → ClassId} {T S : SS} {j : Nat} (hj : j < 40) {x : Int32} {a : Int} (hx : x.toInt = a) : va_up (jX b kc T S) (14 + 4 * j) (.inr (3, [.ref (b + (14 + 4 * j + 1)), .ref (b + (14 + 4 * j + 2)), .int (oi (gi S (14 + 4 * j) 2)), .int (oi (gi S (14 + 4 * j) 3)), .int (oi (gi S (14 + 4 * j) 4)), .int (oi (gi S (14 + 4 * j) 5)), .int (oi (gi S (14 + 4 * j) 6)), .int (oi (gi S (14 + 4 * j) 7)), .int (oi (gi S (14 + 4 * j) 8)), .int (oi (gi S (14 + 4 * j) 9)), .int x, .int (oi (gi S (14 + 4 * j) 11)), .int (oi (gi S (14 + 4 * j) 12))])) = jX b kc T (si S (14 + 4 * j) 10 a) := by
  refine jX_up (by omega) n_si ?_
  rw [cl_mark b kc hj, s_si]
  show (.inr (3, [.ref (b + (14 + 4 * j + 1)), .ref (b + (14 + 4 * j + 2)), .int (oi (gi S (14 + 4 * j) 2)), .int (oi (gi S (14 + 4 * j) 3)), .int (oi (gi S (14 + 4 * j) 4)), .int (oi (gi S (14 + 4 * j) 5)), .int (oi (gi S (14 + 4 * j) 6)), .int (oi (gi S (14 + 4 * j) 7)), .int (oi (gi S (14 + 4 * j) 8)), .int (oi (gi S (14 + 4 * j) 9)), .int (oi a), .int (oi (gi S (14 + 4 * j) 11)), .int (oi (gi S (14 + 4 * j) 12))]) : va_E) = _
  rw [oi_to hx]
theorem p_mk_11 {b : Nat} {kc : Nat → ClassId} {T S : SS} {j : Nat} (hj : j < 40) {x : Int32} {a : Int} (hx : x.toInt = a) : va_up (jX b kc T S) (14 + 4 * j) (.inr (3, [.ref (b + (14 + 4 * j + 1)), .ref (b + (14 + 4 * j + 2)), .int (oi (gi S (14 + 4 * j) 2)), .int (oi (gi S (14 + 4 * j) 3)), .int (oi (gi S (14 + 4 * j) 4)), .int (oi (gi S (14 + 4 * j) 5)), .int (oi (gi S (14 + 4 * j) 6)), .int (oi (gi S (14 + 4 * j) 7)), .int (oi (gi S (14 + 4 * j) 8)), .int (oi (gi S (14 + 4 * j) 9)), .int (oi (gi S (14 + 4 * j) 10)), .int x, .int (oi (gi S (14 + 4 * j) 12))])) = jX b kc T (si S (14 + 4 * j) 11 a) := by
  refine jX_up (by omega) n_si ?_
  rw [cl_mark b kc hj, s_si]
  show (.inr (3, [.ref (b + (14 + 4 * j + 1)), .ref (b + (14 + 4 * j + 2)), .int (oi (gi S (14 + 4 * j) 2)), .int (oi (gi S (14 + 4 * j) 3)), .int (oi (gi S (14 + 4 * j) 4)), .int (oi (gi S (14 + 4 * j) 5)), .int (oi (gi S (14 + 4 * j) 6)), .int (oi (gi S (14 + 4 * j) 7)), .int (oi (gi S (14 + 4 * j) 8)), .int (oi (gi S (14 + 4 * j) 9)), .int (oi (gi S (14 + 4 * j) 10)), .int (oi a), .int (oi (gi S (14 + 4 * j) 12))]) : va_E) = _
  rw [oi_to hx]
theorem p_mk_12 {b : Nat} {kc : Nat → ClassId} {T S : SS} {j : Nat} (hj : j < 40) {x : Int32} {a : Int} (hx : x.toInt = a) : va_up (jX b kc T S) (14 + 4 * j) (.inr (3, [.ref (b + (14 + 4 * j + 1)), .ref (b + (14 + 4 * j + 2)), .int (oi (gi S (14 + 4 * j) 2)), .int (oi (gi S (14 + 4 * j) 3)), .int (oi (gi S (14 + 4 * j) 4)), .int (oi (gi S (14 + 4 * j) 5)), .int (oi (gi S (14 + 4 * j) 6)), .int (oi (gi S (14 + 4 * j) 7)), .int (oi (gi S (14 + 4 * j) 8)), .int (oi (gi S (14 + 4 * j) 9)), .int (oi (gi S (14 + 4 * j) 10)), .int (oi (gi S (14 + 4 * j) 11)), .int x])) = jX b kc T (si S (14 + 4 * j) 12 a) := by
  refine jX_up (by omega) n_si ?_
  rw [cl_mark b kc hj, s_si]
  show (.inr (3, [.ref (b + (14 + 4 * j + 1)), .ref (b + (14 + 4 * j + 2)), .int (oi (gi S (14 + 4 * j) 2)), .int (oi (gi S (14 + 4 * j) 3)), .int (oi (gi S (14 + 4 * j) 4)), .int (oi (gi S (14 + 4 * j) 5)), .int (oi (gi S (14 + 4 * j) 6)), .int (oi (gi S (14 + 4 * j) 7)), .int (oi (gi S (14 + 4 * j) 8)), .int (oi (gi S (14 + 4 * j) 9)), .int (oi (gi S (14 + 4 * j) 10)), .int (oi (gi S (14 + 4 * j) 11)), .int (oi a)]) : va_E) = _
  rw [oi_to hx]
theorem p_sh_1 {b : Nat} {kc : Nat → ClassId} {T S : SS} {r : Nat} (hr : shOk r) {x : Int32} {a : Int} (hx : x.toInt = a) : va_up (jX b kc T S) r (.inr (8, [.ref (b + (r + 1)), .int x])) = jX b kc T (si S r 1 a) := by
  refine jX_up (by omega) n_si ?_
  rw [cl_sh b kc hr, s_si]
  show (.inr (8, [.ref (b + (r + 1)), .int (oi a)]) : va_E) = _
  rw [oi_to hx]
/-- an array's cell as a function of its contents -/
def aI (b : Nat) (kc : Nat → ClassId) (r t N : Nat) : Prop := ∀ (i : Nat → Int) (l : Nat → Int64) (q : Nat → Option Nat), cellOf b kc r i l q = .inl (kc t, N, .inl (fun k => oi (i k)))
def aL (b : Nat) (kc : Nat → ClassId) (r N : Nat) : Prop := ∀ (i : Nat → Int) (l : Nat → Int64) (q : Nat → Option Nat), cellOf b kc r i l q = .inl (kc 2, N, .inr (.inl (fun k => l k)))
def aQ (b : Nat) (kc : Nat → ClassId) (r N : Nat) : Prop := ∀ (i : Nat → Int) (l : Nat → Int64) (q : Nat → Option Nat), cellOf b kc r i l q = .inl (kc 4, N, .inr (.inr (.inr (.inr (fun k => om b (q k))))))
/-- the two maps: which of the two states is told, and where -/
def jK (b : Nat) (kc : Nat → ClassId) (J : SS → Nat → va_E) (r : Nat) : Prop := (∀ S, J S r = cellOf b kc r (S.1 r) (S.2.1 r) (S.2.2 r)) ∧ (∀ (S S1 : SS) (x : va_E), (∀ q, q ≠ r → S1.1 q = S.1 q ∧ S1.2.1 q = S.2.1 q ∧ S1.2.2 q = S.2.2 q) → cellOf b kc r (S1.1 r) (S1.2.1 r) (S1.2.2 r) = x → va_up (J S) r x = J S1)
theorem jK_X (b : Nat) (kc : Nat → ClassId) (T : SS) {r : Nat} (hr : r < 192) : jK b kc (jX b kc T) r := ⟨fun S => jX_at hr, fun S S1 x h1 h => jX_up hr h1 h⟩
theorem jK_M (b : Nat) (kc : Nat → ClassId) (T : SS) {r : Nat} (hr : ¬ r < 192) : jK b kc (jM b kc T) r := ⟨fun S => jM_at hr, fun S S1 x h1 h => jM_up hr h1 h⟩
theorem upd_oi {g : Nat → Int} {i x : Int32} {a v : Int} (hi : i.toInt = a) (hx : x.toInt = v) : upd (fun k => oi (g k)) i.toNatClampNeg x = fun k => oi (if k = a.toNat then v else g k) := by
  funext k
  have h : i.toNatClampNeg = a.toNat := by rw [← hi]; rfl
  rw [h]
  by_cases e : k = a.toNat
  · simp only [upd, e, if_pos, oi_to hx]
  · simp only [upd, e, if_false]
theorem a_2 (b : Nat) (kc : Nat → ClassId) : aI b kc 2 0 2000 := fun _ _ _ => rfl
theorem a_5 (b : Nat) (kc : Nat → ClassId) : aL b kc 5 60 := fun _ _ _ => rfl
theorem a_7 (b : Nat) (kc : Nat → ClassId) : aL b kc 7 150 := fun _ _ _ => rfl
theorem a_9 (b : Nat) (kc : Nat → ClassId) : aL b kc 9 300 := fun _ _ _ => rfl
theorem a_11 (b : Nat) (kc : Nat → ClassId) : aQ b kc 11 40 := fun _ _ _ => rfl
theorem a_12 (b : Nat) (kc : Nat → ClassId) : aI b kc 12 1 3 := fun _ _ _ => rfl
theorem a_13 (b : Nat) (kc : Nat → ClassId) : aI b kc 13 1 40 := fun _ _ _ => rfl
theorem a_176 (b : Nat) (kc : Nat → ClassId) : aL b kc 176 150 := fun _ _ _ => rfl
theorem a_179 (b : Nat) (kc : Nat → ClassId) : aQ b kc 179 40 := fun _ _ _ => rfl
theorem a_180 (b : Nat) (kc : Nat → ClassId) : aI b kc 180 3 40 := fun _ _ _ => rfl
theorem a_182 (b : Nat) (kc : Nat → ClassId) : aI b kc 182 1 301 := fun _ _ _ => rfl
theorem a_185 (b : Nat) (kc : Nat → ClassId) : aL b kc 185 108 := fun _ _ _ => rfl
theorem a_186 (b : Nat) (kc : Nat → ClassId) : aI b kc 186 1 8 := fun _ _ _ => rfl
theorem a_187 (b : Nat) (kc : Nat → ClassId) : aI b kc 187 1 150 := fun _ _ _ => rfl
theorem a_188 (b : Nat) (kc : Nat → ClassId) : aI b kc 188 1 150 := fun _ _ _ => rfl
theorem a_189 (b : Nat) (kc : Nat → ClassId) : aI b kc 189 1 150 := fun _ _ _ => rfl
theorem a_191 (b : Nat) (kc : Nat → ClassId) : aI b kc 191 1 5 := fun _ _ _ => rfl
theorem a_193 (b : Nat) (kc : Nat → ClassId) : aL b kc 193 60 := fun _ _ _ => rfl
theorem a_194 (b : Nat) (kc : Nat → ClassId) : aL b kc 194 150 := fun _ _ _ => rfl
theorem a_195 (b : Nat) (kc : Nat → ClassId) : aL b kc 195 320 := fun _ _ _ => rfl
theorem a_197 (b : Nat) (kc : Nat → ClassId) : aI b kc 197 0 2000 := fun _ _ _ => rfl
theorem a_198 (b : Nat) (kc : Nat → ClassId) : aL b kc 198 150 := fun _ _ _ => rfl
theorem a_199 (b : Nat) (kc : Nat → ClassId) : aI b kc 199 1 41 := fun _ _ _ => rfl
theorem a_200 (b : Nat) (kc : Nat → ClassId) : aI b kc 200 1 41 := fun _ _ _ => rfl
theorem a_201 (b : Nat) (kc : Nat → ClassId) : aI b kc 201 1 41 := fun _ _ _ => rfl
theorem a_202 (b : Nat) (kc : Nat → ClassId) : aI b kc 202 1 41 := fun _ _ _ => rfl
theorem a_203 (b : Nat) (kc : Nat → ClassId) : aI b kc 203 1 41 := fun _ _ _ => rfl
theorem a_204 (b : Nat) (kc : Nat → ClassId) : aI b kc 204 1 41 := fun _ _ _ => rfl
theorem a_205 (b : Nat) (kc : Nat → ClassId) : aI b kc 205 1 41 := fun _ _ _ => rfl
theorem a_206 (b : Nat) (kc : Nat → ClassId) : aL b kc 206 246 := fun _ _ _ => rfl
theorem a_207 (b : Nat) (kc : Nat → ClassId) : aI b kc 207 3 41 := fun _ _ _ => rfl
theorem a_208 (b : Nat) (kc : Nat → ClassId) : aI b kc 208 3 41 := fun _ _ _ => rfl
theorem a_209 (b : Nat) (kc : Nat → ClassId) : aI b kc 209 1 3 := fun _ _ _ => rfl
theorem a_210 (b : Nat) (kc : Nat → ClassId) : aI b kc 210 1 5 := fun _ _ _ => rfl
theorem a_211 (b : Nat) (kc : Nat → ClassId) : aI b kc 211 1 2 := fun _ _ _ => rfl
theorem a_212 (b : Nat) (kc : Nat → ClassId) : aI b kc 212 1 40 := fun _ _ _ => rfl
theorem a_213 (b : Nat) (kc : Nat → ClassId) : aI b kc 213 1 40 := fun _ _ _ => rfl
theorem a_214 (b : Nat) (kc : Nat → ClassId) : aI b kc 214 3 40 := fun _ _ _ => rfl
theorem a_215 (b : Nat) (kc : Nat → ClassId) : aI b kc 215 1 103041 := fun _ _ _ => rfl
theorem a_216 (b : Nat) (kc : Nat → ClassId) : aI b kc 216 1 8 := fun _ _ _ => rfl
theorem a_217 (b : Nat) (kc : Nat → ClassId) : aI b kc 217 1 470 := fun _ _ _ => rfl
theorem a_218 (b : Nat) (kc : Nat → ClassId) : aI b kc 218 1 470 := fun _ _ _ => rfl
theorem a_219 (b : Nat) (kc : Nat → ClassId) : aI b kc 219 1 470 := fun _ _ _ => rfl
theorem a_nm (b : Nat) (kc : Nat → ClassId) {j : Nat} (hj : j < 40) : aI b kc (14 + 4 * j + 1) 1 3 := fun i l q => cl_num b kc hj i l q
theorem a_la (b : Nat) (kc : Nat → ClassId) {r : Nat} (hr : shOk r) : aL b kc (r + 1) (capN r) := fun i l q => cl_la b kc hr i l q
