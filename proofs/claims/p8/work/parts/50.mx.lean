def loM (r k : Nat) : Int := (if r = 192 then (if k = 3 then 0 else if k = 4 then 0 else if k = 5 then 0 else if k = 8 then 0 else if k = 9 then 0 else if k = 10 then 0 else if k = 11 then 0 else if k = 12 then 0 else if k = 13 then 0 else if k = 27 then 0 else if k = 36 then 0 else if k = 37 then 0 else if k = 38 then 0 else (-2147483648)) else if r = 199 then -1 else if r = 200 then 0 else if r = 201 then -1 else if r = 202 then -1 else if r = 203 then -1 else if r = 204 then 0 else if r = 205 then 0 else if r = 207 then 0 else if r = 208 then 0 else if r = 209 then 0 else if r = 210 then 0 else if r = 211 then 0 else if r = 212 then 0 else if r = 213 then -1 else if r = 214 then 0 else (-2147483648))
def hiM (r k : Nat) : Int := (if r = 192 then (if k = 3 then 60 else if k = 4 then 150 else if k = 5 then 300 else if k = 8 then 2000 else if k = 9 then 2000 else if k = 10 then 2001 else if k = 11 then 2001 else if k = 12 then 4 else if k = 13 then 999 else if k = 27 then 40 else if k = 36 then 8 else if k = 37 then 470 else if k = 38 then 1 else 2147483647) else if r = 199 then 5 else if r = 200 then 2 else if r = 201 then 60 else if r = 202 then 60 else if r = 203 then 60 else if r = 204 then 6 else if r = 205 then 2 else if r = 207 then 1 else if r = 208 then 1 else if r = 209 then 9 else if r = 210 then 999 else if r = 211 then 9 else if r = 212 then 4 else if r = 213 then 40 else if r = 214 then 1 else 2147483647)
def MX (b : Nat) (S : SS) : Prop := (b = 1 → gi S 192 11 ≤ gi S 192 9) ∧ ∀ r k, loM r k ≤ gi S r k ∧ gi S r k ≤ hiM r k
theorem MX.set {b : Nat} {S : SS} (h : MX b S) {r k : Nat} {v : Int} (h1 : loM r k ≤ v) (h2 : v ≤ hiM r k) (hn : b ≠ 1 ∨ r ≠ 192 ∨ (k ≠ 9 ∧ k ≠ 11)) : MX b (si S r k v) := by
  refine ⟨fun hb => ?_, fun r' k' => ?_⟩
  · rw [gi_si, gi_si, if_neg (by omega), if_neg (by omega)]; exact h.1 hb
  rw [gi_si]
  by_cases e : r' = r ∧ k' = k
  · rw [if_pos e, e.1, e.2]; exact ⟨h1, h2⟩
  · rw [if_neg e]; exact h.2 r' k'
theorem MX.weak {b : Nat} {S : SS} (h : MX b S) : MX 0 S := ⟨fun q => absurd q (by decide), h.2⟩
theorem ms_sl {b : Nat} {S : SS} (h : MX b S) {r k : Nat} {v : Int64} : MX b (sl S r k v) := h
theorem mx_192_3 {b : Nat} {S : SS} (h : MX b S) : 0 ≤ gi S 192 3 ∧ gi S 192 3 ≤ 60 := h.2 192 3
theorem ms_192_3 {b : Nat} {S : SS} (h : MX b S) {v : Int} (h1 : 0 ≤ v) (h2 : v ≤ 60) : MX b (si S 192 3 v) := h.set h1 h2 (.inr (.inr (by omega)))
theorem mx_192_4 {b : Nat} {S : SS} (h : MX b S) : 0 ≤ gi S 192 4 ∧ gi S 192 4 ≤ 150 := h.2 192 4
theorem ms_192_4 {b : Nat} {S : SS} (h : MX b S) {v : Int} (h1 : 0 ≤ v) (h2 : v ≤ 150) : MX b (si S 192 4 v) := h.set h1 h2 (.inr (.inr (by omega)))
theorem mx_192_5 {b : Nat} {S : SS} (h : MX b S) : 0 ≤ gi S 192 5 ∧ gi S 192 5 ≤ 300 := h.2 192 5
theorem ms_192_5 {b : Nat} {S : SS} (h : MX b S) {v : Int} (h1 : 0 ≤ v) (h2 : v ≤ 300) : MX b (si S 192 5 v) := h.set h1 h2 (.inr (.inr (by omega)))
theorem mx_192_8 {b : Nat} {S : SS} (h : MX b S) : 0 ≤ gi S 192 8 ∧ gi S 192 8 ≤ 2000 := h.2 192 8
theorem ms_192_8 {b : Nat} {S : SS} (h : MX b S) {v : Int} (h1 : 0 ≤ v) (h2 : v ≤ 2000) : MX b (si S 192 8 v) := h.set h1 h2 (.inr (.inr (by omega)))
theorem mx_192_9 {b : Nat} {S : SS} (h : MX b S) : 0 ≤ gi S 192 9 ∧ gi S 192 9 ≤ 2000 := h.2 192 9
theorem ms_192_9 {b : Nat} {S : SS} (h : MX b S) {v : Int} (hb : b ≠ 1) (h1 : 0 ≤ v) (h2 : v ≤ 2000) : MX b (si S 192 9 v) := h.set h1 h2 (.inl hb)
theorem mx_192_10 {b : Nat} {S : SS} (h : MX b S) : 0 ≤ gi S 192 10 ∧ gi S 192 10 ≤ 2001 := h.2 192 10
theorem ms_192_10 {b : Nat} {S : SS} (h : MX b S) {v : Int} (h1 : 0 ≤ v) (h2 : v ≤ 2001) : MX b (si S 192 10 v) := h.set h1 h2 (.inr (.inr (by omega)))
theorem mx_192_11 {b : Nat} {S : SS} (h : MX b S) : 0 ≤ gi S 192 11 ∧ gi S 192 11 ≤ 2001 := h.2 192 11
theorem ms_192_11 {b : Nat} {S : SS} (h : MX b S) {v : Int} (hb : b = 1 → v ≤ gi S 192 9) (h1 : 0 ≤ v) (h2 : v ≤ 2001) : MX b (si S 192 11 v) := ⟨fun q => by have := hb q; rw [gi_si, gi_si, if_pos ⟨rfl, rfl⟩, if_neg (by omega)]; omega, (MX.weak h |>.set h1 h2 (.inl (by decide))).2⟩
theorem mx_192_12 {b : Nat} {S : SS} (h : MX b S) : 0 ≤ gi S 192 12 ∧ gi S 192 12 ≤ 4 := h.2 192 12
theorem ms_192_12 {b : Nat} {S : SS} (h : MX b S) {v : Int} (h1 : 0 ≤ v) (h2 : v ≤ 4) : MX b (si S 192 12 v) := h.set h1 h2 (.inr (.inr (by omega)))
theorem mx_192_13 {b : Nat} {S : SS} (h : MX b S) : 0 ≤ gi S 192 13 ∧ gi S 192 13 ≤ 999 := h.2 192 13
theorem ms_192_13 {b : Nat} {S : SS} (h : MX b S) {v : Int} (h1 : 0 ≤ v) (h2 : v ≤ 999) : MX b (si S 192 13 v) := h.set h1 h2 (.inr (.inr (by omega)))
theorem mx_192_27 {b : Nat} {S : SS} (h : MX b S) : 0 ≤ gi S 192 27 ∧ gi S 192 27 ≤ 40 := h.2 192 27
theorem ms_192_27 {b : Nat} {S : SS} (h : MX b S) {v : Int} (h1 : 0 ≤ v) (h2 : v ≤ 40) : MX b (si S 192 27 v) := h.set h1 h2 (.inr (.inr (by omega)))
theorem mx_192_36 {b : Nat} {S : SS} (h : MX b S) : 0 ≤ gi S 192 36 ∧ gi S 192 36 ≤ 8 := h.2 192 36
theorem ms_192_36 {b : Nat} {S : SS} (h : MX b S) {v : Int} (h1 : 0 ≤ v) (h2 : v ≤ 8) : MX b (si S 192 36 v) := h.set h1 h2 (.inr (.inr (by omega)))
theorem mx_192_37 {b : Nat} {S : SS} (h : MX b S) : 0 ≤ gi S 192 37 ∧ gi S 192 37 ≤ 470 := h.2 192 37
theorem ms_192_37 {b : Nat} {S : SS} (h : MX b S) {v : Int} (h1 : 0 ≤ v) (h2 : v ≤ 470) : MX b (si S 192 37 v) := h.set h1 h2 (.inr (.inr (by omega)))
theorem mx_192_38 {b : Nat} {S : SS} (h : MX b S) : 0 ≤ gi S 192 38 ∧ gi S 192 38 ≤ 1 := h.2 192 38
theorem ms_192_38 {b : Nat} {S : SS} (h : MX b S) {v : Int} (h1 : 0 ≤ v) (h2 : v ≤ 1) : MX b (si S 192 38 v) := h.set h1 h2 (.inr (.inr (by omega)))
theorem mx_192_14 {b : Nat} {S : SS} (h : MX b S) : (-2147483648) ≤ gi S 192 14 ∧ gi S 192 14 ≤ 2147483647 := h.2 192 14
theorem ms_192_14 {b : Nat} {S : SS} (h : MX b S) {v : Int} (h1 : (-2147483648) ≤ v) (h2 : v ≤ 2147483647) : MX b (si S 192 14 v) := h.set h1 h2 (.inr (.inr (by omega)))
theorem mx_192_15 {b : Nat} {S : SS} (h : MX b S) : (-2147483648) ≤ gi S 192 15 ∧ gi S 192 15 ≤ 2147483647 := h.2 192 15
theorem ms_192_15 {b : Nat} {S : SS} (h : MX b S) {v : Int} (h1 : (-2147483648) ≤ v) (h2 : v ≤ 2147483647) : MX b (si S 192 15 v) := h.set h1 h2 (.inr (.inr (by omega)))
theorem mx_192_35 {b : Nat} {S : SS} (h : MX b S) : (-2147483648) ≤ gi S 192 35 ∧ gi S 192 35 ≤ 2147483647 := h.2 192 35
theorem ms_192_35 {b : Nat} {S : SS} (h : MX b S) {v : Int} (h1 : (-2147483648) ≤ v) (h2 : v ≤ 2147483647) : MX b (si S 192 35 v) := h.set h1 h2 (.inr (.inr (by omega)))
theorem mx_197 {b : Nat} {S : SS} (h : MX b S) (k : Nat) : (-2147483648) ≤ gi S 197 k ∧ gi S 197 k ≤ 2147483647 := h.2 197 k
theorem ms_197 {b : Nat} {S : SS} (h : MX b S) {k : Nat} {v : Int} (h1 : (-2147483648) ≤ v) (h2 : v ≤ 2147483647) : MX b (si S 197 k v) := h.set h1 h2 (.inr (.inl (by omega)))
theorem mx_199 {b : Nat} {S : SS} (h : MX b S) (k : Nat) : -1 ≤ gi S 199 k ∧ gi S 199 k ≤ 5 := h.2 199 k
theorem ms_199 {b : Nat} {S : SS} (h : MX b S) {k : Nat} {v : Int} (h1 : -1 ≤ v) (h2 : v ≤ 5) : MX b (si S 199 k v) := h.set h1 h2 (.inr (.inl (by omega)))
theorem mx_200 {b : Nat} {S : SS} (h : MX b S) (k : Nat) : 0 ≤ gi S 200 k ∧ gi S 200 k ≤ 2 := h.2 200 k
theorem ms_200 {b : Nat} {S : SS} (h : MX b S) {k : Nat} {v : Int} (h1 : 0 ≤ v) (h2 : v ≤ 2) : MX b (si S 200 k v) := h.set h1 h2 (.inr (.inl (by omega)))
theorem mx_201 {b : Nat} {S : SS} (h : MX b S) (k : Nat) : -1 ≤ gi S 201 k ∧ gi S 201 k ≤ 60 := h.2 201 k
theorem ms_201 {b : Nat} {S : SS} (h : MX b S) {k : Nat} {v : Int} (h1 : -1 ≤ v) (h2 : v ≤ 60) : MX b (si S 201 k v) := h.set h1 h2 (.inr (.inl (by omega)))
theorem mx_202 {b : Nat} {S : SS} (h : MX b S) (k : Nat) : -1 ≤ gi S 202 k ∧ gi S 202 k ≤ 60 := h.2 202 k
theorem ms_202 {b : Nat} {S : SS} (h : MX b S) {k : Nat} {v : Int} (h1 : -1 ≤ v) (h2 : v ≤ 60) : MX b (si S 202 k v) := h.set h1 h2 (.inr (.inl (by omega)))
theorem mx_203 {b : Nat} {S : SS} (h : MX b S) (k : Nat) : -1 ≤ gi S 203 k ∧ gi S 203 k ≤ 60 := h.2 203 k
theorem ms_203 {b : Nat} {S : SS} (h : MX b S) {k : Nat} {v : Int} (h1 : -1 ≤ v) (h2 : v ≤ 60) : MX b (si S 203 k v) := h.set h1 h2 (.inr (.inl (by omega)))
theorem mx_204 {b : Nat} {S : SS} (h : MX b S) (k : Nat) : 0 ≤ gi S 204 k ∧ gi S 204 k ≤ 6 := h.2 204 k
theorem ms_204 {b : Nat} {S : SS} (h : MX b S) {k : Nat} {v : Int} (h1 : 0 ≤ v) (h2 : v ≤ 6) : MX b (si S 204 k v) := h.set h1 h2 (.inr (.inl (by omega)))
theorem mx_205 {b : Nat} {S : SS} (h : MX b S) (k : Nat) : 0 ≤ gi S 205 k ∧ gi S 205 k ≤ 2 := h.2 205 k
theorem ms_205 {b : Nat} {S : SS} (h : MX b S) {k : Nat} {v : Int} (h1 : 0 ≤ v) (h2 : v ≤ 2) : MX b (si S 205 k v) := h.set h1 h2 (.inr (.inl (by omega)))
theorem mx_207 {b : Nat} {S : SS} (h : MX b S) (k : Nat) : 0 ≤ gi S 207 k ∧ gi S 207 k ≤ 1 := h.2 207 k
theorem ms_207 {b : Nat} {S : SS} (h : MX b S) {k : Nat} {v : Int} (h1 : 0 ≤ v) (h2 : v ≤ 1) : MX b (si S 207 k v) := h.set h1 h2 (.inr (.inl (by omega)))
theorem mx_208 {b : Nat} {S : SS} (h : MX b S) (k : Nat) : 0 ≤ gi S 208 k ∧ gi S 208 k ≤ 1 := h.2 208 k
theorem ms_208 {b : Nat} {S : SS} (h : MX b S) {k : Nat} {v : Int} (h1 : 0 ≤ v) (h2 : v ≤ 1) : MX b (si S 208 k v) := h.set h1 h2 (.inr (.inl (by omega)))
theorem mx_209 {b : Nat} {S : SS} (h : MX b S) (k : Nat) : 0 ≤ gi S 209 k ∧ gi S 209 k ≤ 9 := h.2 209 k
theorem ms_209 {b : Nat} {S : SS} (h : MX b S) {k : Nat} {v : Int} (h1 : 0 ≤ v) (h2 : v ≤ 9) : MX b (si S 209 k v) := h.set h1 h2 (.inr (.inl (by omega)))
theorem mx_210 {b : Nat} {S : SS} (h : MX b S) (k : Nat) : 0 ≤ gi S 210 k ∧ gi S 210 k ≤ 999 := h.2 210 k
theorem ms_210 {b : Nat} {S : SS} (h : MX b S) {k : Nat} {v : Int} (h1 : 0 ≤ v) (h2 : v ≤ 999) : MX b (si S 210 k v) := h.set h1 h2 (.inr (.inl (by omega)))
theorem mx_211 {b : Nat} {S : SS} (h : MX b S) (k : Nat) : 0 ≤ gi S 211 k ∧ gi S 211 k ≤ 9 := h.2 211 k
theorem ms_211 {b : Nat} {S : SS} (h : MX b S) {k : Nat} {v : Int} (h1 : 0 ≤ v) (h2 : v ≤ 9) : MX b (si S 211 k v) := h.set h1 h2 (.inr (.inl (by omega)))
theorem mx_212 {b : Nat} {S : SS} (h : MX b S) (k : Nat) : 0 ≤ gi S 212 k ∧ gi S 212 k ≤ 4 := h.2 212 k
theorem ms_212 {b : Nat} {S : SS} (h : MX b S) {k : Nat} {v : Int} (h1 : 0 ≤ v) (h2 : v ≤ 4) : MX b (si S 212 k v) := h.set h1 h2 (.inr (.inl (by omega)))
theorem mx_213 {b : Nat} {S : SS} (h : MX b S) (k : Nat) : -1 ≤ gi S 213 k ∧ gi S 213 k ≤ 40 := h.2 213 k
theorem ms_213 {b : Nat} {S : SS} (h : MX b S) {k : Nat} {v : Int} (h1 : -1 ≤ v) (h2 : v ≤ 40) : MX b (si S 213 k v) := h.set h1 h2 (.inr (.inl (by omega)))
theorem mx_214 {b : Nat} {S : SS} (h : MX b S) (k : Nat) : 0 ≤ gi S 214 k ∧ gi S 214 k ≤ 1 := h.2 214 k
theorem ms_214 {b : Nat} {S : SS} (h : MX b S) {k : Nat} {v : Int} (h1 : 0 ≤ v) (h2 : v ≤ 1) : MX b (si S 214 k v) := h.set h1 h2 (.inr (.inl (by omega)))
theorem mx_215 {b : Nat} {S : SS} (h : MX b S) (k : Nat) : (-2147483648) ≤ gi S 215 k ∧ gi S 215 k ≤ 2147483647 := h.2 215 k
theorem ms_215 {b : Nat} {S : SS} (h : MX b S) {k : Nat} {v : Int} (h1 : (-2147483648) ≤ v) (h2 : v ≤ 2147483647) : MX b (si S 215 k v) := h.set h1 h2 (.inr (.inl (by omega)))
theorem mx_216 {b : Nat} {S : SS} (h : MX b S) (k : Nat) : (-2147483648) ≤ gi S 216 k ∧ gi S 216 k ≤ 2147483647 := h.2 216 k
theorem ms_216 {b : Nat} {S : SS} (h : MX b S) {k : Nat} {v : Int} (h1 : (-2147483648) ≤ v) (h2 : v ≤ 2147483647) : MX b (si S 216 k v) := h.set h1 h2 (.inr (.inl (by omega)))
theorem mx_217 {b : Nat} {S : SS} (h : MX b S) (k : Nat) : (-2147483648) ≤ gi S 217 k ∧ gi S 217 k ≤ 2147483647 := h.2 217 k
theorem ms_217 {b : Nat} {S : SS} (h : MX b S) {k : Nat} {v : Int} (h1 : (-2147483648) ≤ v) (h2 : v ≤ 2147483647) : MX b (si S 217 k v) := h.set h1 h2 (.inr (.inl (by omega)))
theorem mx_218 {b : Nat} {S : SS} (h : MX b S) (k : Nat) : (-2147483648) ≤ gi S 218 k ∧ gi S 218 k ≤ 2147483647 := h.2 218 k
theorem ms_218 {b : Nat} {S : SS} (h : MX b S) {k : Nat} {v : Int} (h1 : (-2147483648) ≤ v) (h2 : v ≤ 2147483647) : MX b (si S 218 k v) := h.set h1 h2 (.inr (.inl (by omega)))
theorem mx_219 {b : Nat} {S : SS} (h : MX b S) (k : Nat) : (-2147483648) ≤ gi S 219 k ∧ gi S 219 k ≤ 2147483647 := h.2 219 k
theorem ms_219 {b : Nat} {S : SS} (h : MX b S) {k : Nat} {v : Int} (h1 : (-2147483648) ≤ v) (h2 : v ≤ 2147483647) : MX b (si S 219 k v) := h.set h1 h2 (.inr (.inl (by omega)))
theorem iI_M {r k : Nat} (h1 : r ≠ 192) (h2 : r ≠ 209) (h3 : r ≠ 210) (h4 : r ≠ 211) (h5 : 192 ≤ r) : iI r k = 0 := by
  unfold iI
  rw [if_neg (by omega), if_neg (by omega), if_neg (by omega), if_neg (by omega), if_neg h1, if_neg h2, if_neg h3, if_neg h4]
theorem loM0 {r k : Nat} : loM r k ≤ 0 ∧ 0 ≤ hiM r k := by
  constructor
  · unfold loM
    repeat' split
    all_goals omega
  · unfold hiM
    repeat' split
    all_goals omega
theorem loMx {r k : Nat} (h : r < 192) : loM r k = -2147483648 ∧ hiM r k = 2147483647 := by
  constructor
  · unfold loM; rw [if_neg (by omega), if_neg (by omega), if_neg (by omega), if_neg (by omega), if_neg (by omega), if_neg (by omega), if_neg (by omega), if_neg (by omega), if_neg (by omega), if_neg (by omega), if_neg (by omega), if_neg (by omega), if_neg (by omega), if_neg (by omega), if_neg (by omega), if_neg (by omega)]
  · unfold hiM; rw [if_neg (by omega), if_neg (by omega), if_neg (by omega), if_neg (by omega), if_neg (by omega), if_neg (by omega), if_neg (by omega), if_neg (by omega), if_neg (by omega), if_neg (by omega), if_neg (by omega), if_neg (by omega), if_neg (by omega), if_neg (by omega), if_neg (by omega), if_neg (by omega)]
theorem MX_0 : MX 0 SZ := by
  refine ⟨fun q => absurd q (by decide), fun r k => ?_⟩
  show loM r k ≤ iI r k ∧ iI r k ≤ hiM r k
  have hr := iI_rng r k
  have h0 := @loM0 r k
  by_cases h5 : r < 192
  · rw [(loMx h5).1, (loMx h5).2]; omega
  by_cases h1 : r = 192
  · subst h1
    by_cases q : k = 15
    · subst q; exact ⟨show (-2147483648 : Int) ≤ _ by omega, show _ ≤ (2147483647 : Int) by omega⟩
    · rw [show iI 192 k = 0 from by show (if k = 15 then (-1 : Int) else 0) = 0; rw [if_neg q]]; exact h0
  by_cases h2 : r = 209
  · subst h2
    have : 0 ≤ iI 209 k ∧ iI 209 k ≤ 2 := by
      show 0 ≤ (if k = 1 then (1 : Int) else if k = 2 then 2 else 0) ∧ (if k = 1 then (1 : Int) else if k = 2 then 2 else 0) ≤ 2
      repeat' split
      all_goals omega
    exact ⟨show (0 : Int) ≤ _ by omega, show _ ≤ (9 : Int) by omega⟩
  by_cases h3 : r = 210
  · subst h3
    exact ⟨show (0 : Int) ≤ _ from iI_191 k, show _ ≤ (999 : Int) by omega⟩
  by_cases h4 : r = 211
  · subst h4
    have : 0 ≤ iI 211 k ∧ iI 211 k ≤ 3 := by
      show 0 ≤ (if k = 0 then (2 : Int) else if k = 1 then 3 else 0) ∧ (if k = 0 then (2 : Int) else if k = 1 then 3 else 0) ≤ 3
      repeat' split
      all_goals omega
    exact ⟨show (0 : Int) ≤ _ by omega, show _ ≤ (9 : Int) by omega⟩
  rw [iI_M h1 h2 h3 h4 (by omega)]
  exact h0
