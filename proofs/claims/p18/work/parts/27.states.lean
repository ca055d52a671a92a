/-! the two states at the start -/
def iI (r k : Nat) : Int := if r = 3 then (if k = 1 then -1 else 0) else if r = 12 then (if k = 1 then 1 else if k = 2 then 2 else 0) else if r = 183 then (if k = 5 then 2 else if k = 6 then 3 else 0) else if r = 191 then (if k = 0 then 5 else if k = 1 then 10 else if k = 2 then 10 else if k = 3 then 8 else if k = 4 then 12 else 0) else if r = 192 then (if k = 15 then -1 else 0) else if r = 209 then (if k = 1 then 1 else if k = 2 then 2 else 0) else if r = 210 then (if k = 0 then 5 else if k = 1 then 10 else if k = 2 then 10 else if k = 3 then 8 else if k = 4 then 12 else 0) else if r = 211 then (if k = 0 then 2 else if k = 1 then 3 else 0) else 0
def iQ (r k : Nat) : Option Nat := if r = 11 then (if k < 40 then some k else none) else none
def SZ : SS := (iI, fun _ _ => 0, iQ)
theorem SZ_rng : rng SZ := by
  intro r k
  show i32 (iI r k)
  unfold iI
  repeat' split
  all_goals constructor <;> omega
theorem ar_12 : mRk = fun k => oi (iI 12 k) := by
  funext k
  by_cases h0 : k = 0
  · subst h0; rfl
  by_cases h1 : k = 1
  · subst h1; rfl
  by_cases h2 : k = 2
  · subst h2; rfl
  simp [mRk, upd, iI, h0, h1, h2, oi]
theorem ar_191 : mPr = fun k => oi (iI 191 k) := by
  funext k
  by_cases h0 : k = 0
  · subst h0; rfl
  by_cases h1 : k = 1
  · subst h1; rfl
  by_cases h2 : k = 2
  · subst h2; rfl
  by_cases h3 : k = 3
  · subst h3; rfl
  by_cases h4 : k = 4
  · subst h4; rfl
  simp [mPr, upd, iI, h0, h1, h2, h3, h4, oi]
theorem ar_211 : upd (upd (fun _ => 0) 0 2) 1 3 = fun k => oi (iI 211 k) := by
  funext k
  by_cases h0 : k = 0
  · subst h0; rfl
  by_cases h1 : k = 1
  · subst h1; rfl
  simp [upd, iI, h0, h1, oi]
theorem ar_11 (b : Nat) : gMk b 40 = fun k => om b (iQ 11 k) := by
  funext k
  by_cases h : k < 40
  · simp [gMk, iQ, om, h]
  · simp [gMk, iQ, om, h]
theorem mS.congr {D : va_G} {b : Nat} {s : State} {n : Nat} {f g : Nat → va_E} {H : Heap} {locs : List Loc} (h : mS D b s n f H locs) (e : ∀ i, i < n → f i = g i) : mS D b s n g H locs := ⟨⟨h.1.1, fun i hi => by rw [← e i hi]; exact h.1.2 i hi⟩, h.2⟩
set_option maxRecDepth 100000 in
set_option maxHeartbeats 4000000 in
theorem agree {b : Nat} {kc : Nat → ClassId} {f2 f4 : Nat → va_E} (hmk : ∀ j, 14 ≤ j → j < 174 → f2 j = cellOf b kc j (fun _ => 0) (fun _ => 0) (fun _ => none)) (e : ∀ j, j < 192 → f4 j = f2 j) (h0 : f2 0 = .inr (11, [.ref (b + 1), .ref (b + 3), .ref (b + 4), .ref (b + 6), .ref (b + 8), .ref (b + 10), .ref (b + 174), .ref (b + 177), .ref (b + 178), .ref (b + 181), .ref (b + 183), .ref (b + 190)])) (h1 : f2 1 = .inr (10, [.ref (b + 2), .int 0])) (h2 : f2 2 = .inl (kc 0, 2000, .inl (fun _ => 0))) (h3 : f2 3 = .inr (1, [.int 0, .int (-1)])) (h4 : f2 4 = .inr (8, [.ref (b + 5), .int 0])) (h5 : f2 5 = .inl (kc 2, 60, .inr (.inl (fun _ => 0)))) (h6 : f2 6 = .inr (8, [.ref (b + 7), .int 0])) (h7 : f2 7 = .inl (kc 2, 150, .inr (.inl (fun _ => 0)))) (h8 : f2 8 = .inr (8, [.ref (b + 9), .int 0])) (h9 : f2 9 = .inl (kc 2, 300, .inr (.inl (fun _ => 0)))) (h10 : f2 10 = .inr (5, [.ref (b + 11), .ref (b + 12), .ref (b + 13), .int 0, .int 0, .int 0])) (h11 : f2 11 = .inl (kc 4, 40, .inr (.inr (.inr (.inr (gMk b 40)))))) (h12 : f2 12 = .inl (kc 1, 3, .inl (mRk))) (h13 : f2 13 = .inl (kc 1, 40, .inl (fun _ => 0))) (h174 : f2 174 = .inr (9, [.ref (b + 175)])) (h175 : f2 175 = .inr (8, [.ref (b + 176), .int 0])) (h176 : f2 176 = .inl (kc 2, 150, .inr (.inl (fun _ => 0)))) (h177 : f2 177 = .inr (4, [.null, .null, .null, .int 0, .int 0, .int 0, .int 0])) (h178 : f2 178 = .inr (7, [.ref (b + 179), .ref (b + 180), .int 0, .null, .null])) (h179 : f2 179 = .inl (kc 4, 40, .inr (.inr (.inr (.inr (fun _ => none)))))) (h180 : f2 180 = .inl (kc 3, 40, .inl (fun _ => 0))) (h181 : f2 181 = .inr (6, [.ref (b + 182)])) (h182 : f2 182 = .inl (kc 1, 301, .inl (fun _ => 0))) (h183 : f2 183 = .inr (2, [.ref (b + 184), .ref (b + 186), .ref (b + 187), .ref (b + 188), .ref (b + 189), .int 2, .int 3, .int 0, .int 0, .int 0, .int 0, .int 0])) (h184 : f2 184 = .inr (8, [.ref (b + 185), .int 0])) (h185 : f2 185 = .inl (kc 2, 108, .inr (.inl (fun _ => 0)))) (h186 : f2 186 = .inl (kc 1, 8, .inl (fun _ => 0))) (h187 : f2 187 = .inl (kc 1, 150, .inl (fun _ => 0))) (h188 : f2 188 = .inl (kc 1, 150, .inl (fun _ => 0))) (h189 : f2 189 = .inl (kc 1, 150, .inl (fun _ => 0))) (h190 : f2 190 = .inr (0, [.ref (b + 191)])) (h191 : f2 191 = .inl (kc 1, 5, .inl (mPr))) (h192 : f4 192 = .inr (13, [.ref (b + 193), .ref (b + 194), .ref (b + 195), .int 0, .int 0, .int 0, .ref (b + 196), .ref (b + 197), .int 0, .int 0, .int 0, .int 0, .int 0, .int 0, .int 0, .int (-1), .ref (b + 198), .ref (b + 199), .ref (b + 200), .ref (b + 201), .ref (b + 202), .ref (b + 203), .ref (b + 204), .ref (b + 205), .ref (b + 206), .ref (b + 207), .ref (b + 208), .int 0, .ref (b + 209), .ref (b + 210), .ref (b + 211), .ref (b + 212), .ref (b + 213), .ref (b + 214), .ref (b + 215), .int 0, .int 0, .int 0, .int 0, .ref (b + 216), .ref (b + 217), .ref (b + 218), .ref (b + 219)])) (h193 : f4 193 = .inl (kc 2, 60, .inr (.inl (fun _ => 0)))) (h194 : f4 194 = .inl (kc 2, 150, .inr (.inl (fun _ => 0)))) (h195 : f4 195 = .inl (kc 2, 320, .inr (.inl (fun _ => 0)))) (h196 : f4 196 = .inr (12, [.null, .null, .null, .null, .null, .int 0])) (h197 : f4 197 = .inl (kc 0, 2000, .inl (fun _ => 0))) (h198 : f4 198 = .inl (kc 2, 150, .inr (.inl (fun _ => 0)))) (h199 : f4 199 = .inl (kc 1, 41, .inl (fun _ => 0))) (h200 : f4 200 = .inl (kc 1, 41, .inl (fun _ => 0))) (h201 : f4 201 = .inl (kc 1, 41, .inl (fun _ => 0))) (h202 : f4 202 = .inl (kc 1, 41, .inl (fun _ => 0))) (h203 : f4 203 = .inl (kc 1, 41, .inl (fun _ => 0))) (h204 : f4 204 = .inl (kc 1, 41, .inl (fun _ => 0))) (h205 : f4 205 = .inl (kc 1, 41, .inl (fun _ => 0))) (h206 : f4 206 = .inl (kc 2, 246, .inr (.inl (fun _ => 0)))) (h207 : f4 207 = .inl (kc 3, 41, .inl (fun _ => 0))) (h208 : f4 208 = .inl (kc 3, 41, .inl (fun _ => 0))) (h209 : f4 209 = .inl (kc 1, 3, .inl (mRk))) (h210 : f4 210 = .inl (kc 1, 5, .inl (mPr))) (h211 : f4 211 = .inl (kc 1, 2, .inl (upd (upd (fun _ => 0) 0 2) 1 3))) (h212 : f4 212 = .inl (kc 1, 40, .inl (fun _ => 0))) (h213 : f4 213 = .inl (kc 1, 40, .inl (fun _ => 0))) (h214 : f4 214 = .inl (kc 3, 40, .inl (fun _ => 0))) (h215 : f4 215 = .inl (kc 1, 103041, .inl (fun _ => 0))) (h216 : f4 216 = .inl (kc 1, 8, .inl (fun _ => 0))) (h217 : f4 217 = .inl (kc 1, 470, .inl (fun _ => 0))) (h218 : f4 218 = .inl (kc 1, 470, .inl (fun _ => 0))) (h219 : f4 219 = .inl (kc 1, 470, .inl (fun _ => 0))) : ∀ i, i < 220 → f4 i = jX b kc SZ SZ i := by
  intro i hi
  by_cases hm : 14 ≤ i ∧ i < 174
  · rw [e i (by omega), hmk i hm.1 hm.2, jX_at (by omega)]
    have e1 : SZ.1 i = fun _ => 0 := by
      funext k
      show iI i k = 0
      unfold iI
      rw [if_neg (by omega), if_neg (by omega), if_neg (by omega), if_neg (by omega), if_neg (by omega), if_neg (by omega), if_neg (by omega), if_neg (by omega)]
    have e2 : SZ.2.2 i = fun _ => none := by
      funext k
      show iQ i k = none
      unfold iQ
      rw [if_neg (by omega)]
    rw [e1, e2]
    rfl
  · obtain rfl | rfl | rfl | rfl | rfl | rfl | rfl | rfl | rfl | rfl | rfl | rfl | rfl | rfl | rfl | rfl | rfl | rfl | rfl | rfl | rfl | rfl | rfl | rfl | rfl | rfl | rfl | rfl | rfl | rfl | rfl | rfl | rfl | rfl | rfl | rfl | rfl | rfl | rfl | rfl | rfl | rfl | rfl | rfl | rfl | rfl | rfl | rfl | rfl | rfl | rfl | rfl | rfl | rfl | rfl | rfl | rfl | rfl | rfl | rfl : i = 0 ∨ i = 1 ∨ i = 2 ∨ i = 3 ∨ i = 4 ∨ i = 5 ∨ i = 6 ∨ i = 7 ∨ i = 8 ∨ i = 9 ∨ i = 10 ∨ i = 11 ∨ i = 12 ∨ i = 13 ∨ i = 174 ∨ i = 175 ∨ i = 176 ∨ i = 177 ∨ i = 178 ∨ i = 179 ∨ i = 180 ∨ i = 181 ∨ i = 182 ∨ i = 183 ∨ i = 184 ∨ i = 185 ∨ i = 186 ∨ i = 187 ∨ i = 188 ∨ i = 189 ∨ i = 190 ∨ i = 191 ∨ i = 192 ∨ i = 193 ∨ i = 194 ∨ i = 195 ∨ i = 196 ∨ i = 197 ∨ i = 198 ∨ i = 199 ∨ i = 200 ∨ i = 201 ∨ i = 202 ∨ i = 203 ∨ i = 204 ∨ i = 205 ∨ i = 206 ∨ i = 207 ∨ i = 208 ∨ i = 209 ∨ i = 210 ∨ i = 211 ∨ i = 212 ∨ i = 213 ∨ i = 214 ∨ i = 215 ∨ i = 216 ∨ i = 217 ∨ i = 218 ∨ i = 219 := by omega
    · rw [e 0 (by decide), h0]; rfl
    · rw [e 1 (by decide), h1]; rfl
    · rw [e 2 (by decide), h2]; rfl
    · rw [e 3 (by decide), h3]; rfl
    · rw [e 4 (by decide), h4]; rfl
    · rw [e 5 (by decide), h5]; rfl
    · rw [e 6 (by decide), h6]; rfl
    · rw [e 7 (by decide), h7]; rfl
    · rw [e 8 (by decide), h8]; rfl
    · rw [e 9 (by decide), h9]; rfl
    · rw [e 10 (by decide), h10]; rfl
    · rw [e 11 (by decide), h11]; rw [ar_11 b]; rfl
    · rw [e 12 (by decide), h12]; rw [ar_12]; rfl
    · rw [e 13 (by decide), h13]; rfl
    · rw [e 174 (by decide), h174]; rfl
    · rw [e 175 (by decide), h175]; rfl
    · rw [e 176 (by decide), h176]; rfl
    · rw [e 177 (by decide), h177]; rfl
    · rw [e 178 (by decide), h178]; rfl
    · rw [e 179 (by decide), h179]; rfl
    · rw [e 180 (by decide), h180]; rfl
    · rw [e 181 (by decide), h181]; rfl
    · rw [e 182 (by decide), h182]; rfl
    · rw [e 183 (by decide), h183]; rfl
    · rw [e 184 (by decide), h184]; rfl
    · rw [e 185 (by decide), h185]; rfl
    · rw [e 186 (by decide), h186]; rfl
    · rw [e 187 (by decide), h187]; rfl
    · rw [e 188 (by decide), h188]; rfl
    · rw [e 189 (by decide), h189]; rfl
    · rw [e 190 (by decide), h190]; rfl
    · rw [e 191 (by decide), h191]; rw [ar_191]; rfl
    · rw [h192]; rfl
    · rw [h193]; rfl
    · rw [h194]; rfl
    · rw [h195]; rfl
    · rw [h196]; rfl
    · rw [h197]; rfl
    · rw [h198]; rfl
    · rw [h199]; rfl
    · rw [h200]; rfl
    · rw [h201]; rfl
    · rw [h202]; rfl
    · rw [h203]; rfl
    · rw [h204]; rfl
    · rw [h205]; rfl
    · rw [h206]; rfl
    · rw [h207]; rfl
    · rw [h208]; rfl
    · rw [h209]; rw [show mRk = fun k => oi (iI 209 k) from ar_12]; rfl
    · rw [h210]; rw [show mPr = fun k => oi (iI 210 k) from ar_191]; rfl
    · rw [h211]; rw [ar_211]; rfl
    · rw [h212]; rfl
    · rw [h213]; rfl
    · rw [h214]; rfl
    · rw [h215]; rfl
    · rw [h216]; rfl
    · rw [h217]; rfl
    · rw [h218]; rfl
    · rw [h219]; rfl
