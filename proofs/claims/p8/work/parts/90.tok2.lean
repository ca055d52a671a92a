theorem t_congr {b b' : Int → Int} {N p s e : Int} (hp : 0 ≤ p) (hb : ∀ j, 0 ≤ j → j < N → b j = b' j) (h : t_is b N p s e) : t_is b' N p s e := by
  obtain ⟨a1, a2, a3, a4⟩ := h
  refine ⟨a1, a2, fun i h1 h2 => by rw [← hb i (by omega) (by omega)]; exact a3 i h1 h2, ?_⟩
  rcases a4 with a4 | ⟨c1, c2, c3, c4, c5⟩
  · exact .inl a4
  · right
    have es := hb s (by omega) c1
    rw [← es]
    refine ⟨c1, c2, c3, c4, ?_⟩
    rcases c5 with c5 | ⟨d1, d2, d3⟩
    · exact .inl c5
    · refine .inr ⟨d1, fun i h1 h2 => by rw [← hb i (by omega) (by omega)]; exact d2 i h1 h2, ?_⟩
      by_cases c : e = N
      · exact .inl c
      · right
        rw [← hb e (by omega) (by omega)]
        rcases d3 with d3 | d3
        · exact absurd d3 c
        · exact d3
/-- the tape being read is alike, its bytes are bytes -/
def BF (S T : SS) : Prop := gi S 1 1 = gi T 192 9 ∧ 0 ≤ gi S 1 1 ∧ gi S 1 1 ≤ 2000 ∧ ∀ k : Nat, (k : Int) < gi S 1 1 → gi S 2 k = gi T 197 k ∧ -128 ≤ gi T 197 k ∧ gi T 197 k ≤ 127
theorem BF_by {S T : SS} (h : BF S T) (j : Int) (h0 : 0 ≤ j) (h1 : j < gi T 192 9) : cby_ S j = mby_ T j := by
  unfold cby_ mby_
  rw [(h.2.2.2 j.toNat (by rw [h.1]; omega)).1]
/-- the reference has read the token that the class reads next -/
def AH (S T : SS) : Prop := 0 ≤ gi S 177 4 ∧ gi S 177 4 ≤ gi T 192 9 ∧ t_is (mby_ T) (gi T 192 9) (gi S 177 4) (gi T 192 10) (gi T 192 11) ∧ t_hand (mby_ T) (gi T 192 9) (gi T 192 10) (gi T 192 11) (gi T 192 12) (gi T 192 13)
/-- both stand at the same token -/
def TKR (S T : SS) : Prop := gi S 177 5 = gi T 192 10 ∧ gi S 177 4 = gi T 192 11 ∧ 0 ≤ gi T 192 10 ∧ gi T 192 10 ≤ gi T 192 11 ∧ gi T 192 11 ≤ gi T 192 9 ∧ (gi T 192 10 < gi T 192 9 → gi T 192 10 < gi T 192 11) ∧ gi S 177 6 = (if gi T 192 10 = gi T 192 9 then 0 else t_cls (mby_ T (gi T 192 10))) ∧ t_hand (mby_ T) (gi T 192 9) (gi T 192 10) (gi T 192 11) (gi T 192 12) (gi T 192 13)
theorem AH_read {S T S1 : SS} (hB : BF S T) (h : AH S T) (e : f_MarkReader_readToken S = some S1) : TKR S1 T ∧ FX (fun r k => r = 177 ∧ 4 ≤ k) S S1 := by
  obtain ⟨a0, a1, a2, a3⟩ := h
  obtain ⟨f, q, q6⟩ := tk_read S ⟨a0, by rw [hB.1]; exact a1⟩ hB.2.2.1 S1 e
  have q' := t_congr (b' := mby_ T) a0 (fun j h0 h1 => BF_by hB j h0 (by rw [← hB.1]; exact h1)) q
  rw [hB.1] at q'
  have u := t_one q' a2
  refine ⟨⟨u.1, u.2, ?_, ?_, ?_, ?_, ?_, a3⟩, f⟩
  · have := a2.1; omega
  · rcases a2.2.2.2 with w | w <;> omega
  · rcases a2.2.2.2 with w | w <;> omega
  · intro w0
    rcases a2.2.2.2 with w | w <;> omega
  · rw [q6, u.1, hB.1]
    by_cases c : gi T 192 10 = gi T 192 9
    · rw [if_pos c, if_pos c]
    · rw [if_neg c, if_neg c, BF_by hB _ (by have := a2.1; omega) (by have := a2.2.1; omega)]
theorem TKR_scan {S T T1 : SS} (hN : gi T 192 9 ≤ 2000) (h : TKR S T) (e : f_M_scan T = some T1) : AH S T1 ∧ fr XSN T T1 := by
  obtain ⟨k1, k2, k3, k4, k5, k6, k7, k8⟩ := h
  obtain ⟨f, q, w⟩ := mk_scan T ⟨by omega, k5⟩ hN T1 e
  have e9 : gi T1 192 9 = gi T 192 9 := f 192 9 (by omega)
  have eb : mby_ T1 = mby_ T := by
    funext j; unfold mby_; rw [f 197 _ (by omega)]
  refine ⟨⟨by omega, by omega, ?_, ?_⟩, f⟩
  · rw [e9, eb, k2]; exact q
  · rw [e9, eb]; exact w
def tc_ch (i k : Nat) : Int := toc (andi (stc i k) 255)
theorem chA {S : SS} {i : Nat} {v r : Int} (h : f_charAt S i v = some r) : r = tc_ch i v.toNat := by
  unfold f_charAt f_isLatin1 at h
  rw [if_neg (by decide)] at h
  obtain ⟨a, ea, h⟩ := w_b1E h
  obtain ⟨_, h⟩ := w_chkE h
  cases h
  unfold f_l1charAt at ea
  obtain ⟨_, _, ea⟩ := w_b1E ea
  obtain ⟨_, ea⟩ := w_chkE ea
  obtain ⟨_, ea⟩ := w_chkE ea
  cases ea
  rfl
def tc_ln (i : Nat) : Int := shri (stl i) 0
/-- the token s .. e is the string i -/
def tc_is (b : Int → Int) (s e : Int) (i : Nat) : Prop := e - s = tc_ln i ∧ ∀ k : Nat, (k : Int) < tc_ln i → b (s + (k : Int)) = tc_ch i k
theorem isT_loop (S : SS) (i : Nat) (N : Int) (hN : gi S 1 1 = N) (h2 : N ≤ 2000) (h0 : 0 ≤ gi S 177 5) (h1 : gi S 177 4 ≤ N) (hl : gi S 177 4 - gi S 177 5 = tc_ln i) : ∀ (n : Nat) (k : Nat), (∀ j : Nat, j < k → (j : Int) < tc_ln i → cby_ S (gi S 177 5 + (j : Int)) = tc_ch i j) → pc (f_MarkReader_isToken_20 S i n (k : Int)) (fun r => (r = 0 ∧ ¬ tc_is (cby_ S) (gi S 177 5) (gi S 177 4) i) ∨ (r = 1 ∧ tc_is (cby_ S) (gi S 177 5) (gi S 177 4) i)) := by
  intro n
  induction n with
  | zero => intro k _ r e; exact absurd e (by simp [f_MarkReader_isToken_20])
  | succ n ih =>
    intro k hk
    show pc (f_MarkReader_isToken_20_b S i (f_MarkReader_isToken_20 S i n) (k : Int)) _
    unfold f_MarkReader_isToken_20_b
    have el : f_length S i = tc_ln i := rfl
    rw [el]
    refine pc_if (fun c => pc_some (.inr ⟨rfl, hl, fun j hj => hk j (by omega) hj⟩)) (fun c => pc_chk (fun _ => pc_chk (fun _ => ?_)))
    rw [w_b1_is (cby (S := S) (i := gi S 177 5 + (k : Int)) (by omega) (by omega) (by omega))]
    have eb : andi (gi S 2 (gi S 177 5 + (k : Int)).toNat) 255 = cby_ S (gi S 177 5 + (k : Int)) := rfl
    rw [eb]
    refine pc_b1 (R := fun r => r = tc_ch i k) (fun r e => by have := chA e; rw [Int.toNat_natCast] at this; exact this) (fun r6 h6 => pc_if (fun c2 => pc_chk (fun _ => ?_)) (fun c2 => pc_some (.inl ⟨rfl, fun q => c2 (by rw [h6]; exact q.2 k (by omega))⟩)))
    rw [show (k : Int) + 1 = ((k + 1 : Nat) : Int) by omega]
    refine ih (k + 1) (fun j hj hl' => ?_)
    by_cases e : j = k
    · rw [e, ← h6]; exact c2
    · exact hk j (by omega) hl'
theorem isT (S : SS) (i : Nat) (N : Int) (hN : gi S 1 1 = N) (h2 : N ≤ 2000) (h0 : 0 ≤ gi S 177 5) (h1 : gi S 177 4 ≤ N) : pc (f_MarkReader_isToken S i) (fun r => (r = 0 ∧ ¬ tc_is (cby_ S) (gi S 177 5) (gi S 177 4) i) ∨ (r = 1 ∧ tc_is (cby_ S) (gi S 177 5) (gi S 177 4) i)) := by
  unfold f_MarkReader_isToken
  have el : f_length S i = tc_ln i := rfl
  rw [el]
  refine pc_chk (fun _ => pc_if (fun c => ?_) (fun c => pc_some (.inl ⟨rfl, fun q => c q.1⟩)))
  exact isT_loop S i N hN h2 h0 h1 c FU 0 (fun j hj => absurd hj (Nat.not_lt_zero j))
theorem isM_loop (T : SS) (i : Nat) (A : Prop) : ∀ (n : Nat) (v2 : Int) (k : Nat), ((v2 = 1 ∧ A ∧ ∀ j : Nat, j < k → (j : Int) < tc_ln i → gi T 197 (gi T 192 10 + (j : Int)).toNat = tc_ch i j) ∨ (v2 = 0 ∧ ¬ (A ∧ ∀ j : Nat, (j : Int) < tc_ln i → gi T 197 (gi T 192 10 + (j : Int)).toNat = tc_ch i j))) → pc (f_M_is_40 T i n v2 (k : Int)) (fun r => (r = 0 ∧ ¬ (A ∧ ∀ j : Nat, (j : Int) < tc_ln i → gi T 197 (gi T 192 10 + (j : Int)).toNat = tc_ch i j)) ∨ (r = 1 ∧ (A ∧ ∀ j : Nat, (j : Int) < tc_ln i → gi T 197 (gi T 192 10 + (j : Int)).toNat = tc_ch i j))) := by
  intro n
  induction n with
  | zero => intro v2 k _ r e; exact absurd e (by simp [f_M_is_40])
  | succ n ih =>
    intro v2 k hk
    show pc (f_M_is_40_b T i (f_M_is_40 T i n) v2 (k : Int)) _
    unfold f_M_is_40_b
    have el : f_length T i = tc_ln i := rfl
    rw [el]
    refine pc_if (fun c => pc_chk (fun _ => pc_some ?_)) (fun c => pc_if (fun c2 => pc_chk (fun _ => pc_some ?_)) (fun c2 => pc_chk (fun _ => pc_chk (fun _ => ?_))))
    · rcases hk with q | q
      · exact .inr ⟨q.1, q.2.1, fun j hj => q.2.2 j (by omega) hj⟩
      · exact .inl q
    · rcases hk with q | q
      · exact absurd (q.1.symm.trans c2) (by decide)
      · exact .inl q
    · have hk1 : A ∧ ∀ j : Nat, j < k → (j : Int) < tc_ln i → gi T 197 (gi T 192 10 + (j : Int)).toNat = tc_ch i j := by
        rcases hk with q | q
        · exact q.2
        · exact absurd q.1 c2
      refine pc_b1 (R := fun r => r = tc_ch i k) (fun r e => by have := chA e; rw [Int.toNat_natCast] at this; exact this) (fun r7 h7 => ?_)
      unfold f_M_is_76
      rw [show (k : Int) + 1 = ((k + 1 : Nat) : Int) by omega]
      refine pc_if (fun c3 => pc_chk (fun _ => ih 1 (k + 1) (.inl ⟨rfl, hk1.1, fun j hj hl => ?_⟩))) (fun c3 => pc_chk (fun _ => ih 0 (k + 1) (.inr ⟨rfl, fun q => c3 (by rw [h7]; exact q.2 k (by omega))⟩)))
      by_cases e : j = k
      · rw [e, ← h7]; exact c3
      · exact hk1.2 j (by omega) hl
theorem isM (T : SS) (i : Nat) : pc (f_M_is T i) (fun r => (r = 0 ∧ ¬ (((gi T 192 12 = 1 ∨ gi T 192 12 = 3) ∧ gi T 192 11 - gi T 192 10 = tc_ln i) ∧ ∀ j : Nat, (j : Int) < tc_ln i → gi T 197 (gi T 192 10 + (j : Int)).toNat = tc_ch i j)) ∨ (r = 1 ∧ (((gi T 192 12 = 1 ∨ gi T 192 12 = 3) ∧ gi T 192 11 - gi T 192 10 = tc_ln i) ∧ ∀ j : Nat, (j : Int) < tc_ln i → gi T 197 (gi T 192 10 + (j : Int)).toNat = tc_ch i j))) := by
  have L := isM_loop T i ((gi T 192 12 = 1 ∨ gi T 192 12 = 3) ∧ gi T 192 11 - gi T 192 10 = tc_ln i) FU
  have no : ¬ ((gi T 192 12 = 1 ∨ gi T 192 12 = 3) ∧ gi T 192 11 - gi T 192 10 = tc_ln i) → pc (f_M_is_36 T i) _ := fun h => by
    unfold f_M_is_36 f_M_is_37
    exact L 0 0 (.inr ⟨rfl, fun q => h q.1⟩)
  have y16 : (gi T 192 12 = 1 ∨ gi T 192 12 = 3) → pc (f_M_is_16 T i) _ := fun h => by
    unfold f_M_is_16
    have el : f_length T i = tc_ln i := rfl
    rw [el]
    refine pc_chk (fun _ => pc_if (fun c => ?_) (fun c => no (fun q => c q.2)))
    unfold f_M_is_37
    exact L 1 0 (.inl ⟨rfl, ⟨h, c⟩, fun j hj => absurd hj (Nat.not_lt_zero j)⟩)
  unfold f_M_is
  exact pc_if (fun c => y16 (.inl c)) (fun c => pc_if (fun c2 => y16 (.inr c2)) (fun c2 => no (fun q => q.1.elim c c2)))
theorem ch_all : ∀ i : Nat, i < 13 → 1 ≤ i → (1 ≤ tc_ln i ∧ tc_ln i ≤ 7 ∧ ((t_cls (tc_ch i 0) = 1) ∨ (t_cls (tc_ch i 0) = 0 ∧ (tc_ch i 0 = 63 ∨ tc_ch i 0 = 61 ∨ tc_ch i 0 = 59)))) ∧ ∀ k : Nat, k < 7 → 0 ≤ tc_ch i k ∧ tc_ch i k ≤ 127 := by
  unfold t_cls
  decide +kernel
theorem and_all : ∀ n : Nat, n < 256 → andi ((n : Int) - 128) 255 = if 128 ≤ n then (n : Int) - 128 else (n : Int) + 128 := by decide +kernel
theorem and_raw (x c : Int) (h : -128 ≤ x ∧ x ≤ 127) (hc : 0 ≤ c ∧ c ≤ 127) : andi x 255 = c ↔ x = c := by
  have e := and_all (x + 128).toNat (by omega)
  rw [show (((x + 128).toNat : Nat) : Int) - 128 = x by omega] at e
  rw [e]
  split <;> omega
theorem is_eq {S T : SS} {i : Nat} (hi : i < 13 ∧ 1 ≤ i) (hB : BF S T) (h : TKR S T) {r t : Int} (e1 : f_MarkReader_isToken S i = some r) (e2 : f_M_is T i = some t) : r = t ∧ (r = 0 ∨ r = 1) := by
  obtain ⟨k1, k2, k3, k4, k5, k6, k7, k8⟩ := h
  have A := isT S i (gi S 1 1) rfl hB.2.2.1 (by omega) (by rw [hB.1]; omega) r e1
  have M := isM T i t e2
  have C := ch_all i hi.1 hi.2
  have eqv : tc_is (cby_ S) (gi S 177 5) (gi S 177 4) i ↔ (((gi T 192 12 = 1 ∨ gi T 192 12 = 3) ∧ gi T 192 11 - gi T 192 10 = tc_ln i) ∧ ∀ j : Nat, (j : Int) < tc_ln i → gi T 197 (gi T 192 10 + (j : Int)).toNat = tc_ch i j) := by
    unfold tc_is
    rw [k1, k2]
    have pt : gi T 192 11 - gi T 192 10 = tc_ln i → ∀ j : Nat, (j : Int) < tc_ln i → (cby_ S (gi T 192 10 + (j : Int)) = tc_ch i j ↔ gi T 197 (gi T 192 10 + (j : Int)).toNat = tc_ch i j) := by
      intro hl j hj
      have q := hB.2.2.2 (gi T 192 10 + (j : Int)).toNat (by rw [hB.1]; omega)
      have w := C.2 j (by omega)
      unfold cby_
      rw [q.1]
      exact and_raw _ _ q.2 w
    constructor
    · rintro ⟨hl, hb⟩
      have b0 := hb 0 (by have := C.1.1; omega)
      have lt : gi T 192 10 < gi T 192 9 := by have := C.1.1; omega
      have m0 : mby_ T (gi T 192 10) = tc_ch i 0 := by
        rw [← BF_by hB _ k3 lt]
        have : gi T 192 10 + ((0 : Nat) : Int) = gi T 192 10 := by omega
        rw [this] at b0
        exact b0
      have hh := k8.2 lt
      refine ⟨⟨?_, hl⟩, fun j hj => (pt hl j hj).1 (hb j hj)⟩
      rcases C.1.2.2 with w | w
      · left; exact hh.1 (by rw [m0]; exact w)
      · right
        rcases hh.2.2 (by rw [m0]; exact w.1) with z | z
        · exact z.1
        · exact absurd (by rw [m0]; exact w.2) z.2
    · rintro ⟨⟨_, hl⟩, hb⟩
      exact ⟨hl, fun j hj => (pt hl j hj).2 (hb j hj)⟩
  rcases A with a | a
  · rcases M with m | m
    · exact ⟨a.1.trans m.1.symm, .inl a.1⟩
    · exact absurd (eqv.2 m.2) a.2
  · rcases M with m | m
    · exact absurd (eqv.1 a.2) m.2
    · exact ⟨a.1.trans m.1.symm, .inr a.1⟩
