theorem pfx_lay {X : Nat → Nat → Prop} (h197 : ∀ k, X 197 k) (h8 : X 192 8) (S0 : SS) (v1 : Int) : ∀ (n : Nat) (S : SS) (v2 : Int), fr X S0 S → pc (f_M_lay_3 v1 n S v2) (fr X S0) := by
  intro n
  induction n with
  | zero => intro S v2 h r e; exact absurd e (by simp [f_M_lay_3])
  | succ n ih =>
    intro S v2 h
    show pc (f_M_lay_3_b v1 (f_M_lay_3 v1 n) S v2) _
    unfold f_M_lay_3_b
    exact pc_if (fun _ => pc_some h) (fun _ => pc_chk (fun _ => pf_lt h (h197 _) (fun _ h => pc_chk (fun _ => pf_lt h h8 (fun _ h => pc_chk (fun _ => ih _ _ h))))))
abbrev XTP (r k : Nat) : Prop := r = 197 ∨ (r = 192 ∧ k = 8)
theorem fm_feed (S : SS) (v1 v2 v3 v4 v5 : Int) : pc (f_M_feed S v1 v2 v3 v4 v5) (fun u => fr XTP S u.2) := by
  have L := fun v S' (h : fr XTP S S') => pfx_lay (X := XTP) (fun k => .inl rfl) (.inr ⟨rfl, rfl⟩) S v FU S' 24 h
  unfold f_M_feed f_M_lay
  exact pc_chk (fun _ => pc_if (fun _ => pc_b1 (L _ _ (fr_refl _ S)) (fun _ h => pc_b1 (L _ _ h) (fun _ h => pc_b1 (L _ _ h) (fun _ h => pc_b1 (L _ _ h) (fun _ h => pc_b1 (L _ _ h) (fun _ h => pc_some h)))))) (fun _ => pc_some (fr_refl _ S)))
theorem fm_end (S : SS) (v1 : Int) : pc (f_M_end S v1) (fun u => fr XTP S u.2) := by
  unfold f_M_end
  exact pc_if (fun _ => pc_some (fr_refl _ S)) (fun _ => pf_lt (fr_refl _ S) (.inr ⟨rfl, rfl⟩) (fun _ h => pc_some h))
theorem RBX_tape {S T S1 T1 : SS} (h : RBX S T) (hR : TR S1 T1) (hs : ∀ r k, PCB r k → r ≠ 1 → r ≠ 2 → gi S1 r k = gi S r k) (ht : ∀ r k, PRB r k → ¬ XTP r k → gi T1 r k = gi T r k) : RBX S1 T1 := by
  obtain ⟨_, b, c, d, e, f, g⟩ := h
  exact ⟨hR, by rw [hs 4 1 (by omega) (by omega) (by omega), ht 192 3 (by omega) (by omega)]; exact b, by rw [hs 6 1 (by omega) (by omega) (by omega), ht 192 4 (by omega) (by omega)]; exact c, fun k => by rw [hs 12 k (by omega) (by omega) (by omega), ht 209 k (by omega) (by omega)]; exact d k, fun k => by rw [hs 191 k (by omega) (by omega) (by omega), ht 210 k (by omega) (by omega)]; exact e k, by rw [hs 183 5 (by omega) (by omega) (by omega), ht 211 0 (by omega) (by omega)]; exact f, by rw [hs 183 6 (by omega) (by omega) (by omega), ht 211 1 (by omega) (by omega)]; exact g⟩
abbrev XCT (r k : Nat) : Prop := r = 2 ∨ (r = 1 ∧ k = 1)
theorem RBX_feed {S T S1 T1 : SS} {a1 a2 a3 a4 a5 r t : Int} (hC : CX 0 S) (h : RBX S T) (h1 : f_MP_feed S a1 a2 a3 a4 a5 = some (r, S1)) (h2 : f_M_feed T a1 a2 a3 a4 a5 = some (t, T1)) : RBX S1 T1 ∧ r = t := by
  have q := sim_feed S T a1 a2 a3 a4 a5 r t S1 T1 h.1 (cx_1_1 hC).1 h1 h2
  have f1 := fx_MP_feed (X := XCT) (S0 := S) (x_2 := fun k => .inl rfl) (x_1_1 := .inr ⟨rfl, rfl⟩) S a1 a2 a3 a4 a5 (FX_refl _ S) _ h1
  have f2 := fm_feed T a1 a2 a3 a4 a5 _ h2
  exact ⟨RBX_tape h q.2 (fun r k p a c => f1.1 r k (by omega)) (fun r k p a => f2 r k a), q.1⟩
theorem RBX_end {S T S1 T1 : SS} {a1 r t : Int} (h : RBX S T) (h1 : f_MP_end S a1 = some (r, S1)) (h2 : f_M_end T a1 = some (t, T1)) : RBX S1 T1 ∧ r = t := by
  have q := sim_end S T a1 r t S1 T1 h.1 h1 h2
  have f1 := fx_MP_end (X := XCT) (S0 := S) (x_1_1 := .inr ⟨rfl, rfl⟩) S a1 (FX_refl _ S) _ h1
  have f2 := fm_end T a1 _ h2
  exact ⟨RBX_tape h q.2 (fun r k p a c => f1.1 r k (by omega)) (fun r k p a => f2 r k a), q.1⟩
theorem pfx_readProof {X : Nat → Nat → Prop} (h14 : X 192 14) (h15 : X 192 15) (S0 : SS) (v1 : Int) : ∀ (n : Nat) (S : SS) (v2 v3 v4 : Int), fr X S0 S → pc (f_M_readProof_7 v1 n S v2 v3 v4) (fun u => fr X S0 u.2) := by
  intro n
  induction n with
  | zero => intro S v2 v3 v4 h r e; exact absurd e (by simp [f_M_readProof_7])
  | succ n ih =>
    intro S v2 v3 v4 h
    show pc (f_M_readProof_7_b v1 (f_M_readProof_7 v1 n) S v2 v3 v4) _
    unfold f_M_readProof_7_b f_M_readProof_86 f_M_readProof_112 f_M_readProof_51
    repeat' first | with_reducible exact ih _ _ _ _ (by assumption) | with_reducible exact pc_some (by assumption) | with_reducible refine pc_chk (fun _ => ?_) | with_reducible refine pc_if (fun _ => ?_) (fun _ => ?_) | with_reducible refine pf_wr (by assumption) h14 h15 (fun _ _ => ?_) | with_reducible refine pf_lts (by assumption) (fun _ _ => ?_) | with_reducible refine pf_b1 (fun _ => ?_)
/-- what reading a proof changes in the reference's ints -/
abbrev XRP (r k : Nat) : Prop := r = 192 ∧ (k = 9 ∨ k = 11 ∨ k = 14 ∨ k = 15)
theorem m_begin_is (T : SS) : gi (f_M_begin T) 192 8 = 0 ∧ ∀ r k, ¬ XRP r k → ¬ (r = 192 ∧ k = 8) → gi (f_M_begin T) r k = gi T r k := by
  refine ⟨?_, fun r k a c => ?_⟩
  · show gi (si (si (si (si (si T 192 9 (gi T 192 8)) 192 8 0) 192 11 0) 192 14 0) 192 15 (-1)) 192 8 = 0
    rw [gi_off (by omega), gi_off (by omega), gi_off (by omega), gi_at]
  · show gi (si (si (si (si (si T 192 9 (gi T 192 8)) 192 8 0) 192 11 0) 192 14 0) 192 15 (-1)) r k = gi T r k
    rw [gi_off (by omega), gi_off (by omega), gi_off (by omega), gi_off (by omega), gi_off (by omega)]
theorem m_rp_is {T T1 : SS} {most : Int} {o : Option Int} (h : f_M_readProof (f_M_begin T) most = some (o, T1)) : gi T1 192 8 = 0 ∧ ∀ r k, ¬ XRP r k → ¬ (r = 192 ∧ k = 8) → gi T1 r k = gi T r k := by
  have f := pfx_readProof (X := XRP) (by omega) (by omega) (f_M_begin T) most FU (f_M_begin T) 0 0 0 (fr_refl _ _) _ h
  have b := m_begin_is T
  exact ⟨by rw [f 192 8 (by omega)]; exact b.1, fun r k a c => by rw [f r k a]; exact b.2 r k a c⟩
theorem m_first_is : ∀ (n : Nat) (S S1 : SS) (v1 v2 t : Int), f_M_first_19 n S v1 v2 = some (t, S1) → 0 ≤ v2 → t = v1 ∧ gi S1 192 3 = v1 ∧ (∀ r k, ¬ (r = 192 ∧ (k = 3 ∨ k = 27)) → gi S1 r k = gi S r k) ∧ gi S1 192 27 = 0 ∧ (∀ r k, r ≠ 193 → gl S1 r k = gl S r k) ∧ (∀ k : Nat, (k : Int) < v2 → gl S1 193 k = gl S 193 k) ∧ (∀ k : Nat, v2 ≤ (k : Int) → (k : Int) < v1 → gl S1 193 k = gl S 198 k) := by
  intro n
  induction n with
  | zero => intro S S1 v1 v2 t h; exact absurd h (by simp [f_M_first_19])
  | succ n ih =>
    intro S S1 v1 v2 t h h0
    have h : f_M_first_19_b (f_M_first_19 n) S v1 v2 = some (t, S1) := h
    unfold f_M_first_19_b at h
    by_cases c : v1 ≤ v2
    · rw [if_pos c] at h
      unfold w_lt at h
      cases h
      exact ⟨rfl, by rw [gi_off (by omega), gi_at], fun r k a => by rw [gi_off (by omega), gi_off (by omega)], gi_at _ _ _ _, fun _ _ _ => rfl, fun _ _ => rfl, fun k a d => by omega⟩
    · rw [if_neg c] at h
      obtain ⟨_, h⟩ := w_chkE h
      obtain ⟨_, h⟩ := w_chkE h
      unfold w_lt at h
      obtain ⟨_, h⟩ := w_chkE h
      have I := ih _ S1 v1 (v2 + 1) t h (by omega)
      refine ⟨I.1, I.2.1, fun r k a => I.2.2.1 r k a, I.2.2.2.1, fun r k a => ?_, fun k a => ?_, fun k a d => ?_⟩
      · rw [I.2.2.2.2.1 r k a, gl_slN, if_neg (fun q => a q.1)]
      · rw [I.2.2.2.2.2.1 k (by omega), gl_slN, if_neg (fun q => by omega)]
      · by_cases e : (k : Int) = v2
        · rw [I.2.2.2.2.2.1 k (by omega), gl_slN, if_pos ⟨rfl, by omega⟩, show v2.toNat = k by omega]
        · rw [I.2.2.2.2.2.2 k (by omega) d, gl_slN, if_neg (fun q => absurd q.1 (by decide))]
theorem m_second_is : ∀ (n : Nat) (S S1 : SS) (v1 v2 t : Int), f_M_second_20 n S v1 v2 = some (t, S1) → 0 ≤ v2 → t = v1 ∧ gi S1 192 4 = v1 ∧ (∀ r k, ¬ (r = 192 ∧ k = 4) → gi S1 r k = gi S r k) ∧ (∀ r k, r ≠ 194 → gl S1 r k = gl S r k) ∧ (∀ k : Nat, (k : Int) < v2 → gl S1 194 k = gl S 194 k) ∧ (∀ k : Nat, v2 ≤ (k : Int) → (k : Int) < v1 → gl S1 194 k = gl S 198 k) := by
  intro n
  induction n with
  | zero => intro S S1 v1 v2 t h; exact absurd h (by simp [f_M_second_20])
  | succ n ih =>
    intro S S1 v1 v2 t h h0
    have h : f_M_second_20_b (f_M_second_20 n) S v1 v2 = some (t, S1) := h
    unfold f_M_second_20_b at h
    by_cases c : v1 ≤ v2
    · rw [if_pos c] at h
      unfold w_lt at h
      cases h
      exact ⟨rfl, gi_at _ _ _ _, fun r k a => gi_off a, fun _ _ _ => rfl, fun _ _ => rfl, fun k a d => by omega⟩
    · rw [if_neg c] at h
      obtain ⟨_, h⟩ := w_chkE h
      obtain ⟨_, h⟩ := w_chkE h
      unfold w_lt at h
      obtain ⟨_, h⟩ := w_chkE h
      have I := ih _ S1 v1 (v2 + 1) t h (by omega)
      refine ⟨I.1, I.2.1, fun r k a => I.2.2.1 r k a, fun r k a => ?_, fun k a => ?_, fun k a d => ?_⟩
      · rw [I.2.2.2.1 r k a, gl_slN, if_neg (fun q => a q.1)]
      · rw [I.2.2.2.2.1 k (by omega), gl_slN, if_neg (fun q => by omega)]
      · by_cases e : (k : Int) = v2
        · rw [I.2.2.2.2.1 k (by omega), gl_slN, if_pos ⟨rfl, by omega⟩, show v2.toNat = k by omega]
        · rw [I.2.2.2.2.2 k (by omega) d, gl_slN, if_neg (fun q => absurd q.1 (by decide))]
theorem m_next_is : ∀ (n : Nat) (S S1 : SS) (v1 t : Int), f_M_next_20 n S v1 = some (t, S1) → 0 ≤ v1 → t = gi S 192 4 ∧ gi S1 192 3 = gi S 192 4 ∧ gi S1 192 4 = 0 ∧ gi S1 192 27 = 0 ∧ (∀ r k, ¬ (r = 192 ∧ (k = 3 ∨ k = 4 ∨ k = 27)) → gi S1 r k = gi S r k) ∧ (∀ r k, r ≠ 193 → gl S1 r k = gl S r k) ∧ (∀ k : Nat, (k : Int) < v1 → gl S1 193 k = gl S 193 k) ∧ (∀ k : Nat, v1 ≤ (k : Int) → (k : Int) < gi S 192 4 → gl S1 193 k = gl S 194 k) := by
  intro n
  induction n with
  | zero => intro S S1 v1 t h; exact absurd h (by simp [f_M_next_20])
  | succ n ih =>
    intro S S1 v1 t h h0
    have h : f_M_next_20_b (f_M_next_20 n) S v1 = some (t, S1) := h
    unfold f_M_next_20_b at h
    by_cases c : gi S 192 4 ≤ v1
    · rw [if_pos c] at h
      unfold w_lt at h
      cases h
      refine ⟨by rw [gi_off (by omega), gi_off (by omega), gi_at], by rw [gi_off (by omega), gi_off (by omega), gi_at], by rw [gi_off (by omega), gi_at], gi_at _ _ _ _, fun r k a => by rw [gi_off (by omega), gi_off (by omega), gi_off (by omega)], fun _ _ _ => rfl, fun _ _ => rfl, fun k a d => by omega⟩
    · rw [if_neg c] at h
      obtain ⟨_, h⟩ := w_chkE h
      obtain ⟨_, h⟩ := w_chkE h
      unfold w_lt at h
      obtain ⟨_, h⟩ := w_chkE h
      have I := ih _ S1 (v1 + 1) t h (by omega)
      refine ⟨I.1, I.2.1, I.2.2.1, I.2.2.2.1, fun r k a => I.2.2.2.2.1 r k a, fun r k a => ?_, fun k a => ?_, fun k a d => ?_⟩
      · rw [I.2.2.2.2.2.1 r k a, gl_slN, if_neg (fun q => a q.1)]
      · rw [I.2.2.2.2.2.2.1 k (by omega), gl_slN, if_neg (fun q => by omega)]
      · by_cases e : (k : Int) = v1
        · rw [I.2.2.2.2.2.2.1 k (by omega), gl_slN, if_pos ⟨rfl, by omega⟩, show v1.toNat = k by omega]
        · rw [I.2.2.2.2.2.2.2 k (by omega) d, gl_slN, if_neg (fun q => absurd q.1 (by decide))]
/-- alike after both tapes are emptied, with new sizes -/
theorem RBX_sizes {S T S1 T1 : SS} (h : RBX S T) (z1 : gi S1 1 1 = 0) (z2 : gi T1 192 8 = 0) (e4 : gi S1 4 1 = gi T1 192 3) (e6 : gi S1 6 1 = gi T1 192 4) (hs : ∀ r k, PCB r k → r ≠ 1 → r ≠ 2 → r ≠ 4 → r ≠ 6 → gi S1 r k = gi S r k) (ht : ∀ r k, PRB r k → r ≠ 197 → r ≠ 192 → gi T1 r k = gi T r k) : RBX S1 T1 := by
  obtain ⟨_, b, c, d, e, f, g⟩ := h
  exact ⟨⟨by rw [z1, z2], fun k hk => by omega⟩, e4, e6, fun k => by rw [hs 12 k (by omega) (by omega) (by omega) (by omega) (by omega), ht 209 k (by omega) (by omega) (by omega)]; exact d k, fun k => by rw [hs 191 k (by omega) (by omega) (by omega) (by omega) (by omega), ht 210 k (by omega) (by omega) (by omega)]; exact e k, by rw [hs 183 5 (by omega) (by omega) (by omega) (by omega) (by omega), ht 211 0 (by omega) (by omega) (by omega)]; exact f, by rw [hs 183 6 (by omega) (by omega) (by omega) (by omega) (by omega), ht 211 1 (by omega) (by omega) (by omega)]; exact g⟩
abbrev XSR (r k : Nat) : Prop := r = 3 ∨ r = 175
theorem RBX_first {S T S1 T1 : SS} {r t : Int} (hC : CX 0 S) (h : RBX S T) (h1 : f_MP_first S = some (r, S1)) (h2 : f_M_first T = some (t, T1)) : RBX S1 T1 ∧ r = t := by
  unfold f_MP_first at h1
  unfold f_M_first at h2
  unfold w_lt at h1 h2
  obtain ⟨r2, S2, e2, h1⟩ := w_b2E h1
  have f2 := fx_SheetReader_readProof (X := XSR) (S0 := S) (x_3_0 := .inl rfl) (x_3_1 := .inl rfl) (x_175_1 := .inr rfl) S 60 (FX_refl _ S) _ e2
  have g11 : ∀ r k, ¬ (r = 1 ∧ k = 1) → gi (si S2 1 1 0) r k = gi S2 r k := fun r k a => gi_off a
  rcases w_b3E h2 with ⟨n, T2, e3, h2⟩ | ⟨T2, e3, h2⟩
  · have q := sim_readProof 60 (by decide) S T h.1 (cx_1_1 hC) r2 S2 (some n) T2 e2 e3
    have m2 := m_rp_is e3
    rcases q.2 with ⟨qr, qo, q0, q1, _⟩ | ⟨_, qo⟩
    · cases qo
      dsimp only at h1
      rw [if_neg (show ¬ r2 = 0 by omega)] at h1
      obtain ⟨S5, e5, h1⟩ := w_b1E h1
      obtain ⟨S9, e9, h1⟩ := w_b1E h1
      cases h1
      have k1 : gi (si S2 1 1 0) 175 1 = gi S2 175 1 := gi_off (by omega)
      have c4 : cap 4 = 60 := by decide
      have c175 : cap 175 = 150 := by decide
      have cp := sh_copy (by decide) (by decide) (by decide) e5 (by omega) (by omega) (by omega)
      have st := fs_settle (X := XT) (fun _ _ q => q) (f_Pile_clear S5) (f_Pile_clear S5) (fr_refl _ _) _ e9
      have pcl : ∀ r k, r ≠ 10 → gi (f_Pile_clear S5) r k = gi S5 r k := by
        intro r k a
        show gi (si (si (si S5 10 3 0) 10 4 0) 10 5 0) r k = _
        rw [gi_off (by omega), gi_off (by omega), gi_off (by omega)]
      have all : ∀ r k, ¬ XT r k → r ≠ 10 → ¬ (r = 4 ∧ k = 1) → ¬ (r = 1 ∧ k = 1) → ¬ XSR r k → gi S1 r k = gi S r k := by
        intro r k a1 a2 a3 a4 a5
        rw [st r k a1, pcl r k a2, cp.2.1 r k a3, g11 r k a4]; exact f2.1 r k a5
      have e4 : gi S1 4 1 = gi S2 175 1 := by
        rw [st 4 1 (by omega), pcl 4 1 (by omega), cp.1]; exact k1
      have F := m_first_is FU T2 T1 (gi S2 175 1) 0 t h2 (Int.le_refl _)
      refine ⟨RBX_sizes h ?_ ?_ (e4.trans F.2.1.symm) ?_ (fun r k p a1 a2 a3 a4 => all r k (by omega) (by omega) (by omega) (by omega) (by omega)) (fun r k p a1 a2 => ?_), e4.trans F.1.symm⟩
      · rw [st 1 1 (by omega), pcl 1 1 (by omega), cp.2.1 1 1 (by omega), gi_at]
      · rw [F.2.2.1 192 8 (by omega)]; exact m2.1
      · rw [all 6 1 (by omega) (by omega) (by omega) (by omega) (by omega), F.2.2.1 192 4 (by omega), m2.2 192 4 (by omega) (by omega)]
        exact h.2.2.1
      · rw [F.2.2.1 r k (by omega), m2.2 r k (by omega) (by omega)]
    · cases qo
  · have q := sim_readProof 60 (by decide) S T h.1 (cx_1_1 hC) r2 S2 none T2 e2 e3
    have m2 := m_rp_is e3
    rcases q.2 with ⟨_, qo, _⟩ | ⟨qr, _⟩
    · cases qo
    · dsimp only at h1
      rw [if_pos qr] at h1
      cases h1
      cases h2
      refine ⟨RBX_sizes h (gi_at _ _ _ _) m2.1 ?_ ?_ (fun r k p a1 a2 a3 a4 => by rw [g11 r k (by omega)]; exact f2.1 r k (by omega)) (fun r k p a1 a2 => m2.2 r k (by omega) (by omega)), rfl⟩
      · rw [g11 4 1 (by omega), f2.1 4 1 (by omega), m2.2 192 3 (by omega) (by omega)]; exact h.2.1
      · rw [g11 6 1 (by omega), f2.1 6 1 (by omega), m2.2 192 4 (by omega) (by omega)]; exact h.2.2.1
theorem RBX_second {S T S1 T1 : SS} {r t : Int} (hC : CX 0 S) (h : RBX S T) (h1 : f_MP_second S = some (r, S1)) (h2 : f_M_second T = some (t, T1)) : RBX S1 T1 ∧ r = t := by
  unfold f_MP_second at h1
  unfold f_M_second at h2
  unfold w_lt at h1 h2
  obtain ⟨r2, S2, e2, h1⟩ := w_b2E h1
  have f2 := fx_SheetReader_readProof (X := XSR) (S0 := S) (x_3_0 := .inl rfl) (x_3_1 := .inl rfl) (x_175_1 := .inr rfl) S 150 (FX_refl _ S) _ e2
  have g11 : ∀ r k, ¬ (r = 1 ∧ k = 1) → gi (si S2 1 1 0) r k = gi S2 r k := fun r k a => gi_off a
  rcases w_b3E h2 with ⟨n, T2, e3, h2⟩ | ⟨T2, e3, h2⟩
  · have q := sim_readProof 150 (by decide) S T h.1 (cx_1_1 hC) r2 S2 (some n) T2 e2 e3
    have m2 := m_rp_is e3
    rcases q.2 with ⟨qr, qo, q0, q1, _⟩ | ⟨_, qo⟩
    · cases qo
      dsimp only at h1
      rw [if_neg (show ¬ r2 = 0 by omega)] at h1
      obtain ⟨S5, e5, h1⟩ := w_b1E h1
      cases h1
      have k1 : gi (si S2 1 1 0) 175 1 = gi S2 175 1 := gi_off (by omega)
      have c6 : cap 6 = 150 := by decide
      have c175 : cap 175 = 150 := by decide
      have cp := sh_copy (by decide) (by decide) (by decide) e5 (by omega) (by omega) (by omega)
      have F := m_second_is FU T2 T1 (gi S2 175 1) 0 t h2 (Int.le_refl _)
      have e6 : gi S1 6 1 = gi S2 175 1 := cp.1.trans k1
      have all : ∀ r k, ¬ (r = 6 ∧ k = 1) → ¬ (r = 1 ∧ k = 1) → ¬ XSR r k → gi S1 r k = gi S r k := by
        intro r k a3 a4 a5
        rw [cp.2.1 r k a3, g11 r k a4]; exact f2.1 r k a5
      refine ⟨RBX_sizes h ?_ ?_ ?_ (e6.trans F.2.1.symm) (fun r k p a1 a2 a3 a4 => all r k (by omega) (by omega) (by omega)) (fun r k p a1 a2 => ?_), e6.trans F.1.symm⟩
      · rw [cp.2.1 1 1 (by omega), gi_at]
      · rw [F.2.2.1 192 8 (by omega)]; exact m2.1
      · rw [all 4 1 (by omega) (by omega) (by omega), F.2.2.1 192 3 (by omega), m2.2 192 3 (by omega) (by omega)]
        exact h.2.1
      · rw [F.2.2.1 r k (by omega), m2.2 r k (by omega) (by omega)]
    · cases qo
  · have q := sim_readProof 150 (by decide) S T h.1 (cx_1_1 hC) r2 S2 none T2 e2 e3
    have m2 := m_rp_is e3
    rcases q.2 with ⟨_, qo, _⟩ | ⟨qr, _⟩
    · cases qo
    · dsimp only at h1
      rw [if_pos qr] at h1
      cases h1
      cases h2
      refine ⟨RBX_sizes h (gi_at _ _ _ _) m2.1 ?_ ?_ (fun r k p a1 a2 a3 a4 => by rw [g11 r k (by omega)]; exact f2.1 r k (by omega)) (fun r k p a1 a2 => m2.2 r k (by omega) (by omega)), rfl⟩
      · rw [g11 4 1 (by omega), f2.1 4 1 (by omega), m2.2 192 3 (by omega) (by omega)]; exact h.2.1
      · rw [g11 6 1 (by omega), f2.1 6 1 (by omega), m2.2 192 4 (by omega) (by omega)]; exact h.2.2.1
theorem RBX_next {S T S1 T1 : SS} {r t : Int} (hC : CX 0 S) (h : RBX S T) (h1 : f_MP_next S = some (r, S1)) (h2 : f_M_next T = some (t, T1)) : RBX S1 T1 ∧ r = t := by
  have b6 := cx_sh hC (show shOk 6 by decide)
  have i := in01 T (gi T 192 4) 1 60
  unfold f_MP_next at h1
  unfold f_M_next at h2
  rw [← h.2.2.1] at h2 i
  by_cases c : 1 ≤ gi S 6 1 ∧ gi S 6 1 ≤ 60
  · rw [if_neg (by omega), if_pos (by omega)] at h1
    rw [if_neg (by omega)] at h2
    obtain ⟨S3, e3, h1⟩ := w_b1E h1
    unfold w_lt at h1
    obtain ⟨S9, e9, h1⟩ := w_b1E h1
    cases h1
    have c4 : cap 4 = 60 := by decide
    have c6 : cap 6 = 150 := by decide
    have cp := sh_copy (by decide) (by decide) (by decide) e3 (by omega) (by omega) (by omega)
    have st := fs_settle (X := XT) (fun _ _ q => q) _ _ (fr_refl _ _) _ e9
    have pcl : ∀ r k, r ≠ 10 → ¬ (r = 6 ∧ k = 1) → gi (f_Pile_clear (f_Sheet_clear S3 6)) r k = gi S3 r k := by
      intro r k a a2
      show gi (si (si (si (si S3 6 1 0) 10 3 0) 10 4 0) 10 5 0) r k = _
      rw [gi_off (by omega), gi_off (by omega), gi_off (by omega), gi_off (by omega)]
    have z6 : gi (f_Pile_clear (f_Sheet_clear S3 6)) 6 1 = 0 := by
      show gi (si (si (si (si S3 6 1 0) 10 3 0) 10 4 0) 10 5 0) 6 1 = _
      rw [gi_off (by omega), gi_off (by omega), gi_off (by omega), gi_at]
    have all : ∀ r k, ¬ XT r k → r ≠ 10 → ¬ (r = 4 ∧ k = 1) → ¬ (r = 6 ∧ k = 1) → gi S1 r k = gi S r k := by
      intro r k a1 a2 a3 a4
      rw [st r k a1, pcl r k a2 a4, cp.2.1 r k a3]
    have e4 : gi S1 4 1 = gi S 6 1 := by rw [st 4 1 (by omega), pcl 4 1 (by omega) (by omega), cp.1]
    have N := m_next_is FU T T1 0 t h2 (Int.le_refl _)
    obtain ⟨a, b, c', d, e, f, g⟩ := h
    have n8 : gi T1 192 8 = gi T 192 8 := N.2.2.2.2.1 192 8 (by omega)
    refine ⟨⟨⟨by rw [all 1 1 (by omega) (by omega) (by omega) (by omega), n8]; exact a.1, fun k hk => ?_⟩, by rw [e4, N.2.1]; exact c', by rw [st 6 1 (by omega), z6, N.2.2.1], fun k => by rw [all 12 k (by omega) (by omega) (by omega) (by omega), N.2.2.2.2.1 209 k (by omega)]; exact d k, fun k => by rw [all 191 k (by omega) (by omega) (by omega) (by omega), N.2.2.2.2.1 210 k (by omega)]; exact e k, by rw [all 183 5 (by omega) (by omega) (by omega) (by omega), N.2.2.2.2.1 211 0 (by omega)]; exact f, by rw [all 183 6 (by omega) (by omega) (by omega) (by omega), N.2.2.2.2.1 211 1 (by omega)]; exact g⟩, by rw [e4, N.1]; exact c'⟩
    rw [all 1 1 (by omega) (by omega) (by omega) (by omega)] at hk
    rw [all 2 k (by omega) (by omega) (by omega) (by omega), N.2.2.2.2.1 197 k (by omega)]
    exact a.2 k hk
  · rw [if_pos (by omega)] at h2
    cases h2
    by_cases d : gi S 6 1 = 0
    · rw [if_pos d] at h1; cases h1; exact ⟨h, rfl⟩
    · rw [if_neg d, if_neg (by omega)] at h1; cases h1; exact ⟨h, rfl⟩
