theorem FX_in {X : Nat → Nat → Prop} {S0 S : SS} (h : FX X S0 S) : gq S0 178 4 = gq S 178 4 := h.2.symm
theorem fxl_setGap {X : Nat → Nat → Prop} {S0 : SS} (x_180 : ∀ k, X 180 k) (x_into : ∀ q, gq S0 178 4 = some q → X q 1) (rk : SS → Int → Int → Int → Option SS) (hrk : ∀ S a b c, FX X S0 S → pc (rk S a b c) (FX X S0)) (v1 v2 : Int) : ∀ (n : Nat) (S : SS) (v3_ : Int), FX X S0 S → pc (f_Setter_setGap_2 rk v1 v2 n S v3_) (FX X S0) := by
  intro n
  induction n with
  | zero => intro S v3_ h r e; exact absurd e (by simp [f_Setter_setGap_2])
  | succ n ih =>
    intro S v3_ h
    show pc (f_Setter_setGap_2_b rk v1 v2 (f_Setter_setGap_2 rk v1 v2 n) S v3_) _
    unfold f_Setter_setGap_2_b
    repeat' first | with_reducible exact ih _ _ (by assumption) | unfold f_Setter_setGap_95 | with_reducible exact pc_some (by assumption) | with_reducible exact pc_none | with_reducible refine pc_chk (fun _ => ?_) | with_reducible refine pc_if (fun _ => ?_) (fun _ => ?_) | with_reducible refine pc_on ?_ (fun _ _ => ?_) | with_reducible refine pc_b1 (fx_Setter_mind (x_180 := x_180) _ _ _ (by assumption)) (fun _ _ => ?_) | with_reducible refine pc_b1 (hrk _ _ _ _ (by assumption)) (fun _ _ => ?_) | with_reducible refine pc_b1 (fx_Sheet_addAll (x_q0 := x_into _ ((FX_in (by assumption)).trans (by assumption))) _ _ (by assumption)) (fun _ _ => ?_) | with_reducible refine pf_b1 (fun _ => ?_)
theorem fx_setPiece {X : Nat → Nat → Prop} {S0 : SS} (x_180 : ∀ k, X 180 k) (x_into : ∀ q, gq S0 178 4 = some q → X q 1) (rk : SS → Int → Int → Int → Option SS) (hrk : ∀ S a b c, FX X S0 S → pc (rk S a b c) (FX X S0)) (v1 v2 : Int) (S : SS) (h : FX X S0 S) : pc (f_Setter_setPiece rk S v1 v2) (fun u => FX X S0 u.2) := by
  unfold f_Setter_setPiece
  repeat' first | unfold f_Setter_setPiece_58 | with_reducible exact pc_some (by assumption) | with_reducible exact pc_none | with_reducible refine pc_chk (fun _ => ?_) | with_reducible refine pc_if (fun _ => ?_) (fun _ => ?_) | with_reducible refine pc_on ?_ (fun _ _ => ?_) | with_reducible refine pc_b1 (fx_Setter_mind (x_180 := x_180) _ _ _ (by assumption)) (fun _ _ => ?_) | with_reducible refine pc_b1 (hrk _ _ _ _ (by assumption)) (fun _ _ => ?_) | with_reducible refine pc_b1 (fx_Sheet_addAll (x_q0 := x_into _ ((FX_in (by assumption)).trans (by assumption))) _ _ (by assumption)) (fun _ _ => ?_) | with_reducible refine pc_b1 (fx_Sheet_add (x_q0 := x_into _ ((FX_in (by assumption)).trans (by assumption))) _ _ (by assumption)) (fun _ _ => ?_) | with_reducible refine pf_b1 (fun _ => ?_)
theorem fxl_setRowB {X : Nat → Nat → Prop} {S0 : SS} (x_180 : ∀ k, X 180 k) (x_into : ∀ q, gq S0 178 4 = some q → X q 1) (rk : SS → Int → Int → Int → Option SS) (hrk : ∀ S a b c, FX X S0 S → pc (rk S a b c) (FX X S0)) (v1 v2 v3 : Int) : ∀ (n : Nat) (S : SS) (v4_ v5_ : Int), FX X S0 S → pc (f_Setter_setRowB_13 rk v1 v2 v3 n S v4_ v5_) (FX X S0) := by
  intro n
  induction n with
  | zero => intro S v4_ v5_ h r e; exact absurd e (by simp [f_Setter_setRowB_13])
  | succ n ih =>
    intro S v4_ v5_ h
    show pc (f_Setter_setRowB_13_b rk v1 v2 v3 (f_Setter_setRowB_13 rk v1 v2 v3 n) S v4_ v5_) _
    unfold f_Setter_setRowB_13_b f_Setter_setGap
    repeat' first | with_reducible exact ih _ _ _ (by assumption) | unfold f_Setter_setRowB_42 | unfold f_Setter_setRowB_51 | with_reducible exact pc_some (by assumption) | with_reducible refine pc_chk (fun _ => ?_) | with_reducible refine pc_if (fun _ => ?_) (fun _ => ?_) | with_reducible refine pc_b1 (fxl_setGap x_180 x_into rk hrk _ _ FU _ _ (by assumption)) (fun _ _ => ?_) | with_reducible refine pc_b2 (fx_setPiece x_180 x_into rk hrk _ _ _ (by assumption)) (fun _ _ _ => ?_)
theorem fxl_setRow {X : Nat → Nat → Prop} {S0 : SS} (x_180 : ∀ k, X 180 k) (x_into : ∀ q, gq S0 178 4 = some q → X q 1) : ∀ (n : Nat) (S : SS) (a b c : Int), FX X S0 S → pc (f_Setter_setRow n S a b c) (FX X S0) := by
  intro n
  induction n with
  | zero => intro S a b c h r e; exact absurd e (by simp [f_Setter_setRow])
  | succ n ih =>
    intro S a b c h
    show pc (f_Setter_setRowB (f_Setter_setRow n) S a b c) _
    unfold f_Setter_setRowB
    exact pc_if (fun _ => fxl_setRowB x_180 x_into _ ih _ _ _ FU S _ _ h) (fun _ => pc_some h)
theorem fr_FX {X : Nat → Nat → Prop} {S0 S S1 : SS} (h : fr X S0 S) (h1 : FX X S S1) : fr X S0 S1 := fr_trans h h1.1
theorem fs_make {X : Nat → Nat → Prop} {S0 : SS} (x_180 : ∀ k, X 180 k) {q2 : Nat} (x_q2 : X q2 1) (S : SS) (q1 : Nat) (h : fr X S0 S) : pc (f_Setter_make S q1 q2) (fr X S0) := by
  unfold f_Setter_make f_Setter_make_44 f_Setter_setGap
  refine pc_lt (fun S1 e1 => pc_lt (fun S2 e2 => ?_))
  have g2 : gq S2 178 4 = some q2 := by rw [e2, gq_at]
  have f2 : fr X S0 S2 := by rw [e2, e1]; exact h
  rw [g2]
  have into : ∀ q, gq S2 178 4 = some q → X q 1 := by
    intro q e; rw [g2] at e; cases e; exact x_q2
  show pc (w_chk (shOk q2) _) _
  refine pc_chk (fun _ => xf_let (S0 := S2) (X := X) (fx_Sheet_clear x_q2 S2 (FX_refl X S2)) (fun S4 h4 => pc_on pc_none (fun q6 _ => pc_chk (fun _ => ?_))))
  have hr := fxl_setRow (S0 := S2) x_180 into 43
  have hg := fun v1 v2 => fxl_setGap (S0 := S2) x_180 into (f_Setter_setRow 43) hr v1 v2 FU
  refine pc_if (fun _ => pc_b1 (hg _ _ _ _ h4) (fun S5 h5 => pc_some (fr_FX f2 h5))) (fun _ => pc_b1 (hg _ _ _ _ h4) (fun S8 h8 => pc_chk (fun _ => pc_b1 (hr _ _ _ _ h8) (fun S11 h11 => pc_b1 (hg _ _ _ _ h11) (fun S12 h12 => pc_some (fr_FX f2 h12))))))
/-- what settling changes -/
abbrev XT (r k : Nat) : Prop := (r = 10 ∧ k = 5) ∨ r = 13 ∨ (14 ≤ r ∧ r < 174 ∧ r % 4 = 2 ∧ (k = 11 ∨ k = 12)) ∨ (r = 178 ∧ k = 2) ∨ r = 180 ∨ (r = 8 ∧ k = 1)
theorem fs_settle {X : Nat → Nat → Prop} (hX : ∀ r k, XT r k → X r k) (S0 S : SS) (h : fr X S0 S) : pc (f_MP_settle S) (fr X S0) := by
  unfold f_MP_settle
  refine pc_b1 (fx_Pile_decide (X := X) (S0 := S) (x_m_11 := fun j hj => hX _ _ (by omega)) (x_m_12 := fun j hj => hX _ _ (by omega)) (x_13 := fun k => hX _ _ (by omega)) (x_10_5 := hX _ _ (by omega)) S (FX_refl X S)) (fun S1 h1 => ?_)
  refine pc_b1 (fx_Setter_takeDone (X := X) (S0 := S1) (x_180 := fun k => hX _ _ (by omega)) (x_178_2 := hX _ _ (by omega)) S1 _ (FX_refl X S1)) (fun S3 h3 => ?_)
  exact pc_b1 (fs_make (fun k => hX _ _ (by omega)) (hX _ _ (by omega)) S3 4 (fr_FX (fr_FX h h1) h3)) (fun S5 h5 => pc_some h5)
/-- what holding changes -/
abbrev XW (r k : Nat) : Prop := (r = 178 ∧ k = 2) ∨ r = 180 ∨ r = 182 ∨ (r = 183 ∧ 7 ≤ k) ∨ (184 ≤ r ∧ r ≤ 189)
theorem fs_weigh (S0 : SS) : ∀ (n : Nat) (S : SS) (v6 v7 v8 v9 : Int), fr XW S0 S → pc (f_Holding_weigh_23 4 6 n S v6 v7 v8 v9) (fun u => fr XW S0 u.2) := by
  intro n
  induction n with
  | zero => intro S v6 v7 v8 v9 h r e; exact absurd e (by simp [f_Holding_weigh_23])
  | succ n ih =>
    intro S v6 v7 v8 v9 h
    have td : ∀ S' v, fr XW S0 S' → pc (f_Setter_takeDone S' v) (fr XW S0) := fun S' v h' => pc_mono (fx_Setter_takeDone (X := XW) (S0 := S') (x_180 := fun k => by omega) (x_178_2 := by omega) S' v (FX_refl XW S')) (fun _ h1 => fr_FX h' h1)
    have mk : ∀ S', fr XW S0 S' → pc (f_Setter_make S' 4 184) (fr XW S0) := fun S' h' => fs_make (fun k => by omega) (by omega) S' 4 h'
    have ms : ∀ S' a c d e f, fr XW S0 S' → pc (f_Ruler_measure S' a c d e f) (fun u => fr XW S0 u.2) := fun S' a c d e f h' => pc_mono (fx_Ruler_measure (X := XW) (S0 := S') (x_182 := fun k => by omega) S' a c d e f (FX_refl XW S')) (fun _ h1 => fr_FX h' h1)
    have lm : ∀ S', fr XW S0 S' → pc (f_Holding_listMissed S') (fr XW S0) := fun S' h' => pc_mono (fx_Holding_listMissed (X := XW) (S0 := S') (x_186 := fun k => by omega) (x_183_9 := by omega) S' (FX_refl XW S')) (fun _ h1 => fr_FX h' h1)
    have lc : ∀ S' q, fr XW S0 S' → pc (f_Holding_listChanges S' q) (fr XW S0) := fun S' q h' => pc_mono (fx_Holding_listChanges (X := XW) (S0 := S') (x_183_11 := by omega) (x_187 := fun k => by omega) (x_188 := fun k => by omega) (x_189 := fun k => by omega) (x_182 := fun k => by omega) S' q (FX_refl XW S')) (fun _ h1 => fr_FX h' h1)
    show pc (f_Holding_weigh_23_b 4 6 (f_Holding_weigh_23 4 6 n) S v6 v7 v8 v9) _
    unfold f_Holding_weigh_23_b
    repeat' first | with_reducible exact ih _ _ _ _ _ (by assumption) | unfold f_Holding_weigh_160 | unfold f_Holding_weigh_140 | with_reducible exact pc_some (by assumption) | with_reducible refine pc_chk (fun _ => ?_) | with_reducible refine pc_if (fun _ => ?_) (fun _ => ?_) | with_reducible refine pc_b1 (td _ _ (by assumption)) (fun _ _ => ?_) | with_reducible refine pc_b1 (mk _ (by assumption)) (fun _ _ => ?_) | with_reducible refine pc_b2 (ms _ _ _ _ _ _ (by assumption)) (fun _ _ _ => ?_) | with_reducible refine pc_b1 (lm _ (by assumption)) (fun _ _ => ?_) | with_reducible refine pc_b1 (lc _ _ (by assumption)) (fun _ _ => ?_) | with_reducible refine pf_lt (by assumption) (by omega) (fun _ _ => ?_) | with_reducible refine pf_b1 (fun _ => ?_)
theorem fs_hold (S : SS) : pc (f_MP_hold S) (fun u => fr XW S u.2) := by
  unfold f_MP_hold f_Holding_weigh
  exact pc_if (fun _ => pc_b2 (fs_weigh S FU S _ _ _ _ (fr_refl _ S)) (fun _ _ h => pc_some h)) (fun _ => pc_some (fr_refl _ S))
/-- what reading marks changes -/
abbrev XR (r k : Nat) : Prop := XT r k ∨ (r = 10 ∧ (k = 3 ∨ k = 4)) ∨ (14 ≤ r ∧ r < 174) ∨ r = 177 ∨ r = 3
theorem fs_marks (S : SS) : pc (f_MP_marks S) (fun u => fr (fun r k => XR r k ∨ (r = 1 ∧ k = 1)) S u.2 ∧ gi u.2 1 1 = 0) := by
  unfold f_MP_marks
  refine pc_b2 (fx_MarkReader_readMarks (X := XR) (S0 := S) (x_10_4 := by omega) (x_177_3 := by omega) (x_177_4 := by omega) (x_177_5 := by omega) (x_177_6 := by omega) (x_m_2 := fun j hj => by omega) (x_m_3 := fun j hj => by omega) (x_m_7 := fun j hj => by omega) (x_3_0 := by omega) (x_3_1 := by omega) (x_ms := fun j hj => by omega) (x_mn := fun j k hj => by omega) (x_m_6 := fun j hj => by omega) (x_m_5 := fun j hj => by omega) (x_m_4 := fun j hj => by omega) (x_m_8 := fun j hj => by omega) (x_m_9 := fun j hj => by omega) (x_m_10 := fun j hj => by omega) (x_m_11 := fun j hj => by omega) (x_m_12 := fun j hj => by omega) S _ (FX_refl XR S)) (fun r3 S2 h2 => pc_lt (fun S5 e5 => ?_))
  have f5 : fr (fun r k => XR r k ∨ (r = 1 ∧ k = 1)) S S5 := by rw [e5]; exact fr_si (fr_mono h2.1 (fun r k q => .inl q)) (.inr ⟨rfl, rfl⟩)
  have z5 : gi S5 1 1 = 0 := by rw [e5, gi_at]
  refine pc_if (fun _ => pc_some ⟨f5, z5⟩) (fun _ => pc_b2 (fx_Pile_accept (X := XR) (S0 := S5) (x_10_3 := by omega) (x_10_4 := by omega) (x_m_8 := fun j hj => by omega) (x_m_10 := fun j hj => by omega) S5 (FX_refl XR S5)) (fun r7 S6 h6 => pc_b1 (fs_settle (X := XR) (fun r k q => .inl q) S5 S6 h6.1) (fun S9 h9 => pc_some ⟨fr_trans f5 (fr_mono h9 (fun r k q => .inl q)), ?_⟩)))
  show gi S9 1 1 = 0
  rw [h9 1 1 (by omega)]; exact z5
theorem fs_answer (S : SS) (v1 v2 : Int) : pc (f_MP_answer S v1 v2) (fun u => fr XR S u.2) := by
  unfold f_MP_answer f_MP_answer_42
  have h0 := fr_refl XR S
  have st : ∀ S', fr XR S S' → pc (f_MP_settle S') (fr XR S) := fun S' h => fs_settle (fun r k q => .inl q) S S' h
  repeat' first | with_reducible exact pc_some (by assumption) | with_reducible refine pc_chk (fun _ => ?_) | with_reducible refine pc_if (fun _ => ?_) (fun _ => ?_) | with_reducible refine pc_on ?_ (fun _ _ => ?_) | with_reducible refine pc_b1 (st _ (by assumption)) (fun _ _ => ?_) | with_reducible refine pf_lt (by assumption) (by omega) (fun _ _ => ?_) | with_reducible refine pf_b1 (fun _ => ?_)
