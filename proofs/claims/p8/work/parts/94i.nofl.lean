/-- a line that comes through leaves the fault as it was -/
abbrev X3 (r _k : Nat) : Prop := r ≠ 3
def NC (S0 : SS) (u : Int × SS) : Prop := u.1 = 0 ∨ FX X3 S0 u.2
theorem nc_r {S0 S : SS} {a : Int} (h : FX X3 S0 S) : pc (some (a, S)) (NC S0) := pc_some (.inr h)
theorem nc_l {S0 S : SS} {a : Int} (h : a = 0) : pc (some (a, S)) (NC S0) := pc_some (.inl h)
theorem nc_ref (S : SS) (kd : Int) : pc (f_MarkReader_refuse S kd) (fun u => u.1 = 0) := fun u e => by
  obtain ⟨a, b⟩ := u
  exact (c_refuse e).1
theorem nc_tok (S0 S : SS) (h : FX X3 S0 S) : pc (f_MarkReader_readToken S) (FX X3 S0) := fx_MarkReader_readToken (X := X3) (S0 := S0) (by decide) (by decide) (by decide) S h
theorem nc_set (S0 S : SS) (m : Nat) (i v : Int) (h : FX X3 S0 S) : pc (f_Mark_setNumber S m i v) (FX X3 S0) := fj_Mark_setNumber (X := X3) (S0 := S0) (jp := m) (fun k => by omega) S i v h
theorem nc_nums (S0 : SS) (m : Nat) : ∀ (n : Nat) (S : SS) (told i : Int), FX X3 S0 S → pc (f_MarkReader_readNumbers_33 m n S told i) (NC S0) := by
  intro n
  induction n with
  | zero => intro S told i _ r e; exact absurd e (by simp [f_MarkReader_readNumbers_33])
  | succ n ih =>
    intro S told i h
    show pc (f_MarkReader_readNumbers_33_b m (f_MarkReader_readNumbers_33 m n) S told i) _
    unfold f_MarkReader_readNumbers_33_b f_MarkReader_readNumbers_63
    repeat' first | with_reducible exact ih _ _ _ (by assumption) | with_reducible exact nc_r (by assumption) | with_reducible exact nc_l (by assumption) | with_reducible refine pc_chk (fun _ => ?_) | with_reducible refine pc_if (fun _ => ?_) (fun _ => ?_) | with_reducible refine pc_b2 (nc_ref _ _) (fun _ _ _ => ?_) | with_reducible refine pc_b1 (nc_tok S0 _ (by assumption)) (fun _ _ => ?_) | with_reducible refine pc_b1 (nc_set S0 _ _ _ _ (by assumption)) (fun _ _ => ?_) | with_reducible refine pf_b1 (fun _ => ?_)
theorem nc_word (S0 : SS) (m : Nat) : ∀ (n : Nat) (S : SS) (w : Int64) (g i : Int), FX X3 S0 S → pc (f_MarkReader_readWord_11 m n S w g i) (NC S0) := by
  intro n
  induction n with
  | zero => intro S w g i _ r e; exact absurd e (by simp [f_MarkReader_readWord_11])
  | succ n ih =>
    intro S w g i h
    show pc (f_MarkReader_readWord_11_b m (f_MarkReader_readWord_11 m n) S w g i) _
    have E : ∀ (w : Int64) (g : Int), pc (f_MarkReader_readWord_95 m S w g) (NC S0) := by
      intro w g
      unfold f_MarkReader_readWord_95 f_MarkReader_readWord_114
      repeat' first | with_reducible exact nc_r (by assumption) | with_reducible exact nc_l (by assumption) | with_reducible refine pc_chk (fun _ => ?_) | with_reducible refine pc_if (fun _ => ?_) (fun _ => ?_) | with_reducible refine pc_b2 (nc_ref _ _) (fun _ _ _ => ?_) | with_reducible refine pc_b1 (fx_Sheet_add (X := X3) (S0 := S0) (by omega) _ _ (by assumption)) (fun _ _ => ?_) | with_reducible refine pf_b1 (fun _ => ?_)
    have G : ∀ (w : Int64) (i c g : Int), pc (f_MarkReader_readWord_70 m (f_MarkReader_readWord_11 m n) S w i c g) (NC S0) := by
      intro w i c g
      unfold f_MarkReader_readWord_70
      exact pc_chk (fun _ => xf_lt h (by decide) (fun _ h' => pc_chk (fun _ => ih _ _ _ _ h')))
    unfold f_MarkReader_readWord_11_b f_MarkReader_readWord_69
    repeat' first | with_reducible exact E _ _ | with_reducible exact G _ _ _ _ | with_reducible refine pc_chk (fun _ => ?_) | with_reducible refine pc_if (fun _ => ?_) (fun _ => ?_) | with_reducible refine pf_b1 (fun _ => ?_)
theorem nc_words (S0 : SS) (m : Nat) : ∀ (n : Nat) (S : SS) (v : Int), FX X3 S0 S → pc (f_MarkReader_readWords_2 m n S v) (NC S0) := by
  intro n
  induction n with
  | zero => intro S v _ r e; exact absurd e (by simp [f_MarkReader_readWords_2])
  | succ n ih =>
    intro S v h
    show pc (f_MarkReader_readWords_2_b m (f_MarkReader_readWords_2 m n) S v) _
    have E : ∀ S', pc (f_MarkReader_readWords_47 m S') (NC S0) := by
      intro S'
      unfold f_MarkReader_readWords_47
      exact pc_b2 (nc_ref _ _) (fun _ _ q => pc_chk (fun _ => pc_some (.inl q)))
    have G : ∀ (S' : SS) (v w : Int), FX X3 S0 S' → pc (f_MarkReader_readWords_53 m (f_MarkReader_readWords_2 m n) S' v w) (NC S0) := by
      intro S' v w h'
      unfold f_MarkReader_readWords_53 f_MarkReader_readWord
      refine pc_if (fun _ => pc_chk (fun _ => xf_lt h' (by decide) (fun _ h2 => pc_some (.inr h2)))) (fun _ => pc_b2 (nc_word S0 m FU S' 0 1 _ h') (fun a t q => pc_if (fun _ => pc_some (.inl rfl)) (fun c => pc_chk (fun _ => ih _ _ ?_))))
      rcases q with q | q
      · exact absurd q c
      · exact q
    unfold f_MarkReader_readWords_2_b
    refine pc_if (fun _ => pc_some (.inl rfl)) (fun _ => pc_b1 (fx_MarkReader_skipBlanks (X := X3) (S0 := S0) (by decide) S h) (fun S1 h1 => xf_lt h1 (by decide) (fun S4 h4 => pc_chk (fun _ => pf_b1 (fun b => pc_if (fun _ => E _) (fun _ => pc_if (fun _ => pc_if (fun _ => E _) (fun _ => G _ _ _ h4)) (fun _ => G _ _ _ h4)))))))
theorem nc_line (S : SS) : pc (f_MarkReader_readLine S) (NC S) := by
  have h := FX_refl X3 S
  have R : ∀ (S' : SS) (kd : Int), pc (w_b2 (f_MarkReader_refuse S' kd) (fun r2_z S1_z => w_chk (r2_z = 0 ∨ r2_z = 1) (some (r2_z, S1_z)))) (NC S) := fun S' kd => pc_b2 (nc_ref _ _) (fun _ _ q => pc_chk (fun _ => pc_some (.inl q)))
  have W : ∀ (S' : SS) (m : Nat), FX X3 S S' → pc (f_MarkReader_readLine_132 S' m) (NC S) := by
    intro S' m h'
    unfold f_MarkReader_readLine_132 f_MarkReader_readWords
    exact pf_b1 (fun _ => pc_if (fun _ => R _ _) (fun _ => pc_b2 (nc_words S m FU S' 0 h') (fun _ _ q => pc_chk (fun _ => pc_some q))))
  have N : ∀ (S' : SS) (m : Nat), FX X3 S S' → pc (f_MarkReader_readLine_98 S' m) (NC S) := by
    intro S' m h'
    have n0 : pc (f_MarkReader_readNumbers S' m) (NC S) := by
      unfold f_MarkReader_readNumbers f_MarkReader_readNumbers_18 f_MarkReader_readNumbers_30
      exact pc_if (fun _ => nc_nums S m FU S' _ _ h') (fun _ => pc_if (fun _ => pc_chk (fun _ => nc_nums S m FU S' _ _ h')) (fun _ => nc_nums S m FU S' _ _ h'))
    unfold f_MarkReader_readLine_98
    refine pc_b2 n0 (fun a t q => pc_if (fun _ => pc_some (.inl rfl)) (fun c => ?_))
    have ht : FX X3 S t := by
      rcases q with q | q
      · exact absurd q c
      · exact q
    refine pc_b1 (fj_Mark_place (X := X3) (S0 := S) (jp := m) (by omega) (by omega) (by omega) t ht) (fun S4 h4 => pc_b1 (nc_tok S S4 h4) (fun S6 h6 => pc_if (fun _ => W S6 m h6) (fun _ => pc_if (fun _ => W S6 m h6) (fun _ => pf_b1 (fun x => pc_if (fun _ => pc_b2 (nc_ref _ _) (fun b u q => pc_if (fun _ => pc_some (.inl rfl)) (fun c => absurd q c))) (fun _ => pc_some (.inr h6)))))))
  have K : ∀ (S' : SS) (m : Nat), FX X3 S S' → pc (f_MarkReader_readLine_61 S' m) (NC S) := by
    intro S' m h'
    unfold f_MarkReader_readLine_61 f_MarkReader_readLine_92
    exact pf_b1 (fun _ => xf_lt h' (by omega) (fun S3 h3 => pc_if (fun _ => R _ _) (fun _ => pc_if (fun _ => N S3 m h3) (fun _ => pc_if (fun _ => R _ _) (fun _ => N S3 m h3)))))
  have B : pc (f_Pile_blank S) (fun u => FX X3 S u.2) := by
    unfold f_Pile_blank
    exact pc_chk (fun _ => pf_b1 (fun o => pc_on (pc_some h) (fun j _ => pc_chk (fun _ => pc_b1 (fj_Mark_clear (X := X3) (S0 := S) (jp := j) (by omega) (by omega) (by omega) (by omega) (by omega) (by omega) (by omega) (by omega) (fun k => by omega) (by omega) S h) (fun S7 h7 => pc_some h7)))))
  unfold f_MarkReader_readLine
  exact pf_b1 (fun _ => pc_if (fun _ => R _ _) (fun _ => pc_chk (fun _ => pc_b2 B (fun o S3 h3 => pc_on (R _ _) (fun j _ => pc_chk (fun _ => xf_lt h3 (by omega) (fun S11 h11 => pc_b1 (nc_tok S S11 h11) (fun S12 h12 => pf_b1 (fun _ => pc_if (fun _ => K S12 j h12) (fun _ => xf_lt h12 (by omega) (fun S16 h16 => pc_b1 (nc_tok S S16 h16) (fun S17 h17 => K S17 j h17))))))))))))
theorem fl_line {S S' : SS} {r : Int} (h : f_MarkReader_readLine S = some (r, S')) (hr : r ≠ 0) (k : Nat) : gi S' 3 k = gi S 3 k := by
  rcases nc_line S _ h with q | q
  · exact absurd q hr
  · exact q.1 3 k (fun w => w rfl)
/-- the same of the reference -/
abbrev X14 (r k : Nat) : Prop := ¬ (r = 192 ∧ (k = 14 ∨ k = 15))
def NN {α : Type} (S0 : SS) (u : Option α × SS) : Prop := u.1 = none ∨ fr X14 S0 u.2
theorem nn_b3 {α β : Type} {P : β → Prop} {S0 : SS} {x : Option (Option α × SS)} {t : SS → Option β} {k : α → SS → Option β} (h : pc x (NN S0)) (ht : ∀ s, pc (t s) P) (hk : ∀ a s, fr X14 S0 s → pc (k a s) P) : pc (w_b3 x t k) P := pc_b3 h (fun s _ => ht s) (fun a s q => hk a s (q.elim (fun e => nomatch e) id))
theorem n4_81 (S0 : SS) : ∀ (n : Nat) (S : SS), fr X14 S0 S → pc (f_M_scan_81 n S) (fr X14 S0) := by
  intro n
  induction n with
  | zero => intro S _ r e; exact absurd e (by simp [f_M_scan_81])
  | succ n ih =>
    intro S h
    show pc (f_M_scan_81_b (f_M_scan_81 n) S) _
    unfold f_M_scan_81_b
    exact pf_b1 (fun _ => pc_if (fun _ => pf_lt h (by omega) (fun S5 h5 => pc_some h5)) (fun _ => pc_chk (fun _ => pf_lt h (by omega) (fun S8 h8 => ih S8 h8))))
theorem n4_128 (S0 : SS) : ∀ (n : Nat) (S : SS), fr X14 S0 S → pc (f_M_scan_128 n S) (fr X14 S0) := by
  intro n
  induction n with
  | zero => intro S _ r e; exact absurd e (by simp [f_M_scan_128])
  | succ n ih =>
    intro S h
    show pc (f_M_scan_128_b (f_M_scan_128 n) S) _
    unfold f_M_scan_128_b f_M_scan_178 f_M_scan_210
    repeat' first | with_reducible exact ih _ (by assumption) | with_reducible exact pc_some (by assumption) | with_reducible refine pc_chk (fun _ => ?_) | with_reducible refine pc_if (fun _ => ?_) (fun _ => ?_) | with_reducible refine pf_lt (by assumption) (by omega) (fun _ _ => ?_) | with_reducible refine pf_b1 (fun _ => ?_)
theorem n4_38 (S0 S : SS) (h : fr X14 S0 S) : pc (f_M_scan_38 S) (fr X14 S0) := by
  unfold f_M_scan_38 f_M_scan_235 f_M_scan_240
  repeat' first | with_reducible exact n4_81 S0 _ _ (by assumption) | with_reducible exact n4_128 S0 _ _ (by assumption) | with_reducible exact pc_some (by assumption) | with_reducible refine pc_chk (fun _ => ?_) | with_reducible refine pc_if (fun _ => ?_) (fun _ => ?_) | with_reducible refine pf_lt (by assumption) (by omega) (fun _ _ => ?_) | with_reducible refine pf_b1 (fun _ => ?_)
theorem n4_scan0 (S0 : SS) : ∀ (n : Nat) (S : SS), fr X14 S0 S → pc (f_M_scan_0 n S) (fr X14 S0) := by
  intro n
  induction n with
  | zero => intro S _ r e; exact absurd e (by simp [f_M_scan_0])
  | succ n ih =>
    intro S h
    show pc (f_M_scan_0_b (f_M_scan_0 n) S) _
    unfold f_M_scan_0_b
    exact pc_if (fun _ => n4_38 S0 S h) (fun _ => pf_b1 (fun _ => pc_if (fun _ => n4_38 S0 S h) (fun _ => pc_chk (fun _ => pf_lt h (by omega) (fun S8 h8 => ih S8 h8)))))
theorem n4_scan (S0 T : SS) (h : fr X14 S0 T) : pc (f_M_scan T) (fr X14 S0) := n4_scan0 S0 FU T h
theorem nn_num (S0 T : SS) (a c : Int) (h : fr X14 S0 T) : pc (f_M_number T a c) (NN S0) := by
  unfold f_M_number
  exact pc_if (fun _ => pc_if (fun _ => pc_lt (fun _ _ => pc_some (.inl rfl))) (fun _ => pc_b1 (n4_scan S0 T h) (fun S8 h8 => pc_some (.inr h8)))) (fun _ => pc_lt (fun _ _ => pc_some (.inl rfl)))
theorem nn_move (S0 T : SS) (m : Int) (h : fr X14 S0 T) : pc (f_M_readMove T m) (NN S0) := by
  have n0 : ∀ s : SS, pc (some ((none : Option Unit), s)) (NN S0) := fun s => pc_some (.inl rfl)
  have A : ∀ T', fr X14 S0 T' → pc (f_M_readMove_105 m T') (NN S0) := by
    intro T' h'
    unfold f_M_readMove_105
    exact nn_b3 (nn_num S0 T' _ _ h') n0 (fun a s hs => pc_chk (fun _ => pf_lt hs (by omega) (fun _ h2 => pc_some (.inr h2))))
  have B : ∀ T' a c d, fr X14 S0 T' → pc (f_M_readMove_56 m T' a c d) (NN S0) := by
    intro T' a c d h'
    unfold f_M_readMove_56
    exact nn_b3 (nn_num S0 T' _ _ h') n0 (fun a s hs => pc_chk (fun _ => pf_lt hs (by omega) (fun S5 h5 => pc_if (fun _ => pc_chk (fun _ => pc_chk (fun _ => pc_chk (fun _ => pc_if (fun _ => A _ h5) (fun _ => pc_lt (fun _ _ => n0 _)))))) (fun _ => A _ h5))))
  have C : ∀ a c d, pc (f_M_readMove_23 m T a c d) (NN S0) := by
    intro a c d
    unfold f_M_readMove_23
    exact nn_b3 (nn_num S0 T _ _ h) n0 (fun a s hs => pc_chk (fun _ => pf_lt hs (by omega) (fun S5 h5 => pc_chk (fun _ => pc_chk (fun _ => pc_if (fun _ => pc_chk (fun _ => B _ _ _ _ h5)) (fun _ => B _ _ _ _ h5))))))
  unfold f_M_readMove
  exact pc_chk (fun _ => pc_if (fun _ => C _ _ _) (fun _ => C _ _ _))
theorem nn_w96 (S0 : SS) (m : Int) (kf : SS → Option (Option Unit × SS)) (hk : ∀ s, fr X14 S0 s → pc (kf s) (NN S0)) : ∀ (n : Nat) (S : SS) (g : Int) (w : Int64), fr X14 S0 S → pc (f_M_readWords_96 m kf n S g w) (NN S0) := by
  intro n
  induction n with
  | zero => intro S g w _ r e; exact absurd e (by simp [f_M_readWords_96])
  | succ n ih =>
    intro S g w h
    show pc (f_M_readWords_96_b m kf (f_M_readWords_96 m kf n) S g w) _
    have E : ∀ g w, pc (f_M_readWords_204 m kf S g w) (NN S0) := by
      intro g w
      unfold f_M_readWords_204
      exact pc_if (fun _ => pc_lt (fun _ _ => pc_some (.inl rfl))) (fun _ => pc_chk (fun _ => pc_if (fun _ => pc_lt (fun _ _ => pc_some (.inl rfl))) (fun _ => pc_chk (fun _ => pc_chk (fun _ => pc_chk (fun _ => pc_chk (fun _ => pf_lts h (fun S5 h5 => pc_chk (fun _ => pc_chk (fun _ => pc_chk (fun _ => pf_lt h5 (by omega) (fun S8 h8 => hk S8 h8)))))))))))) 
    have G : ∀ g w, pc (f_M_readWords_191 m kf (f_M_readWords_96 m kf n) S g w) (NN S0) := by
      intro g w
      unfold f_M_readWords_191
      exact pc_chk (fun _ => pf_lt h (by omega) (fun S3 h3 => ih _ _ _ h3))
    unfold f_M_readWords_96_b f_M_readWords_170 f_M_readWords_171
    repeat' first | with_reducible exact E _ _ | with_reducible exact G _ _ | with_reducible refine pc_chk (fun _ => ?_) | with_reducible refine pc_if (fun _ => ?_) (fun _ => ?_) | with_reducible refine pf_b1 (fun _ => ?_)
theorem nn_w19 (S0 : SS) (m : Int) : ∀ (n : Nat) (S : SS), fr X14 S0 S → pc (f_M_readWords_19 m n S) (NN S0) := by
  intro n
  induction n with
  | zero => intro S _ r e; exact absurd e (by simp [f_M_readWords_19])
  | succ n ih =>
    intro S h
    show pc (f_M_readWords_19_b m (f_M_readWords_19 m n) S) _
    have E : ∀ S', fr X14 S0 S' → pc (f_M_readWords_269 m S') (NN S0) := by
      intro S' h'
      unfold f_M_readWords_269
      exact pc_chk (fun _ => pc_if (fun _ => pc_lt (fun _ _ => pc_some (.inl rfl))) (fun _ => pc_b1 (n4_scan S0 S' h') (fun _ h2 => pc_some (.inr h2))))
    have G : pc (f_M_readWords_57 m (f_M_readWords_19 m n) S) (NN S0) := by
      unfold f_M_readWords_57
      exact pf_lt h (by omega) (fun S2 h2 => pc_if (fun _ => E S2 h2) (fun _ => pf_b1 (fun _ => pc_if (fun _ => E S2 h2) (fun _ => nn_w96 S0 m _ ih FU S2 1 0 h2))))
    unfold f_M_readWords_19_b
    exact pc_if (fun _ => G) (fun _ => pf_b1 (fun _ => pc_if (fun _ => G) (fun _ => pc_chk (fun _ => pf_lt h (by omega) (fun S9 h9 => ih S9 h9)))))
theorem nn_line (S : SS) (m : Int) : pc (f_M_readLine S m) (NN S) := by
  have h := fr_refl X14 S
  have n0 : ∀ s : SS, pc (some ((none : Option Unit), s)) (NN S) := fun s => pc_some (.inl rfl)
  have E : ∀ S', fr X14 S S' → pc (f_M_readLine_505 m S') (NN S) := by
    intro S' h'
    unfold f_M_readLine_505
    exact pf_b1 (fun _ => pc_if (fun _ => pc_lt (fun _ _ => n0 _)) (fun _ => pc_b1 (n4_scan S S' h') (fun _ h2 => pc_some (.inr h2))))
  have W : ∀ S', fr X14 S S' → pc (f_M_readLine_480 m S') (NN S) := by
    intro S' h'
    have w0 : pc (f_M_readLine_500 m S') (NN S) := by
      unfold f_M_readLine_500 f_M_readWords
      exact nn_b3 (pf_b1 (fun _ => pc_if (fun _ => pc_lt (fun _ _ => n0 _)) (fun _ => nn_w19 S m FU S' h'))) n0 (fun _ s hs => E s hs)
    unfold f_M_readLine_480
    exact pc_chk (fun _ => pc_if (fun _ => w0) (fun _ => pc_chk (fun _ => pc_if (fun _ => w0) (fun _ => E S' h'))))
  have G : ∀ S' a c d, fr X14 S S' → pc (f_M_readLine_250 m S' a c d) (NN S) := by
    intro S' a c d h'
    have T6 : ∀ s, fr X14 S s → pc (f_M_readLine_466 m s) (NN S) := by
      intro s hs
      unfold f_M_readLine_466
      exact pc_chk (fun _ => nn_b3 (nn_num S s _ _ hs) n0 (fun _ s2 h2 => pc_chk (fun _ => pf_lt h2 (by omega) (fun _ h3 => W _ h3))))
    have T5 : ∀ s, pc (f_M_readLine_456 m s) (NN S) := by
      intro s
      unfold f_M_readLine_456
      exact pc_lt (fun _ _ => n0 _)
    unfold f_M_readLine_250
    repeat' first | with_reducible exact W _ (by assumption) | with_reducible exact T6 _ (by assumption) | with_reducible exact T5 _ | with_reducible exact n0 _ | with_reducible refine pc_chk (fun _ => ?_) | with_reducible refine pc_if (fun _ => ?_) (fun _ => ?_) | with_reducible refine pf_lt (by assumption) (by omega) (fun _ _ => ?_) | with_reducible refine pc_b1 (n4_scan S _ (by assumption)) (fun _ _ => ?_) | with_reducible refine nn_b3 (nn_num S _ _ _ (by assumption)) n0 (fun _ _ _ => ?_) | with_reducible refine nn_b3 (nn_move S _ _ (by assumption)) n0 (fun _ _ _ => ?_) | with_reducible refine pc_lt (fun _ _ => ?_)
  have K : ∀ S', fr X14 S S' → pc (f_M_readLine_150 m S') (NN S) := by
    intro S' h'
    unfold f_M_readLine_150 f_M_readLine_249
    repeat' first | with_reducible exact G _ _ _ _ (by assumption) | with_reducible refine pc_chk (fun _ => ?_) | with_reducible refine pc_if (fun _ => ?_) (fun _ => ?_) | with_reducible refine pf_b1 (fun _ => ?_)
  have H : ∀ v, pc (f_M_readLine_40 m S v) (NN S) := by
    intro v
    unfold f_M_readLine_40
    repeat' first | with_reducible exact K _ (by assumption) | with_reducible exact n0 _ | with_reducible refine pc_chk (fun _ => ?_) | with_reducible refine pc_if (fun _ => ?_) (fun _ => ?_) | with_reducible refine pf_lt (by assumption) (by omega) (fun _ _ => ?_) | with_reducible refine pc_b1 (n4_scan S _ (by assumption)) (fun _ _ => ?_) | with_reducible refine pf_b1 (fun _ => ?_) | with_reducible refine pc_lt (fun _ _ => ?_)
  unfold f_M_readLine
  exact pf_b1 (fun _ => pc_if (fun _ => pf_b1 (fun _ => pc_if (fun _ => pf_b1 (fun _ => pc_if (fun _ => H _) (fun _ => H _))) (fun _ => H _))) (fun _ => H _))
theorem fl_mline {S S' : SS} {m : Int} {u : Unit} (h : f_M_readLine S m = some (some u, S')) : gi S' 192 14 = gi S 192 14 ∧ gi S' 192 15 = gi S 192 15 := by
  rcases nn_line S m _ h with q | q
  · cases q
  · exact ⟨q 192 14 (fun w => w ⟨rfl, .inl rfl⟩), q 192 15 (fun w => w ⟨rfl, .inr rfl⟩)⟩
