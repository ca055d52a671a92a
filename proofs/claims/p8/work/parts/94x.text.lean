theorem mt_put_HL {S : SS} {L : List Int64} {w : Int64} (h : HL (gl S 195) (gi S 192 5) L) : HL (gl (mt_put S w) 195) (gi (mt_put S w) 192 5) (L ++ [w]) := by
  refine HL_add h (by unfold mt_put; rw [gi_at]) (fun i hi => ?_) ?_
  · show gl (sl S 195 (gi S 192 5).toNat w) 195 i = _
    rw [gl_slN, if_neg (fun z => hi z.2)]
  · show gl (sl S 195 (gi S 192 5).toNat w) 195 _ = _
    rw [gl_slN, if_pos ⟨rfl, rfl⟩]
theorem mt_put_fp (S : SS) (w : Int64) : q_fp S (mt_put S w) := by
  refine ⟨fun r k h => ?_, fun r k h => ?_, rfl⟩
  · unfold mt_put; rw [gi_si, if_neg h]; rfl
  · show gl (sl S 195 _ w) r k = _
    rw [gl_slN, if_neg (fun z => h z.1)]
theorem m_pws_HL {k : Nat} : ∀ (c i : Nat) (S : SS) (L : List Int64), HL (gl S 195) (gi S 192 5) L → HL (gl (m_pws k c i S) 195) (gi (m_pws k c i S) 192 5) (L ++ w_from (fun i => gl S 206 (6 * k + i)) c i) ∧ q_fp S (m_pws k c i S) := by
  intro c
  induction c with
  | zero => intro i S L h; rw [w_from, List.append_nil]; exact ⟨h, q_fp_refl S⟩
  | succ c ih =>
    intro i S L h
    have I := ih (i + 1) (mt_put S (gl S 206 (6 * k + i))) _ (mt_put_HL (w := gl S 206 (6 * k + i)) h)
    have fp := mt_put_fp S (gl S 206 (6 * k + i))
    have e : w_from (fun j => gl (mt_put S (gl S 206 (6 * k + i))) 206 (6 * k + j)) c (i + 1) = w_from (fun j => gl S 206 (6 * k + j)) c (i + 1) := w_from_cg c (i + 1) (fun j _ _ => fp.2.1 206 _ (by decide))
    rw [e, List.append_assoc] at I
    exact ⟨I.1, q_fp_trans fp I.2⟩
theorem m_tok_HL (t : Nat) (S : SS) {L : List Int64} (h : HL (gl S 195) (gi S 192 5) L) : HL (gl (m_tok S t) 195) (gi (m_tok S t) 192 5) (L ++ m_wl S t) ∧ q_fp S (m_tok S t) := by
  unfold m_tok m_wl
  by_cases e : t < 60
  · rw [if_pos e, if_pos e]; exact ⟨mt_put_HL h, mt_put_fp S _⟩
  · rw [if_neg e, if_neg e]; exact m_pws_HL _ 0 S L h
theorem m_wl_fp {S S1 : SS} (h : q_fp S S1) (t : Nat) : m_wl S1 t = m_wl S t := by
  unfold m_wl
  by_cases e : t < 60
  · rw [if_pos e, if_pos e, h.2.1 193 t (by decide)]
  · rw [if_neg e, if_neg e, h.1 204 (t - 60) (by omega)]
    exact w_from_cg _ 0 (fun j _ _ => h.2.1 206 _ (by decide))
theorem m_toks_HL : ∀ (A : List Nat) (S : SS) (L : List Int64), HL (gl S 195) (gi S 192 5) L → HL (gl (m_toks S A) 195) (gi (m_toks S A) 192 5) (L ++ w_toks (m_wl S) A) := by
  intro A
  induction A with
  | nil => intro S L h; rw [w_toks, List.append_nil]; exact h
  | cons t A ih =>
    intro S L h
    have T := m_tok_HL t S h
    have I := ih (m_tok S t) _ T.1
    have e : w_toks (m_wl (m_tok S t)) A = w_toks (m_wl S) A := w_toks_cg A (fun x _ => m_wl_fp T.2 x)
    rw [e, List.append_assoc] at I
    exact I
/-- the reference's marks, those of the set w left out -/
noncomputable def q_mu (T : SS) (w : Int) : q_MK := fun j k => if j = 5 then m_us w (m_st T) k else q_md T j k
noncomputable def s_mu (T : SS) (w : Int) : SS := (fun r k => if r = 212 then m_st T k else if r = 214 then m_us w (m_st T) k else T.1 r k, T.2)
theorem al_mu {T S1 : SS} {w : Int} (h : ∀ r k, r = 199 ∨ r = 201 ∨ r = 202 ∨ r = 203 → gi S1 r k = gi T r k) (hu : ∀ j : Nat, (j : Int) < gi T 192 27 → gi S1 214 j = m_us w (m_st T) j) : q_al (q_md S1) (q_mu T w) (q_n T) := by
  intro k hk
  have hk : k < (gi T 192 27).toNat := hk
  refine ⟨?_, fun _ => ⟨?_, ?_, ?_, ?_, ?_⟩⟩
  · rw [md_us, hu k (by omega)]; exact Iff.rfl
  · show q_kd (q_md S1) k = q_kd (q_md T) k
    rw [md_kd, md_kd]; exact h 199 k (by omega)
  · show q_lo (q_md S1) k = q_lo (q_md T) k
    rw [md_lo, md_lo, h 199 k (by omega), h 201 k (by omega)]
  · show q_hi (q_md S1) k = q_hi (q_md T) k
    rw [md_hi, md_hi, h 199 k (by omega), h 202 k (by omega), h 203 k (by omega)]
  · show q_mi (q_md S1) k = q_mi (q_md T) k
    rw [md_mi, md_mi]; exact h 202 k (by omega)
  · show q_gp (q_md S1) k = q_gp (q_md T) k
    rw [md_gp, md_gp, h 199 k (by omega), h 201 k (by omega), h 203 k (by omega)]
theorem q_mu_good {T : SS} (h0 : 0 ≤ gi T 192 27) (hN : NX T) (w : Int) : q_good (q_mu T w) (q_n T) (gi T 192 3) := by
  have e : ∀ r k, r ≠ 212 → r ≠ 213 → r ≠ 214 → gi (s_mu T w) r k = gi T r k := fun r k a b c => by
    show (if r = 212 then m_st T k else if r = 214 then m_us w (m_st T) k else T.1 r k) = T.1 r k
    rw [if_neg a, if_neg c]
  have g := q_fu_good (S := T) (S1 := s_mu T w) (w := w) hN h0 ⟨rfl, e⟩ (fun j _ => ⟨rfl, rfl⟩)
  exact q_good_al (al_mu (fun r k a => e r k (by omega) (by omega) (by omega)) (fun j _ => rfl)) g
theorem q_bel_m {M : q_MK} {n : Nat} {F a b : Int} {t : Nat} (hb : b < F) (h : q_bel M n a b t) : (t < 60 ∧ (t : Int) < F) ∨ ∃ k, t = 60 + k ∧ k < n ∧ q_us M k = 1 := by
  rcases h with h | ⟨k, e, hk, hu, _⟩
  · exact .inl ⟨h.1, by omega⟩
  · exact .inr ⟨k, e, hk, hu⟩
/-- of what tokens the text is made -/
theorem q_all_mem {M : q_MK} {n : Nat} {F : Int} (G : q_good M n F) (hF : F ≤ 60) (hF0 : 0 ≤ F) {t : Nat} (ht : t ∈ q_all M n F) : (t < 60 ∧ (t : Int) < F) ∨ ∃ k, t = 60 + k ∧ k < n ∧ q_us M k = 1 := by
  have K := q_row_ok G hF 43
  have gp : ∀ g : Int, 0 ≤ g → t ∈ q_gap M (q_row M n 43) g n 0 → (t < 60 ∧ (t : Int) < F) ∨ ∃ k, t = 60 + k ∧ k < n ∧ q_us M k = 1 := by
    intro g hg h
    obtain ⟨j, _, hj, uj, gj, q⟩ := q_gap_mem n 0 t h
    have hj : j < n := by omega
    rcases q with q | q
    · exact .inr ⟨j, q.2, hj, uj⟩
    · have v := G.1 j hj uj
      unfold q_val at v
      have k4 : q_kd M j = 4 := by omega
      exact q_bel_m (by omega) ((K _ _ _ (q_reg_move G hj uj k4)).2 t q.2)
  unfold q_all at ht
  rcases List.mem_append.1 ht with h | h
  · exact gp 0 (Int.le_refl _) h
  · by_cases c : F = 0
    · rw [if_pos c] at h; exact absurd h (by simp)
    · rw [if_neg c] at h
      rcases List.mem_append.1 h with h | h
      · exact q_bel_m (by omega) ((K _ _ _ (q_reg_top G)).2 t h)
      · exact gp F hF0 h
/-- THE TEXT of the reference's marks without the set w -/
noncomputable def tx (T : SS) (w : Int) : List Int64 := w_toks (m_wl T) (q_all (q_mu T w) (q_n T) (gi T 192 3))
theorem tx_cg {T T1 : SS} (hM : MX 0 T) (hN : NX T) (w : Int) (hn : gi T1 192 27 = gi T 192 27) (h3 : gi T1 192 3 = gi T 192 3) (hs : ∀ k : Nat, (k : Int) < gi T 192 27 → m_st T1 k = m_st T k) (hm : ∀ r k : Nat, r = 199 ∨ r = 201 ∨ r = 202 ∨ r = 203 ∨ r = 204 → (k : Int) < gi T 192 27 → gi T1 r k = gi T r k) (hl : ∀ i : Nat, (i : Int) < gi T 192 3 → gl T1 193 i = gl T 193 i) (hw : ∀ k : Nat, (k : Int) < gi T 192 27 → ∀ j, j < 6 → gl T1 206 (6 * k + j) = gl T 206 (6 * k + j)) : tx T1 w = tx T w := by
  have b27 := mx_192_27 hM
  have b3 := mx_192_3 hM
  have G := q_mu_good b27.1 hN w
  have al : q_al (q_mu T w) (q_mu T1 w) (q_n T) := by
    intro k hk
    have hk : k < (gi T 192 27).toNat := hk
    have us : m_us w (m_st T1) k = m_us w (m_st T) k := by
      unfold m_us
      rw [hs k (by omega), m_dn_cg (a := m_st T1) (c := m_st T) k (fun j hj => hs j (by omega))]
    refine ⟨?_, fun _ => ⟨?_, ?_, ?_, ?_, ?_⟩⟩
    · show m_us w (m_st T) k = 1 ↔ m_us w (m_st T1) k = 1
      rw [us]
    · show q_kd (q_md T) k = q_kd (q_md T1) k
      rw [md_kd, md_kd, hm 199 k (by omega) (by omega)]
    · show q_lo (q_md T) k = q_lo (q_md T1) k
      rw [md_lo, md_lo, hm 199 k (by omega) (by omega), hm 201 k (by omega) (by omega)]
    · show q_hi (q_md T) k = q_hi (q_md T1) k
      rw [md_hi, md_hi, hm 199 k (by omega) (by omega), hm 202 k (by omega) (by omega), hm 203 k (by omega) (by omega)]
    · show q_mi (q_md T) k = q_mi (q_md T1) k
      rw [md_mi, md_mi, hm 202 k (by omega) (by omega)]
    · show q_gp (q_md T) k = q_gp (q_md T1) k
      rw [md_gp, md_gp, hm 199 k (by omega) (by omega), hm 201 k (by omega) (by omega), hm 203 k (by omega) (by omega)]
  unfold tx
  have en : q_n T1 = q_n T := by unfold q_n; rw [hn]
  rw [en, h3, ← q_all_al al]
  refine w_toks_cg _ (fun t ht => ?_)
  rcases q_all_mem G b3.2 b3.1 ht with q | ⟨k, e, hk, _⟩
  · unfold m_wl
    rw [if_pos q.1, if_pos q.1, hl t q.2]
  · have hk : k < (gi T 192 27).toNat := hk
    have b := mx_204 hM k
    unfold m_wl
    rw [if_neg (by omega), if_neg (by omega), show t - 60 = k by omega, hm 204 k (by omega) (by omega)]
    exact w_from_cg _ 0 (fun j _ hj => hw k (by omega) j (by omega))
/-- the reference's make lays it -/
theorem mk_text {T : SS} (hM : MX 0 T) (hN : NX T) (w : Int) : pc (f_M_make T w) (fun T1 => HL (gl T1 195) (gi T1 192 5) (tx T w) ∧ (∀ r k, r ≠ 212 → r ≠ 213 → r ≠ 214 → ¬ (r = 192 ∧ k = 5) → gi T1 r k = gi T r k) ∧ ∀ r k, r ≠ 195 → gl T1 r k = gl T r k) := by
  refine pc_mono (ok_true (ok_make T w hM hN)) (fun T1 h => ?_)
  obtain ⟨_, Su, ⟨b1, b2, b3, b4, b5, b6⟩, fp, e⟩ := h
  have al : q_al (q_md Su) (q_mu T w) (q_n T) := al_mu (fun r k a => b4 r k (by omega) (by omega) (by omega) (by omega)) (fun j hj => (b5 j hj).2)
  refine ⟨?_, fun r k a c d f => (fp.1 r k f).trans (b4 r k a c d f), fun r k a => (fp.2.1 r k a).trans (gl_2 b3 r k)⟩
  have X := m_toks_HL (q_all (q_md Su) (q_n T) (gi T 192 3)) Su [] (by rw [b2]; exact HL_nil _)
  rw [← e, List.nil_append, q_all_al al] at X
  have ew : w_toks (m_wl Su) (q_all (q_mu T w) (q_n T) (gi T 192 3)) = tx T w := by
    unfold tx
    refine w_toks_cg _ (fun t _ => ?_)
    unfold m_wl
    by_cases c : t < 60
    · rw [if_pos c, if_pos c, gl_2 b3]
    · rw [if_neg c, if_neg c, b4 204 _ (by omega) (by omega) (by omega) (by omega)]
      exact w_from_cg _ 0 (fun j _ _ => gl_2 b3 _ _)
  rw [ew] at X
  exact X
theorem w_toks_len {W : Nat → List Int64} {V : Nat → Nat} : ∀ L : List Nat, (∀ t, t ∈ L → V t = (W t).length) → q_wt V L = (w_toks W L).length := by
  intro L
  induction L with
  | nil => intro _; rfl
  | cons t L ih => intro h; rw [q_wt, w_toks, List.length_append, h t List.mem_cons_self, ih (fun x hx => h x (List.mem_cons_of_mem _ hx))]
theorem tx_len {T : SS} (hM : MX 0 T) (hN : NX T) (w : Int) : (tx T w).length ≤ 300 := by
  have b27 := mx_192_27 hM
  have b3 := mx_192_3 hM
  have G := q_mu_good b27.1 hN w
  have W := q_all_wt G b3.2 b3.1 (show (gi T 192 27).toNat ≤ 40 by omega) (fun t => (m_wl T t).length) (fun t ht => by unfold m_wl; rw [if_pos ht]; exact Nat.le_refl _) (fun t => by
    have := mx_204 hM (t - 60)
    unfold m_wl
    by_cases c : t < 60
    · rw [if_pos c]; show 1 ≤ 6; omega
    · rw [if_neg c, w_from_len]; omega)
  rw [w_toks_len (W := m_wl T) _ (fun t _ => rfl)] at W
  exact W
/-- words alike -/
def WF (S T : SS) : Prop := ∀ i : Nat, (i : Int) < gi T 192 3 → gl S 5 i = gl T 193 i
def WS (S T : SS) : Prop := ∀ i : Nat, (i : Int) < gi T 192 4 → gl S 7 i = gl T 194 i
def WM (S T : SS) : Prop := ∀ k : Nat, (k : Int) < gi T 192 27 → ∀ j : Nat, (j : Int) < gi T 204 k → gl S (14 + 4 * k + 3) j = gl T 206 (6 * k + j)
/-- the class's make lays the same text -/
theorem tx_make {q : Nat} (hq : qok q) {S T : SS} {u : Nat → Int} {w : Int} (hC : ∀ k, k < 40 → 0 ≤ gi S (14 + 4 * k + 2) 1 ∧ gi S (14 + 4 * k + 2) 1 ≤ 6) (hM : MX 0 T) (hN : NX T) (hK : ∀ k : Nat, (k : Int) < gi T 192 27 → MN S T k) (h4 : gi S 4 1 = gi T 192 3) (hu : ∀ k : Nat, (k : Int) < gi T 192 27 → (u k = 1 ↔ m_us w (m_st T) k = 1)) (hT : TKN S u (q_n T)) (hf : WF S T) (hm : WM S T) (hc : ((tx T w).length : Int) ≤ cap q) : pc (f_Setter_make S 4 q) (fun S1 => HL (gl S1 (q + 1)) (gi S1 q 1) (tx T w) ∧ (∀ r k, r ≠ q + 1 → gl S1 r k = gl S r k) ∧ (∀ r k, r ≠ 178 → gq S1 r k = gq S r k) ∧ ∀ r k, ¬ (r = q ∧ k = 1) → gi S1 r k = gi S r k) := by
  have b27 := mx_192_27 hM
  have b3 := mx_192_3 hM
  have G := q_mu_good b27.1 hN w
  have al : q_al (q_mu T w) (cu S u) (q_n T) := by
    intro k hk
    have hk : k < (gi T 192 27).toNat := hk
    refine ⟨(hu k (by omega)).symm, fun us => ?_⟩
    have us : m_us w (m_st T) k = 1 := us
    have s0 : m_st T k = 0 := by
      unfold m_us at us
      by_cases e : m_st T k = 0
      · exact e
      · rw [if_neg (fun z => e z.1)] at us; exact absurd us (by decide)
    have k5 := (m_st_ok T k hk (.inl s0)).1
    obtain ⟨e1, e2, e3, e4, e5⟩ := md_eq (hK k (by omega)) k5
    exact ⟨e1.symm, e2.symm, e3.symm, e4.symm, e5.symm⟩
  have G' := q_good_al al G
  have hn : q_n T ≤ 40 := by show (gi T 192 27).toNat ≤ 40; omega
  have eA := q_all_al al (gi T 192 3)
  have M := fun t ht => q_all_mem (t := t) G b3.2 b3.1 ht
  have eW : ∀ S', (∀ r k, ¬ (r = q ∧ k = 1) → gi S' r k = gi S r k) → (∀ r k, gl S' r k = gl S r k) → ∀ t, t ∈ q_all (q_mu T w) (q_n T) (gi T 192 3) → c_wl S' t = m_wl T t := by
    intro S' g1 g2 t ht
    rcases M t ht with z | ⟨k, e, hk, _⟩
    · unfold c_wl m_wl
      rw [if_pos z.1, if_pos z.1, g2, hf t z.2]
    · have hk : k < (gi T 192 27).toNat := hk
      have a6 := (hK k (by omega)).2.2.2.2.2.1
      unfold c_wl m_wl
      rw [if_neg (by omega), if_neg (by omega), show t - 60 = k by omega, g1 (14 + 4 * k + 2) 1 (by omega), a6]
      exact w_from_cg _ 0 (fun j _ hj => by rw [g2]; exact hm k (by omega) j (by omega))
  have wt : q_wt (c_W S) (q_all (cu S u) (q_n T) (gi T 192 3)) = (tx T w).length := by
    rw [← eA]
    unfold tx
    rw [← w_toks_cg (W := c_wl S) _ (eW S (fun _ _ _ => rfl) (fun _ _ => rfl))]
    refine w_toks_len _ (fun t _ => ?_)
    unfold c_W c_wl
    by_cases c : t < 60
    · rw [if_pos c, if_pos c]; rfl
    · rw [if_neg c, if_neg c, w_from_len]
  refine pc_mono (cset_make hq G' hn b3.1 b3.2 h4 hT hC (by rw [wt]; exact hc)) (fun S1 e => ?_)
  have gS : ∀ r k, ¬ (r = q ∧ k = 1) → gi (c_s4 S q) r k = gi S r k := fun r k a => by unfold c_s4; rw [gi_off a]; rfl
  have z0 : gi (c_s4 S q) q 1 = 0 := by unfold c_s4; exact gi_at _ _ _ _
  rw [← eA] at e
  have lt : ∀ t, t ∈ q_all (q_mu T w) (q_n T) (gi T 192 3) → t < 100 := (q_all_ok G b3.2 b3.1 hn).2
  have fp := (c_toks_fp hq (q_all (q_mu T w) (q_n T) (gi T 192 3)) (c_s4 S q) (fun t ht => by have := lt t ht; omega)).1
  have X := c_toks_HL hq (q_all (q_mu T w) (q_n T) (gi T 192 3)) (c_s4 S q) [] lt (by rw [z0]; exact HL_nil _)
  rw [List.nil_append, w_toks_cg _ (eW (c_s4 S q) gS (fun _ _ => rfl)), ← e] at X
  rw [← e] at fp
  refine ⟨X, fun r k a => fp.2.1 r k a, fun r k a => ?_, fun r k a => (fp.1 r k a).trans (gS r k a)⟩
  have : gq S1 r k = gq (c_s4 S q) r k := by unfold gq; rw [fp.2.2]
  rw [this]
  unfold c_s4
  show gq (sq (sq S 178 3 (some 4)) 178 4 (some q)) r k = _
  rw [gq_off (by omega), gq_off (by omega)]
