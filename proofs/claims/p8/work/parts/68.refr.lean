theorem w_b1_is {α β : Type} {x : Option α} {a : α} {k : α → Option β} (h : x = some a) : w_b1 x k = k a := by rw [h]; rfl
def mt_put (S : SS) (w : Int64) : SS := si (sl S 195 (gi S 192 5).toNat w) 192 5 (gi S 192 5 + 1)
def m_pws (k : Nat) : Nat → Nat → SS → SS
  | 0, _, S => S
  | c + 1, i, S => m_pws k c (i + 1) (mt_put S (gl S 206 (6 * k + i)))
def m_tok (S : SS) (t : Nat) : SS := if t < 60 then mt_put S (gl S 193 t) else m_pws (t - 60) (gi S 204 (t - 60)).toNat 0 S
def m_toks (S : SS) : List Nat → SS
  | [] => S
  | t :: L => m_toks (m_tok S t) L
theorem m_toks_append (A B : List Nat) : ∀ S, m_toks S (A ++ B) = m_toks (m_toks S A) B := by
  induction A with
  | nil => intro S; rfl
  | cons a A ih => intro S; exact ih (m_tok S a)
/-- all stays but the text made -/
def q_fp (S S1 : SS) : Prop := (∀ r k, ¬ (r = 192 ∧ k = 5) → gi S1 r k = gi S r k) ∧ (∀ r k, r ≠ 195 → gl S1 r k = gl S r k) ∧ S1.2.2 = S.2.2
theorem q_fp_refl (S : SS) : q_fp S S := ⟨fun _ _ _ => rfl, fun _ _ _ => rfl, rfl⟩
theorem q_fp_trans {S S1 S2 : SS} (h : q_fp S S1) (h2 : q_fp S1 S2) : q_fp S S2 := ⟨fun r k a => (h2.1 r k a).trans (h.1 r k a), fun r k a => (h2.2.1 r k a).trans (h.2.1 r k a), h2.2.2.trans h.2.2⟩
theorem gl_slN (S : SS) (r k r' k' : Nat) (v : Int64) : gl (sl S r k v) r' k' = if r' = r ∧ k' = k then v else gl S r' k' := by
  unfold gl sl up2
  by_cases e : r' = r
  · by_cases e2 : k' = k
    · simp [e, e2]
    · simp [e, e2]
  · simp [e]
theorem q_fp_put (S : SS) (w : Int64) : q_fp S (mt_put S w) := by
  refine ⟨fun r k h => ?_, fun r k h => ?_, rfl⟩
  · unfold mt_put; rw [gi_si, if_neg h]; rfl
  · show gl (sl S 195 _ w) r k = _
    rw [gl_slN, if_neg (fun q => h q.1)]
theorem mt_put_5 (S : SS) (w : Int64) : gi (mt_put S w) 192 5 = gi S 192 5 + 1 := by unfold mt_put; rw [gi_si, if_pos ⟨rfl, rfl⟩]
theorem mt_put_mx {b : Nat} {S : SS} (hC : MX b S) (w : Int64) (h : gi S 192 5 + 1 ≤ 300) : MX b (mt_put S w) := by
  have := mx_192_5 hC
  exact ms_192_5 (ms_sl hC) (by omega) h
theorem ok_put {b : Nat} {S : SS} (hC : MX b S) (w : Int64) (h : gi S 192 5 + 1 ≤ 300) : f_M_put S w = some (mt_put S w) := by
  have := mx_192_5 hC
  unfold f_M_put
  rw [w_chkP (by omega)]
  show w_chk (i32 (gi S 192 5 + 1)) _ = _
  rw [w_chkP (by omega)]
  rfl
def q_W (S : SS) (t : Nat) : Nat := if t < 60 then 1 else (gi S 204 (t - 60)).toNat
theorem m_pws_ok {b : Nat} (k : Nat) (hk : k < 41) : ∀ (c i n : Nat) (S : SS), MX b S → gi S 204 k = (i : Int) + (c : Int) → gi S 192 5 + (c : Int) ≤ 300 → c < n → f_M_putWords_2 (k : Int) n S (i : Int) = some (m_pws k c i S) ∧ MX b (m_pws k c i S) ∧ q_fp S (m_pws k c i S) ∧ gi (m_pws k c i S) 192 5 = gi S 192 5 + (c : Int) := by
  intro c
  induction c with
  | zero =>
    intro i n S hC e h hn
    obtain ⟨n, rfl⟩ : ∃ n', n = n' + 1 := ⟨n - 1, by omega⟩
    refine ⟨?_, hC, q_fp_refl S, ?_⟩
    · show f_M_putWords_2_b (k : Int) (f_M_putWords_2 (k : Int) n) S (i : Int) = _
      unfold f_M_putWords_2_b
      rw [w_chkP (by omega), Int.toNat_natCast, if_pos (by omega)]
      rfl
    · show gi S 192 5 = gi S 192 5 + 0
      omega
  | succ c ih =>
    intro i n S hC e h hn
    obtain ⟨n, rfl⟩ : ∃ n', n = n' + 1 := ⟨n - 1, by omega⟩
    have b204 := mx_204 hC k
    have fp := q_fp_put S (gl S 206 (6 * k + i))
    have hC' : MX b (mt_put S (gl S 206 (6 * k + i))) := mt_put_mx hC _ (by omega)
    have e5 := mt_put_5 S (gl S 206 (6 * k + i))
    have I := ih (i + 1) n (mt_put S (gl S 206 (6 * k + i))) hC' (by rw [fp.1 204 k (by omega)]; omega) (by omega) (by omega)
    refine ⟨?_, I.2.1, q_fp_trans fp I.2.2.1, ?_⟩
    · show f_M_putWords_2_b (k : Int) (f_M_putWords_2 (k : Int) n) S (i : Int) = _
      unfold f_M_putWords_2_b
      rw [w_chkP (by omega), Int.toNat_natCast, if_neg (by omega), w_chkP (by omega), w_chkP (by omega), w_chkP (by omega), show (6 * (k : Int) + (i : Int)).toNat = 6 * k + i by omega, w_b1_is (ok_put hC _ (by omega)), w_chkP (by omega), show (i : Int) + 1 = ((i + 1 : Nat) : Int) by omega]
      exact I.1
    · show gi (m_pws k c (i + 1) (mt_put S (gl S 206 (6 * k + i)))) 192 5 = _
      rw [I.2.2.2, e5]; omega
theorem m_tok_ok {b : Nat} {S : SS} (hC : MX b S) {t : Nat} (ht : t < 101) (h : gi S 192 5 + (q_W S t : Int) ≤ 300) : MX b (m_tok S t) ∧ q_fp S (m_tok S t) ∧ gi (m_tok S t) 192 5 = gi S 192 5 + (q_W S t : Int) ∧ (60 ≤ t → f_M_putWords S ((t - 60 : Nat) : Int) = some (m_tok S t)) := by
  unfold m_tok q_W at *
  by_cases e : t < 60
  · rw [if_pos e] at h
    rw [if_pos e, if_pos e]
    exact ⟨mt_put_mx hC _ (by omega), q_fp_put S _, mt_put_5 S _, fun q => absurd e (by omega)⟩
  · rw [if_neg e] at h
    rw [if_neg e, if_neg e]
    have b204 := mx_204 hC (t - 60)
    have I := m_pws_ok (b := b) (t - 60) (by omega) (gi S 204 (t - 60)).toNat 0 FU S hC (by omega) h (by unfold FU; omega)
    exact ⟨I.2.1, I.2.2.1, I.2.2.2, fun _ => I.1⟩
theorem q_W_fp {S S1 : SS} (h : q_fp S S1) : q_W S1 = q_W S := by
  funext t; unfold q_W; rw [h.1 204 (t - 60) (by omega)]
theorem q_md_fp {S S1 : SS} (h : q_fp S S1) : q_md S1 = q_md S := by
  funext j k
  unfold q_md
  rw [h.1 199 k (by omega), h.1 201 k (by omega), h.1 202 k (by omega), h.1 203 k (by omega), h.1 214 k (by omega)]
theorem m_toks_ok {b : Nat} : ∀ (L : List Nat) (S : SS), MX b S → (∀ t, t ∈ L → t < 101) → gi S 192 5 + (q_wt (q_W S) L : Int) ≤ 300 → MX b (m_toks S L) ∧ q_fp S (m_toks S L) ∧ gi (m_toks S L) 192 5 = gi S 192 5 + (q_wt (q_W S) L : Int) := by
  intro L
  induction L with
  | nil => intro S hC _ _; exact ⟨hC, q_fp_refl S, by show gi S 192 5 = gi S 192 5 + 0; omega⟩
  | cons t L ih =>
    intro S hC hL h
    have e : q_wt (q_W S) (t :: L) = q_W S t + q_wt (q_W S) L := rfl
    rw [e] at h ⊢
    have T := m_tok_ok hC (hL t List.mem_cons_self) (by omega)
    have I := ih (m_tok S t) T.1 (fun x hx => hL x (List.mem_cons_of_mem _ hx)) (by rw [q_W_fp T.2.1]; omega)
    refine ⟨I.1, q_fp_trans T.2.1 I.2.1, ?_⟩
    show gi (m_toks (m_tok S t) L) 192 5 = _
    rw [I.2.2, q_W_fp T.2.1]; omega
/-- a call that lays a list of tokens, room given -/
def q_lays (b : Nat) (S0 : SS) (f : SS → Option SS) (L : List Nat) : Prop := ∀ S, MX b S → q_fp S0 S → gi S 192 5 + (q_wt (q_W S0) L : Int) ≤ 300 → f S = some (m_toks S L)
abbrev q_lt (L : List Nat) : Prop := ∀ t, t ∈ L → t < 101
theorem q_lays_mx {b : Nat} {S0 S : SS} {L : List Nat} (hL : q_lt L) (hC : MX b S) (hf : q_fp S0 S) (h : gi S 192 5 + (q_wt (q_W S0) L : Int) ≤ 300) : MX b (m_toks S L) ∧ q_fp S0 (m_toks S L) ∧ gi (m_toks S L) 192 5 = gi S 192 5 + (q_wt (q_W S0) L : Int) := by
  rw [← q_W_fp hf] at h ⊢
  have := m_toks_ok L S hC hL h
  exact ⟨this.1, q_fp_trans hf this.2.1, this.2.2⟩
theorem ok_lgap {b : Nat} (S0 : SS) {F : Int} (G : q_good (q_md S0) (gi S0 192 27).toNat F) (rk : SS → Int → Int → Int → Option SS) (rp : Int → Int → Int → List Nat) (g : Int) (hg : 0 ≤ g)
    (hr : ∀ k, k < (gi S0 192 27).toNat → q_us (q_md S0) k = 1 → q_gp (q_md S0) k = g → q_kd (q_md S0) k = 4 → q_lays b S0 (fun S => rk S (q_lo (q_md S0) k) (q_hi (q_md S0) k) (k : Int)) (rp (q_lo (q_md S0) k) (q_hi (q_md S0) k) (k : Int)) ∧ q_lt (rp (q_lo (q_md S0) k) (q_hi (q_md S0) k) (k : Int))) :
    ∀ (c k n : Nat), k + c = (gi S0 192 27).toNat → c < n → q_lays b S0 (fun S => f_M_layGap_2 rk g n S (k : Int)) (q_gap (q_md S0) rp g c k) := by
  intro c
  induction c with
  | zero =>
    intro k n hk hn S hC hf h
    obtain ⟨n, rfl⟩ : ∃ n', n = n' + 1 := ⟨n - 1, by omega⟩
    have b27 := mx_192_27 hC
    have e27 := hf.1 192 27 (by omega)
    show f_M_layGap_2_b rk g (f_M_layGap_2 rk g n) S (k : Int) = _
    unfold f_M_layGap_2_b
    rw [if_pos (by omega)]
    rfl
  | succ c ih =>
    intro k n hk hn S hC hf h
    obtain ⟨n, rfl⟩ : ∃ n', n = n' + 1 := ⟨n - 1, by omega⟩
    have b27 := mx_192_27 hC
    have e27 := hf.1 192 27 (by omega)
    have b214 := mx_214 hC k
    have emd := q_md_fp hf
    have next : ∀ S', MX b S' → q_fp S0 S' → gi S' 192 5 + (q_wt (q_W S0) (q_gap (q_md S0) rp g c (k + 1)) : Int) ≤ 300 → f_M_layGap_66 rk g (f_M_layGap_2 rk g n) S' (k : Int) = some (m_toks S' (q_gap (q_md S0) rp g c (k + 1))) := by
      intro S' a d e
      unfold f_M_layGap_66
      rw [w_chkP (by omega), show (k : Int) + 1 = ((k + 1 : Nat) : Int) by omega]
      exact ih (k + 1) n (by omega) (by omega) S' a d e
    have eu : q_us (q_md S0) k = gi S 214 k := by rw [← emd, md_us]
    have ek : q_kd (q_md S0) k = gi S 199 k := by rw [← emd, md_kd]
    rw [q_gap] at h ⊢
    show f_M_layGap_2_b rk g (f_M_layGap_2 rk g n) S (k : Int) = _
    unfold f_M_layGap_2_b
    rw [if_neg (by omega), w_chkP (by omega), Int.toNat_natCast]
    by_cases c2 : gi S 214 k = 0
    · rw [if_pos c2]
      rw [if_neg (show ¬ (q_us (q_md S0) k = 1 ∧ q_gp (q_md S0) k = g) from fun q => by omega), List.nil_append] at h ⊢
      exact next S hC hf h
    · rw [if_neg c2]
      obtain ⟨r3, e3, _, q3⟩ := ok_and (ok_M_gapOf S (k : Int) hC (by omega)) (pc_gapOf S k)
      rw [w_b1_is e3]
      rw [emd] at q3
      by_cases c3 : r3 = g
      · rw [if_pos c3, w_chkP (by omega)]
        rw [if_pos (show q_us (q_md S0) k = 1 ∧ q_gp (q_md S0) k = g from ⟨by omega, by omega⟩)] at h ⊢
        rw [q_wt_append] at h
        rw [m_toks_append]
        by_cases c4 : gi S 199 k = 1
        · rw [if_pos c4]
          rw [if_pos (show q_kd (q_md S0) k = 1 by omega)] at h ⊢
          have l1 : q_lt [60 + k] := fun t ht => by simp at ht; omega
          have X := q_lays_mx l1 hC hf (by omega)
          have e1 : m_toks S [60 + k] = m_tok S (60 + k) := rfl
          have e2 : q_wt (q_W S0) [60 + k] = q_W S0 (60 + k) := rfl
          have T := (m_tok_ok hC (t := 60 + k) (by omega) (by rw [q_W_fp hf]; omega)).2.2.2 (by omega)
          rw [show 60 + k - 60 = k by omega] at T
          rw [w_b1_is T]
          rw [e1] at X ⊢
          exact next _ X.1 X.2.1 (by omega)
        · rw [if_neg c4, w_chkP (by omega), w_chkP (by omega)]
          rw [if_neg (show ¬ q_kd (q_md S0) k = 1 by omega)] at h ⊢
          have v := G.1 k (by omega) (by omega)
          unfold q_val at v
          have k4 : q_kd (q_md S0) k = 4 := by omega
          have e4 := md_mv (S := S0) (j := k) k4
          have e201 := hf.1 201 k (by omega)
          have e202 := hf.1 202 k (by omega)
          have H := hr k (by omega) (by omega) (by omega) k4
          have X := q_lays_mx H.2 hC hf (by omega)
          rw [e201, e202, ← e4.1, ← e4.2.1, w_b1_is (H.1 S hC hf (by omega))]
          exact next _ X.1 X.2.1 (by omega)
      · rw [if_neg c3]
        rw [if_neg (show ¬ (q_us (q_md S0) k = 1 ∧ q_gp (q_md S0) k = g) from fun q => by omega), List.nil_append] at h ⊢
        exact next S hC hf h
