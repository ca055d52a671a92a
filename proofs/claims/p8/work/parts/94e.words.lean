/-- the reference passes blanks ahead of a word -/
theorem rw_skip (m N : Int) : ∀ (n : Nat) (T : SS) (o : Option Unit) (T1 : SS), gi T 192 9 = N → N ≤ 2000 → 0 ≤ gi T 192 11 → gi T 192 11 ≤ N → f_M_readWords_19 m n T = some (o, T1) → ∃ n' T', f_M_readWords_57 m (f_M_readWords_19 m n') T' = some (o, T1) ∧ T'.2 = T.2 ∧ fr (fun r k => r = 192 ∧ k = 11) T T' ∧ gi T 192 11 ≤ gi T' 192 11 ∧ gi T' 192 11 ≤ N ∧ (∀ j, gi T 192 11 ≤ j → j < gi T' 192 11 → t_bl (mby_ T j)) ∧ (gi T' 192 11 = N ∨ ¬ t_bl (mby_ T (gi T' 192 11))) := by
  intro n
  induction n with
  | zero => intro T o T1 _ _ _ _ h; exact absurd h (by simp [f_M_readWords_19])
  | succ n ih =>
    intro T o T1 e9 hN h0 h1 h
    have h : f_M_readWords_19_b m (f_M_readWords_19 m n) T = some (o, T1) := h
    unfold f_M_readWords_19_b at h
    by_cases c : gi T 192 9 ≤ gi T 192 11
    · rw [if_pos c] at h
      exact ⟨n, T, h, rfl, fr_refl _ T, Int.le_refl _, h1, fun j a d => by omega, .inl (by omega)⟩
    · rw [if_neg c, w_b1_is (mby (T := T) (i := gi T 192 11) h0 (by omega) (by omega))] at h
      have eb : andi (gi T 197 (gi T 192 11).toNat) 255 = mby_ T (gi T 192 11) := rfl
      rw [eb] at h
      have bl : (f_M_isBlank T (mby_ T (gi T 192 11)) = 0 ∧ ¬ t_bl (mby_ T (gi T 192 11))) ∨ (f_M_isBlank T (mby_ T (gi T 192 11)) = 1 ∧ t_bl (mby_ T (gi T 192 11))) := bl_c T (mby_ T (gi T 192 11))
      rcases bl with q | q
      · rw [if_pos q.1] at h
        exact ⟨n, T, h, rfl, fr_refl _ T, Int.le_refl _, h1, fun j a d => by omega, .inr q.2⟩
      · rw [if_neg (by omega)] at h
        obtain ⟨_, h⟩ := w_chkE h
        unfold w_lt at h
        have d11 : gi (si T 192 11 (gi T 192 11 + 1)) 192 11 = gi T 192 11 + 1 := gi_at _ _ _ _
        have db : ∀ j, mby_ (si T 192 11 (gi T 192 11 + 1)) j = mby_ T j := fun j => by unfold mby_; rw [gi_off (by omega)]
        obtain ⟨n', T', a1, a2, a3, a4, a5, a6, a7⟩ := ih (si T 192 11 (gi T 192 11 + 1)) o T1 (by rw [gi_off (by omega)]; exact e9) hN (by rw [d11]; omega) (by rw [d11]; omega) h
        rw [d11] at a4 a6
        refine ⟨n', T', a1, a2, fun r k a => by rw [a3 r k a, gi_off a], by omega, a5, fun j b1 b2 => ?_, ?_⟩
        · by_cases e : j = gi T 192 11
          · rw [e]; exact q.2
          · rw [← db]; exact a6 j (by omega) b2
        · rcases a7 with w | w
          · exact .inl w
          · rw [db] at w; exact .inr w
theorem skip_one {b : Int → Int} {N p s s' : Int} (h1 : p ≤ s ∧ s ≤ N) (h2 : p ≤ s' ∧ s' ≤ N) (a : ∀ j, p ≤ j → j < s → t_bl (b j)) (a' : ∀ j, p ≤ j → j < s' → t_bl (b j)) (e : s = N ∨ ¬ t_bl (b s)) (e' : s' = N ∨ ¬ t_bl (b s')) : s = s' := by
  by_cases c : s < s'
  · rcases e with q | q
    · omega
    · exact absurd (a' s h1.1 c) q
  · by_cases c2 : s' < s
    · rcases e' with q | q
      · omega
      · exact absurd (a s' h2.1 c2) q
    · omega
abbrev XWC (m r k : Nat) : Prop := r = 3 ∨ (r = 177 ∧ 4 ≤ k) ∨ (r = 14 + 4 * m + 2 ∧ k = 1)
abbrev XWR (m r k : Nat) : Prop := (r = 192 ∧ 10 ≤ k ∧ k ≤ 15) ∨ (r = 204 ∧ k = m)
/-- the words of mark m are alike -/
def WL (S T : SS) (m : Nat) : Prop := gi S (14 + 4 * m + 2) 1 = gi T 204 m ∧ 0 ≤ gi T 204 m ∧ gi T 204 m ≤ 6 ∧ ∀ k : Nat, (k : Int) < gi T 204 m → gl S (14 + 4 * m + 2 + 1) k = gl T 206 (6 * m + k)
theorem WL_keep {S T S1 T1 : SS} {m : Nat} (h : WL S T m) (h1 : gi S1 (14 + 4 * m + 2) 1 = gi S (14 + 4 * m + 2) 1) (h2 : gi T1 204 m = gi T 204 m) (g1 : ∀ k, gl S1 (14 + 4 * m + 2 + 1) k = gl S (14 + 4 * m + 2 + 1) k) (g2 : ∀ k, gl T1 206 k = gl T 206 k) : WL S1 T1 m := by
  unfold WL at h ⊢
  rw [h1, h2]
  exact ⟨h.1, h.2.1, h.2.2.1, fun k hk => by rw [g1, g2]; exact h.2.2.2 k hk⟩
theorem cf_3 (S : SS) (kd : Int) (r k : Nat) (h : r ≠ 3) : gi (c_flt S kd) r k = gi S r k := by
  show gi (si (si S 3 0 kd) 3 1 _) r k = _
  rw [gi_off (by omega), gi_off (by omega)]
theorem wf_192 (T : SS) (kd p : Int) (r k : Nat) (h : ¬ (r = 192 ∧ 10 ≤ k ∧ k ≤ 15)) : gi (f_M_wrong T kd p) r k = gi T r k := by
  show gi (si (si T 192 14 kd) 192 15 _) r k = _
  rw [gi_off (by omega), gi_off (by omega)]
theorem cap_m (m : Nat) (hm : m < 40) : cap (14 + 4 * m + 2) = 6 := by
  unfold cap
  rw [if_neg (by omega), if_neg (by omega), if_neg (by omega), if_neg (by omega), if_neg (by omega)]
/-- which longs a line may change -/
def LGC (m : Nat) (S S1 : SS) : Prop := ∀ r k, r ≠ 14 + 4 * m + 2 + 1 → gl S1 r k = gl S r k
def LGR (m : Nat) (T T1 : SS) : Prop := ∀ r k, ¬ (r = 206 ∧ 6 * m ≤ k ∧ k < 6 * m + 6) → gl T1 r k = gl T r k
theorem LGC_t {m : Nat} {S S1 S2 : SS} (h : LGC m S S1) (h2 : LGC m S1 S2) : LGC m S S2 := fun r k a => (h2 r k a).trans (h r k a)
theorem LGR_t {m : Nat} {S S1 S2 : SS} (h : LGR m S S1) (h2 : LGR m S1 S2) : LGR m S S2 := fun r k a => (h2 r k a).trans (h r k a)
theorem LGC_2 {m : Nat} {S S1 : SS} (h : S1.2 = S.2) : LGC m S S1 := fun r k _ => gl_2 h r k
theorem LGR_2 {m : Nat} {S S1 : SS} (h : S1.2 = S.2) : LGR m S S1 := fun r k _ => gl_2 h r k
/-- behind a word: both fault alike, or both have it -/
def WE (S T : SS) (m : Nat) (r : Int) (S1 : SS) (o : Option Unit) (T1 : SS) (kf : SS → Option (Option Unit × SS)) : Prop :=
  (r = 0 ∧ o = none ∧ FE S1 T1 ∧ fr (XWC m) S S1 ∧ fr (XWR m) T T1 ∧ LGC m S S1 ∧ LGR m T T1) ∨
  (∃ T2, r = 1 ∧ kf T2 = some (o, T1) ∧ BF S1 T2 ∧ gi S1 177 4 = gi T2 192 11 ∧ 0 ≤ gi T2 192 11 ∧ gi T2 192 11 ≤ gi T2 192 9 ∧ WL S1 T2 m ∧ gi T2 204 m = gi T 204 m + 1 ∧ fr (XWC m) S S1 ∧ fr (XWR m) T T2 ∧ LGC m S S1 ∧ LGR m T T2)
theorem rw_end {S T : SS} {m : Nat} (hm : m < 40) {kf : SS → Option (Option Unit × SS)} {w2 w3 : Int64} {gc gr r : Int} {S1 : SS} {o : Option Unit} {T1 : SS} (hB : BF S T) (h5 : gi S 177 5 = gi T 192 10) (h4 : gi S 177 4 = gi T 192 11) (h0 : 0 ≤ gi T 192 11) (hN : gi T 192 11 ≤ gi T 192 9) (hW : WL S T m) (hgc : gc = 0 ∨ gc = 1) (hgr : gr = 0 ∨ gr = 1) (hg : gr = 1 ↔ gc = 1 ∧ gi T 192 11 - gi T 192 10 ≤ 8) (hw : gr = 1 → w2 = w3) (h1 : f_MarkReader_readWord_95 m S w2 gc = some (r, S1)) (h2 : f_M_readWords_204 (m : Int) kf T gr w3 = some (o, T1)) : WE S T m r S1 o T1 kf := by
  have tm : ((m : Int)).toNat = m := Int.toNat_natCast m
  have b114 : f_MarkReader_readWord_114 m S = some (r, S1) → r = 0 ∧ S1 = c_flt S 1 := by
    intro q
    unfold f_MarkReader_readWord_114 at q
    obtain ⟨a, t, e, q⟩ := w_b2E q
    obtain ⟨_, q⟩ := w_chkE q
    have w := c_refuse e
    cases q
    exact w
  have bad : ∀ kd, r = 0 ∧ S1 = c_flt S kd → o = none ∧ T1 = f_M_wrong T kd (gi T 192 10) → WE S T m r S1 o T1 kf := by
    intro kd a d
    refine .inl ⟨a.1, d.1, ?_, fun r k x => ?_, fun r k x => ?_, LGC_2 (by rw [a.2]; rfl), LGR_2 (by rw [d.2]; rfl)⟩
    · rw [a.2, d.2]; exact FE_flt h5
    · rw [a.2]; exact cf_3 S kd r k (by omega)
    · rw [d.2]; exact wf_192 T kd _ r k (by omega)
  unfold f_MarkReader_readWord_95 at h1
  unfold f_M_readWords_204 at h2
  rw [tm] at h2
  rcases hgr with g | g
  · rw [if_pos g] at h2
    unfold w_lt at h2
    cases h2
    refine bad 1 ?_ ⟨rfl, rfl⟩
    by_cases c : gc = 0
    · rw [if_pos c] at h1; exact b114 h1
    · rw [if_neg c] at h1
      obtain ⟨_, h1⟩ := w_chkE h1
      rw [if_neg (fun q => by have := hg.2 ⟨by omega, by omega⟩; omega)] at h1
      exact b114 h1
  · have hg' := hg.1 g
    rw [if_neg (by omega)] at h2
    obtain ⟨_, h2⟩ := w_chkE h2
    rw [if_neg (by omega)] at h1
    obtain ⟨_, h1⟩ := w_chkE h1
    rw [if_pos (by omega)] at h1
    obtain ⟨l1, l2, l3, l4⟩ := hW
    by_cases c : gi T 204 m = 6
    · rw [if_pos c] at h2
      unfold w_lt at h2
      cases h2
      rw [if_neg (by omega)] at h1
      obtain ⟨a, t, e, h1⟩ := w_b2E h1
      obtain ⟨_, h1⟩ := w_chkE h1
      have w := c_refuse e
      cases h1
      exact bad 3 w ⟨rfl, rfl⟩
    · rw [if_neg c] at h2
      rw [if_pos (by omega)] at h1
      obtain ⟨S5, e5, h1⟩ := w_b1E h1
      cases h1
      have eS := sh_add e5 (by omega) (by rw [cap_m m hm]; omega)
      obtain ⟨_, h2⟩ := w_chkE h2
      obtain ⟨_, h2⟩ := w_chkE h2
      obtain ⟨_, h2⟩ := w_chkE h2
      obtain ⟨_, h2⟩ := w_chkE h2
      unfold w_lt at h2
      obtain ⟨_, h2⟩ := w_chkE h2
      obtain ⟨_, h2⟩ := w_chkE h2
      obtain ⟨_, h2⟩ := w_chkE h2
      have ei : (6 * (m : Int) + gi T 204 m).toNat = 6 * m + (gi T 204 m).toNat := by omega
      rw [ei] at h2
      have eg : gi (sl T 206 (6 * m + (gi T 204 m).toNat) w3) 204 m = gi T 204 m := rfl
      rw [eg] at h2
      have cS : ∀ r k, ¬ (r = 14 + 4 * m + 2 ∧ k = 1) → gi S1 r k = gi S r k := fun r k a => by rw [eS, gi_off a]; rfl
      have cT : ∀ r k, ¬ (r = 204 ∧ k = m) → gi (si (sl T 206 (6 * m + (gi T 204 m).toNat) w3) 204 m (gi T 204 m + 1)) r k = gi T r k := fun r k a => by rw [gi_off a]; rfl
      refine .inr ⟨_, rfl, h2, BF_keep hB (fun k => ⟨cS 1 1 (by omega), cS 2 k (by omega)⟩) (fun k => ⟨cT 192 9 (by omega), cT 197 k (by omega)⟩), ?_, ?_, ?_, ⟨?_, ?_, ?_, fun k hk => ?_⟩, gi_at _ _ _ _, fun r k a => cS r k (by omega), fun r k a => cT r k (by omega), fun r k a => ?_, fun r k a => ?_⟩
      · rw [cS 177 4 (by omega), cT 192 11 (by omega)]; exact h4
      · rw [cT 192 11 (by omega)]; exact h0
      · rw [cT 192 11 (by omega), cT 192 9 (by omega)]; exact hN
      · rw [gi_at, eS, gi_at, l1]
      · rw [gi_at]; omega
      · rw [gi_at]; omega
      · rw [gi_at] at hk
        have gS : gl S1 (14 + 4 * m + 2 + 1) k = gl (sl S (14 + 4 * m + 2 + 1) (gi S (14 + 4 * m + 2) 1).toNat w2) (14 + 4 * m + 2 + 1) k := by rw [eS]; rfl
        have gT : gl (si (sl T 206 (6 * m + (gi T 204 m).toNat) w3) 204 m (gi T 204 m + 1)) 206 (6 * m + k) = gl (sl T 206 (6 * m + (gi T 204 m).toNat) w3) 206 (6 * m + k) := rfl
        rw [gS, gT, gl_slN, gl_slN, l1]
        by_cases e : k = (gi T 204 m).toNat
        · rw [if_pos ⟨rfl, e⟩, if_pos ⟨rfl, by omega⟩]; exact hw g
        · rw [if_neg (fun q => e q.2), if_neg (fun q => e (by omega))]
          exact l4 k (by omega)
      · have gS : gl S1 r k = gl (sl S (14 + 4 * m + 2 + 1) (gi S (14 + 4 * m + 2) 1).toNat w2) r k := by rw [eS]; rfl
        rw [gS, gl_slN, if_neg (fun q => a q.1)]
      · have gT : gl (si (sl T 206 (6 * m + (gi T 204 m).toNat) w3) 204 m (gi T 204 m + 1)) r k = gl (sl T 206 (6 * m + (gi T 204 m).toNat) w3) r k := rfl
        rw [gT, gl_slN, if_neg (fun q => a ⟨q.1, by omega, by omega⟩)]
/-- a word of both sides -/
theorem rw_word {m : Nat} (hm : m < 40) (kf : SS → Option (Option Unit × SS)) : ∀ (n1 n2 : Nat) (S T : SS) (w2 w3 : Int64) (gc gr v r : Int) (S1 : SS) (o : Option Unit) (T1 : SS), BF S T → gi S 177 5 = gi T 192 10 → gi S 177 4 = gi T 192 11 → v = gi T 192 11 → 0 ≤ gi T 192 11 → gi T 192 11 ≤ gi T 192 9 → WL S T m → (gc = 0 ∨ gc = 1) → (gr = 0 ∨ gr = 1) → (gr = 1 ↔ gc = 1 ∧ gi T 192 11 - gi T 192 10 ≤ 8) → (gr = 1 → w2 = w3) → f_MarkReader_readWord_11 m n1 S w2 gc v = some (r, S1) → f_M_readWords_96 (m : Int) kf n2 T gr w3 = some (o, T1) → WE S T m r S1 o T1 kf := by
  intro n1
  induction n1 with
  | zero => intro n2 S T w2 w3 gc gr v r S1 o T1 _ _ _ _ _ _ _ _ _ _ _ h1; exact absurd h1 (by simp [f_MarkReader_readWord_11])
  | succ n1 ih =>
    intro n2 S T w2 w3 gc gr v r S1 o T1 hB h5 h4 hv h0 hN hW hgc hgr hg hw h1 h2
    cases n2 with
    | zero => exact absurd h2 (by simp [f_M_readWords_96])
    | succ n2 =>
      have h1 : f_MarkReader_readWord_11_b m (f_MarkReader_readWord_11 m n1) S w2 gc v = some (r, S1) := h1
      have h2 : f_M_readWords_96_b (m : Int) kf (f_M_readWords_96 (m : Int) kf n2) T gr w3 = some (o, T1) := h2
      unfold f_MarkReader_readWord_11_b at h1
      unfold f_M_readWords_96_b at h2
      obtain ⟨_, h1⟩ := w_chkE h1
      have e9 := hB.1
      have b9 := hB.2.2.1
      have E := rw_end hm hB h5 h4 h0 hN hW hgc hgr hg hw (kf := kf) (r := r) (S1 := S1) (o := o) (T1 := T1)
      by_cases c : gi T 192 9 ≤ gi T 192 11
      · rw [if_pos c] at h2
        rw [if_pos (by omega)] at h1
        exact E h1 h2
      · rw [if_neg c, w_b1_is (mby (T := T) (i := gi T 192 11) h0 (by omega) (by omega))] at h2
        rw [if_neg (by omega)] at h1
        obtain ⟨_, h1⟩ := w_chkE h1
        rw [hv, w_b1_is (cby (S := S) (i := gi T 192 11) h0 (by omega) (by omega)), (hB.2.2.2 (gi T 192 11).toNat (by omega)).1] at h1
        have b255 := andi255 (gi T 197 (gi T 192 11).toNat)
        have hx : f_M_byteAt T (gi T 192 11) = some (andi (gi T 197 (gi T 192 11).toNat) 255) := mby (T := T) (i := gi T 192 11) h0 (by omega) (by omega)
        generalize andi (gi T 197 (gi T 192 11).toNat) 255 = ch at h1 h2 b255 hx
        have ebl : f_M_isBlank T ch = f_MP_isBlank S ch := rfl
        rw [ebl] at h2
        by_cases c2 : f_MP_isBlank S ch = 0
        · rw [if_pos c2] at h1 h2
          rw [w_b1_is hx] at h2
          by_cases c3 : ch = 59
          · rw [if_pos c3] at h1 h2
            exact E h1 h2
          · rw [if_neg c3] at h1 h2
            have step : ∀ (gc' gr' : Int) (w3' : Int64), (gc' = 0 ∨ gc' = 1) → (gr' = 0 ∨ gr' = 1) → (gr' = 1 ↔ gc' = 1 ∧ gi T 192 11 + 1 - gi T 192 10 ≤ 8) → (gr' = 1 → (lsh w2 8 ||| i2l ch) = w3') → f_MarkReader_readWord_70 m (f_MarkReader_readWord_11 m n1) S w2 (gi T 192 11) ch gc' = some (r, S1) → f_M_readWords_191 (m : Int) kf (f_M_readWords_96 (m : Int) kf n2) T gr' w3' = some (o, T1) → WE S T m r S1 o T1 kf := by
              intro gc' gr' w3' a1 a2 a3 a4 k1 k2
              unfold f_MarkReader_readWord_70 at k1
              unfold f_M_readWords_191 at k2
              obtain ⟨_, k1⟩ := w_chkE k1
              obtain ⟨_, k2⟩ := w_chkE k2
              unfold w_lt at k1 k2
              obtain ⟨_, k1⟩ := w_chkE k1
              have cS : ∀ r k, ¬ (r = 177 ∧ k = 4) → gi (si S 177 4 (gi T 192 11 + 1)) r k = gi S r k := fun r k a => gi_off a
              have cT : ∀ r k, ¬ (r = 192 ∧ k = 11) → gi (si T 192 11 (gi T 192 11 + 1)) r k = gi T r k := fun r k a => gi_off a
              have n11 : gi (si T 192 11 (gi T 192 11 + 1)) 192 11 = gi T 192 11 + 1 := gi_at _ _ _ _
              have R := ih n2 (si S 177 4 (gi T 192 11 + 1)) (si T 192 11 (gi T 192 11 + 1)) (lsh w2 8 ||| i2l ch) w3' gc' gr' (gi T 192 11 + 1) r S1 o T1 (BF_keep hB (fun k => ⟨cS 1 1 (by omega), cS 2 k (by omega)⟩) (fun k => ⟨cT 192 9 (by omega), cT 197 k (by omega)⟩)) (by rw [cS 177 5 (by omega), cT 192 10 (by omega)]; exact h5) (by rw [n11, gi_at]) n11.symm (by rw [n11]; omega) (by rw [n11, cT 192 9 (by omega)]; omega) (WL_keep hW (cS _ 1 (by omega)) (cT 204 m (by omega)) (fun k => rfl) (fun k => rfl)) a1 a2 (by rw [n11, cT 192 10 (by omega)]; exact a3) a4 k1 k2
              have fS : fr (XWC m) S (si S 177 4 (gi T 192 11 + 1)) := fun r k a => cS r k (by omega)
              have fT : fr (XWR m) T (si T 192 11 (gi T 192 11 + 1)) := fun r k a => cT r k (by omega)
              rcases R with ⟨x1, x2, x3, x4, x5, x6, x7⟩ | ⟨T2, x1, x2, x3, x4, x5, x6, x7, x8, x9, x10, x11, x12⟩
              · exact .inl ⟨x1, x2, x3, fr_trans fS x4, fr_trans fT x5, LGC_t (LGC_2 rfl) x6, LGR_t (LGR_2 rfl) x7⟩
              · exact .inr ⟨T2, x1, x2, x3, x4, x5, x6, x7, by rw [x8, cT 204 m (by omega)], fr_trans fS x9, fr_trans fT x10, LGC_t (LGC_2 rfl) x11, LGR_t (LGR_2 rfl) x12⟩
            have g0 : ∀ gc', (gc' = 0 ∨ (gc' = 1 ∧ 8 ≤ gi T 192 11 - gi T 192 10)) → f_MarkReader_readWord_70 m (f_MarkReader_readWord_11 m n1) S w2 (gi T 192 11) ch gc' = some (r, S1) → f_M_readWords_170 (m : Int) kf (f_M_readWords_96 (m : Int) kf n2) T w3 = some (o, T1) → WE S T m r S1 o T1 kf := by
              intro gc' a k1 k2
              unfold f_M_readWords_170 f_M_readWords_171 at k2
              rw [if_pos rfl] at k2
              exact step gc' 0 w3 (by omega) (.inl rfl) (by omega) (fun q => absurd q (by decide)) k1 k2
            by_cases c4 : gc = 0
            · have gr0 : gr = 0 := by
                rcases hgr with q | q
                · exact q
                · have := hg.1 q; omega
              rw [if_pos c4] at h1
              rw [if_pos gr0] at h2
              unfold f_MarkReader_readWord_69 at h1
              exact g0 0 (.inl rfl) h1 h2
            · have gc1 : gc = 1 := by omega
              rw [if_neg c4, w_b1_is (ow_eq S T ch b255)] at h1
              by_cases c5 : f_M_isOfWord T ch = 0
              · rw [if_pos c5] at h1
                unfold f_MarkReader_readWord_69 at h1
                by_cases c6 : gr = 0
                · rw [if_pos c6] at h2
                  exact g0 0 (.inl rfl) h1 h2
                · rw [if_neg c6, w_b1_is hx, if_pos c5] at h2
                  exact g0 0 (.inl rfl) h1 h2
              · rw [if_neg c5] at h1
                by_cases c6 : gr = 0
                · rw [if_pos c6] at h2
                  have : ¬ (gi T 192 11 - gi T 192 10 ≤ 8) := fun q => by have := hg.2 ⟨gc1, q⟩; omega
                  exact g0 1 (.inr ⟨rfl, by omega⟩) h1 h2
                · have gr1 : gr = 1 := by omega
                  rw [if_neg c6, w_b1_is hx, if_neg c5] at h2
                  obtain ⟨_, h2⟩ := w_chkE h2
                  by_cases c7 : 8 ≤ gi T 192 11 - gi T 192 10
                  · rw [if_pos c7] at h2
                    exact g0 1 (.inr ⟨rfl, c7⟩) h1 h2
                  · rw [if_neg c7] at h2
                    unfold f_M_readWords_171 at h2
                    rw [if_neg (by decide), w_b1_is hx] at h2
                    exact step 1 1 _ (.inr rfl) (.inr rfl) (by omega) (fun _ => by rw [hw gr1]) h1 h2
        · rw [if_neg c2] at h1 h2
          exact E h1 h2
