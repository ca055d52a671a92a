theorem semi_is : tc_ln 12 = 1 ∧ tc_ch 12 0 = 59 := by decide +kernel
/-- a line's words: both fault alike, or both are behind the line's end -/
def WQ (S T : SS) (m : Nat) (r : Int) (S' : SS) (o : Option Unit) (T1 : SS) : Prop :=
  (r = 0 ∧ o = none ∧ FE S' T1 ∧ fr (XWC m) S S' ∧ fr (XWR m) T T1 ∧ LGC m S S' ∧ LGR m T T1) ∨ (r = 1 ∧ o = some () ∧ AH S' T1 ∧ WL S' T1 m ∧ fr (XWC m) S S' ∧ fr (XWR m) T T1 ∧ LGC m S S' ∧ LGR m T T1)
theorem rw_sim {m : Nat} (hm : m < 40) : ∀ (n1 n2 : Nat) (S T : SS) (v r : Int) (S' : SS) (o' o : Option Unit) (T1' T1 : SS), BF S T → gi S 177 4 = gi T 192 11 → 0 ≤ gi T 192 11 → gi T 192 11 ≤ gi T 192 9 → WL S T m → v = gi T 204 m → f_MarkReader_readWords_2 m n1 S v = some (r, S') → f_M_readWords_19 (m : Int) n2 T = some (o', T1') → ((o' = none ∧ o = none ∧ T1 = T1') ∨ (∃ u, o' = some u ∧ f_M_readLine_505 (m : Int) T1' = some (o, T1))) → WQ S T m r S' o T1 := by
  intro n1
  induction n1 with
  | zero => intro n2 S T v r S' o' o T1' T1 _ _ _ _ _ _ h1; exact absurd h1 (by simp [f_MarkReader_readWords_2])
  | succ n1 ih =>
    intro n2 S T v r S' o' o T1' T1 hB h4 h0 hN hW hv h1 h2 h3
    have tm : ((m : Int)).toNat = m := Int.toNat_natCast m
    have e9 := hB.1
    have b9 := hB.2.2.1
    have w6 := hW.2.2.1
    have w0 := hW.2.1
    have h1 : f_MarkReader_readWords_2_b m (f_MarkReader_readWords_2 m n1) S v = some (r, S') := h1
    unfold f_MarkReader_readWords_2_b at h1
    rw [if_neg (by omega)] at h1
    obtain ⟨Sa, ea, h1⟩ := w_b1E h1
    have ea : f_MarkReader_skipBlanks_5 FU S (gi S 177 4) = some Sa := ea
    obtain ⟨f1, p1, p2, p3, p4⟩ := tk_skip S (gi S 177 4) b9 FU S (gi S 177 4) (by omega) (Int.le_refl _) (by omega) rfl (FX_refl _ S) (fun j a d => by omega) Sa ea
    have la := lq_skip S FU S _ rfl Sa ea
    unfold w_lt at h1
    have gSb : ∀ r k, ¬ (r = 177 ∧ (k = 4 ∨ k = 5)) → gi (si Sa 177 5 (gi Sa 177 4)) r k = gi S r k := fun r k a => by rw [gi_off (by omega)]; exact f1.1 r k (by omega)
    have s5 : gi (si Sa 177 5 (gi Sa 177 4)) 177 5 = gi Sa 177 4 := gi_at _ _ _ _
    have s4 : gi (si Sa 177 5 (gi Sa 177 4)) 177 4 = gi Sa 177 4 := gi_off (by omega)
    have lb : (si Sa 177 5 (gi Sa 177 4)).2 = S.2 := la
    generalize si Sa 177 5 (gi Sa 177 4) = Sb at h1 gSb s5 s4 lb
    obtain ⟨_, h1⟩ := w_chkE h1
    obtain ⟨n', T', a1, a2, a3, a4, a5, a6, a7⟩ := rw_skip (m : Int) (gi T 192 9) n2 T o' T1' rfl (by omega) h0 hN h2
    have es : gi Sa 177 4 = gi T' 192 11 := by
      refine skip_one (b := mby_ T) (N := gi T 192 9) (p := gi T 192 11) ⟨by omega, by omega⟩ ⟨a4, a5⟩ (fun j x y => ?_) a6 ?_ a7
      · rw [← BF_by hB j (by omega) (by omega)]; exact p3 j (by omega) y
      · rcases p4 with q | q
        · left; omega
        · by_cases c : gi Sa 177 4 = gi T 192 9
          · exact .inl c
          · right; rw [← BF_by hB _ (by omega) (by omega)]; exact q
    unfold f_M_readWords_57 w_lt at a1
    have gTb : ∀ r k, ¬ (r = 192 ∧ (k = 10 ∨ k = 11)) → gi (si T' 192 10 (gi T' 192 11)) r k = gi T r k := fun r k a => by rw [gi_off (by omega)]; exact a3 r k (by omega)
    have t10 : gi (si T' 192 10 (gi T' 192 11)) 192 10 = gi T' 192 11 := gi_at _ _ _ _
    have t11 : gi (si T' 192 10 (gi T' 192 11)) 192 11 = gi T' 192 11 := gi_off (by omega)
    have lt : (si T' 192 10 (gi T' 192 11)).2 = T.2 := a2
    generalize si T' 192 10 (gi T' 192 11) = Tb at a1 gTb t10 t11 lt
    dsimp only at a1
    rw [← es] at t10 t11 a4 a5 a6 a7
    generalize gi Sa 177 4 = s at s5 s4 p1 p2 p3 p4 es t10 t11 a4 a5 a6 a7
    have t9 : gi Tb 192 9 = gi T 192 9 := gTb 192 9 (by omega)
    have B2 : BF Sb Tb := BF_keep hB (fun k => ⟨gSb 1 1 (by omega), gSb 2 k (by omega)⟩) (fun k => ⟨t9, gTb 197 k (by omega)⟩)
    have W2 : WL Sb Tb m := WL_keep hW (gSb _ 1 (by omega)) (gTb 204 m (by omega)) (fun k => gl_2 lb _ k) (fun k => gl_2 lt _ k)
    have fS : fr (XWC m) S Sb := fun r k a => gSb r k (by omega)
    have fT : fr (XWR m) T Tb := fun r k a => gTb r k (by omega)
    have b47 : f_MarkReader_readWords_47 m Sb = some (r, S') → r = 0 ∧ S' = c_flt Sb 1 := by
      intro q
      unfold f_MarkReader_readWords_47 at q
      obtain ⟨a, t, e, q⟩ := w_b2E q
      obtain ⟨_, q⟩ := w_chkE q
      have w := c_refuse e
      cases q
      exact w
    have bad : ∀ Tc, gi Tc 192 10 = s → fr (XWR m) T Tc → Tc.2 = T.2 → r = 0 ∧ S' = c_flt Sb 1 → o = none ∧ T1 = f_M_wrong Tc 1 (gi Tc 192 10) → WQ S T m r S' o T1 := by
      intro Tc e10 fc lc a d
      refine .inl ⟨a.1, d.1, ?_, fun r k x => ?_, fun r k x => ?_, LGC_2 (by rw [a.2]; exact lb), LGR_2 (by rw [d.2]; exact lc)⟩
      · rw [a.2, d.2]; exact FE_flt (s5.trans e10.symm)
      · rw [a.2, cf_3 Sb 1 r k (by omega)]; exact fS r k x
      · rw [d.2, wf_192 Tc 1 _ r k (by omega)]; exact fc r k x
    have h269 : f_M_readWords_269 (m : Int) Tb = some (o', T1') → (gi T 204 m = 0 ∧ o = none ∧ T1 = f_M_wrong Tb 1 (gi Tb 192 10)) ∨ (gi T 204 m ≠ 0 ∧ f_M_scan Tb = some T1' ∧ f_M_readLine_505 (m : Int) T1' = some (o, T1)) := by
      intro q
      unfold f_M_readWords_269 at q
      rw [tm, gTb 204 m (by omega)] at q
      obtain ⟨_, q⟩ := w_chkE q
      by_cases c : gi T 204 m = 0
      · rw [if_pos c] at q
        unfold w_lt at q
        cases q
        rcases h3 with z | ⟨u, z, _⟩
        · exact .inl ⟨c, z.2.1, z.2.2⟩
        · cases z
      · rw [if_neg c] at q
        obtain ⟨Tc, ec, q⟩ := w_b1E q
        cases q
        rcases h3 with z | ⟨u, z, z2⟩
        · cases z.1
        · exact .inr ⟨c, ec, z2⟩
    by_cases c : s = gi T 192 9
    · -- the text's end
      have eb : f_Tape_byteAt Sb (gi Sb 177 4) = some (-1) := by
        have := gSb 1 1 (by omega)
        unfold f_Tape_byteAt
        rw [if_neg (by omega), if_pos (by omega)]
      rw [w_b1_is eb, if_pos rfl] at h1
      rw [if_pos (by omega)] at a1
      rcases h269 a1 with q | ⟨q1, q2, q3⟩
      · exact bad Tb t10 fT lt (b47 h1) q.2
      · obtain ⟨g1, g2, g3⟩ := mk_scan Tb ⟨by omega, by omega⟩ (by omega) T1' q2
        have e10 : gi T1' 192 10 = s := by have := g2.1; have := g2.2.1; omega
        have hh := g3.1 (by omega)
        unfold f_M_readLine_505 at q3
        obtain ⟨x, ex, q3⟩ := w_b1E q3
        have x0 : x = 0 := by
          rcases isM T1' 12 x ex with z | z
          · exact z.1
          · have := z.2.1.1; omega
        rw [if_pos x0] at q3
        unfold w_lt at q3
        cases q3
        exact bad T1' e10 (fr_trans fT (fun r k a => g1 r k (by omega))) ((lq_scan Tb T1' q2).trans lt) (b47 h1) ⟨rfl, rfl⟩
    · have hlt : s < gi T 192 9 := by omega
      have q197 := hB.2.2.2 s.toNat (by omega)
      have eb : f_Tape_byteAt Sb (gi Sb 177 4) = some (mby_ T s) := by
        have := gSb 1 1 (by omega)
        rw [s4, cby (S := Sb) (i := s) (by omega) (by omega) (by omega), gSb 2 _ (by omega), q197.1]; rfl
      have et : f_M_byteAt Tb (gi Tb 192 11) = some (mby_ T s) := by
        rw [t11, mby (T := Tb) (i := s) (by omega) (by omega) (by omega), gTb 197 _ (by omega)]; rfl
      have b255 : 0 ≤ mby_ T s ∧ mby_ T s ≤ 255 := andi255 _
      have nb : ¬ t_bl (mby_ T s) := by
        rcases a7 with q | q
        · exact absurd q c
        · exact q
      rw [w_b1_is eb, if_neg (by omega)] at h1
      rw [if_neg (by omega), w_b1_is et] at a1
      by_cases c2 : mby_ T s = 59
      · rw [if_pos c2] at h1 a1
        rcases h269 a1 with q | ⟨q1, q2, q3⟩
        · rw [if_pos (by omega)] at h1
          exact bad Tb t10 fT lt (b47 h1) q.2
        · rw [if_neg (by omega)] at h1
          unfold f_MarkReader_readWords_53 at h1
          rw [if_pos c2] at h1
          obtain ⟨_, h1⟩ := w_chkE h1
          unfold w_lt at h1
          obtain ⟨g1, g2, g3⟩ := mk_scan Tb ⟨by omega, by omega⟩ (by omega) T1' q2
          have mb : mby_ Tb s = mby_ T s := by unfold mby_; rw [gTb 197 _ (by omega)]
          rw [t9, t11] at g2
          rw [t9] at g3
          obtain ⟨u1, u2, u3, u4⟩ := g2
          have e10 : gi T1' 192 10 = s := by
            by_cases cc : s < gi T1' 192 10
            · have := u3 s (Int.le_refl _) cc
              rw [mb] at this
              exact absurd this nb
            · omega
          rw [e10] at u4 g3
          have cl : t_cls (mby_ Tb s) = 0 := by rw [mb, c2]; decide
          have e11 : gi T1' 192 11 = s + 1 := by
            rcases u4 with q | q
            · omega
            · rcases q.2.2.2.2 with z | z
              · exact z.2
              · exact absurd cl z.1
          have hd : gi T1' 192 12 = 3 := by
            rcases (g3.2 hlt).2.2 cl with z | z
            · exact z.1
            · exact absurd (.inr (.inr (by rw [mb]; exact c2))) z.2
          unfold f_M_readLine_505 at q3
          obtain ⟨x, ex, q3⟩ := w_b1E q3
          have x1 : x ≠ 0 := by
            rcases isM T1' 12 x ex with z | z
            · intro _
              refine z.2 ⟨⟨.inr hd, by rw [e10, e11, semi_is.1]; omega⟩, fun j hj => ?_⟩
              rw [semi_is.1] at hj
              have : j = 0 := by omega
              subst this
              rw [semi_is.2, e10, show s + ((0 : Nat) : Int) = s by omega, g1 197 _ (by omega), gTb 197 _ (by omega)]
              exact (and_raw _ 59 q197.2 (by omega)).1 c2
            · omega
          rw [if_neg x1] at q3
          obtain ⟨Td, ed, q3⟩ := w_b1E q3
          have e9' : gi T1' 192 9 = gi T 192 9 := by rw [g1 192 9 (by omega)]; exact t9
          obtain ⟨k1, k2, k3⟩ := mk_scan T1' ⟨by omega, by omega⟩ (by omega) Td ed
          have l1 := lq_scan Tb T1' q2
          have l2 := lq_scan T1' Td ed
          cases h1
          cases q3
          have d9 : gi T1 192 9 = gi T1' 192 9 := k1 192 9 (by omega)
          have db : mby_ T1 = mby_ T1' := by funext j; unfold mby_; rw [k1 197 _ (by omega)]
          refine .inr ⟨rfl, rfl, ?_, WL_keep W2 (gi_off (by omega)) ?_ (fun k => rfl) (fun k => gl_2 (l2.trans l1) _ k), fun r k a => ?_, fun r k a => ?_, LGC_2 lb, LGR_2 ((l2.trans l1).trans lt)⟩
          · unfold AH
            rw [gi_at, s4, d9, db, ← e11]
            exact ⟨by omega, by omega, k2, k3⟩
          · rw [k1 204 m (by omega), g1 204 m (by omega)]
          · rw [gi_off (by omega)]; exact fS r k a
          · rw [k1 r k (by omega), g1 r k (by omega)]; exact fT r k a
      · rw [if_neg c2] at h1 a1
        unfold f_MarkReader_readWords_53 at h1
        rw [if_neg c2] at h1
        obtain ⟨rr, S1, e1, h1⟩ := w_b2E h1
        have e1 : f_MarkReader_readWord_11 m FU Sb 0 1 (gi Sb 177 5) = some (rr, S1) := e1
        have R := rw_word hm (f_M_readWords_19 (m : Int) n') FU FU Sb Tb 0 0 1 1 (gi Sb 177 5) rr S1 o' T1' B2 (by omega) (by omega) (by omega) (by omega) (by omega) W2 (.inr rfl) (.inr rfl) (by omega) (fun _ => rfl) e1 a1
        rcases R with ⟨x1, x2, x3, x4, x5, x6, x7⟩ | ⟨T2, x1, x2, x3, x4, x5, x6, x7, x8, x9, x10, x11, x12⟩
        · rw [if_pos x1] at h1
          cases h1
          rcases h3 with z | ⟨u, z, _⟩
          · exact .inl ⟨rfl, z.2.1, by rw [z.2.2]; exact x3, fr_trans fS x4, by rw [z.2.2]; exact fr_trans fT x5, LGC_t (LGC_2 lb) x6, by rw [z.2.2]; exact LGR_t (LGR_2 lt) x7⟩
          · rw [x2] at z; cases z
        · rw [if_neg (by omega)] at h1
          obtain ⟨_, h1⟩ := w_chkE h1
          have g204 := gTb 204 m (by omega)
          have R := ih n' S1 T2 (v + 1) r S' o' o T1' T1 x3 x4 x5 x6 x7 (by omega) h1 x2 h3
          rcases R with ⟨y1, y2, y3, y4, y5, y6, y7⟩ | ⟨y1, y2, y3, y4, y5, y6, y7, y8⟩
          · exact .inl ⟨y1, y2, y3, fr_trans fS (fr_trans x9 y4), fr_trans fT (fr_trans x10 y5), LGC_t (LGC_2 lb) (LGC_t x11 y6), LGR_t (LGR_2 lt) (LGR_t x12 y7)⟩
          · exact .inr ⟨y1, y2, y3, y4, fr_trans fS (fr_trans x9 y5), fr_trans fT (fr_trans x10 y6), LGC_t (LGC_2 lb) (LGC_t x11 y7), LGR_t (LGR_2 lt) (LGR_t x12 y8)⟩
/-- a mark made blank -/
def CLR (S S1 : SS) (j : Nat) : Prop := S1.2 = S.2 ∧ (∀ r k, ¬ (r = 14 + 4 * j ∧ (k = 2 ∨ k = 3 ∨ 7 ≤ k)) → ¬ (r = 14 + 4 * j + 1) → ¬ (r = 14 + 4 * j + 2 ∧ k = 1) → gi S1 r k = gi S r k) ∧ gi S1 (14 + 4 * j + 1) 0 = -1 ∧ gi S1 (14 + 4 * j + 1) 1 = -1 ∧ gi S1 (14 + 4 * j + 1) 2 = -1 ∧ gi S1 (14 + 4 * j + 2) 1 = 0 ∧ gi S1 (14 + 4 * j) 7 = 0 ∧ gi S1 (14 + 4 * j) 8 = 0 ∧ gi S1 (14 + 4 * j) 9 = 0 ∧ gi S1 (14 + 4 * j) 10 = -1
theorem clear_n {S S1 : SS} {j n : Nat} (h : f_Mark_clear_2 j (n + 4) S 0 = some S1) : CLR S S1 j := by
  have h : f_Mark_clear_2_b j (f_Mark_clear_2 j (n + 3)) S 0 = some S1 := h
  unfold f_Mark_clear_2_b w_lt at h
  rw [if_neg (by decide)] at h
  obtain ⟨_, h⟩ := w_chkE h
  obtain ⟨_, h⟩ := w_chkE h
  have h : f_Mark_clear_2_b j (f_Mark_clear_2 j (n + 2)) (si S (14 + 4 * j + 1) 0 (-1)) 1 = some S1 := h
  unfold f_Mark_clear_2_b w_lt at h
  rw [if_neg (by decide)] at h
  obtain ⟨_, h⟩ := w_chkE h
  obtain ⟨_, h⟩ := w_chkE h
  have h : f_Mark_clear_2_b j (f_Mark_clear_2 j (n + 1)) (si (si S (14 + 4 * j + 1) 0 (-1)) (14 + 4 * j + 1) 1 (-1)) 2 = some S1 := h
  unfold f_Mark_clear_2_b w_lt at h
  rw [if_neg (by decide)] at h
  obtain ⟨_, h⟩ := w_chkE h
  obtain ⟨_, h⟩ := w_chkE h
  have h : f_Mark_clear_2_b j (f_Mark_clear_2 j n) (si (si (si S (14 + 4 * j + 1) 0 (-1)) (14 + 4 * j + 1) 1 (-1)) (14 + 4 * j + 1) 2 (-1)) 3 = some S1 := h
  unfold f_Mark_clear_2_b at h
  rw [if_pos (by decide)] at h
  have h : some (si (si (si (si (si (si (si (si (si (si (si (si S (14 + 4 * j + 1) 0 (-1)) (14 + 4 * j + 1) 1 (-1)) (14 + 4 * j + 1) 2 (-1)) (14 + 4 * j + 2) 1 0) (14 + 4 * j) 2 0) (14 + 4 * j) 3 0) (14 + 4 * j) 7 0) (14 + 4 * j) 8 0) (14 + 4 * j) 9 0) (14 + 4 * j) 10 (-1)) (14 + 4 * j) 11 0) (14 + 4 * j) 12 (-1)) = some S1 := h
  have h := (Option.some.inj h).symm
  subst h
  refine ⟨rfl, fun r k a1 a2 a3 => ?_, ?_, ?_, ?_, ?_, ?_, ?_, ?_, ?_⟩
  · rw [gi_off (by omega), gi_off (by omega), gi_off (by omega), gi_off (by omega), gi_off (by omega), gi_off (by omega), gi_off (by omega), gi_off (by omega), gi_off (by omega), gi_off (by omega), gi_off (by omega), gi_off (by omega)]
  · rw [gi_off (by omega), gi_off (by omega), gi_off (by omega), gi_off (by omega), gi_off (by omega), gi_off (by omega), gi_off (by omega), gi_off (by omega), gi_off (by omega), gi_off (by omega), gi_off (by omega), gi_at]
  · rw [gi_off (by omega), gi_off (by omega), gi_off (by omega), gi_off (by omega), gi_off (by omega), gi_off (by omega), gi_off (by omega), gi_off (by omega), gi_off (by omega), gi_off (by omega), gi_at]
  · rw [gi_off (by omega), gi_off (by omega), gi_off (by omega), gi_off (by omega), gi_off (by omega), gi_off (by omega), gi_off (by omega), gi_off (by omega), gi_off (by omega), gi_at]
  · rw [gi_off (by omega), gi_off (by omega), gi_off (by omega), gi_off (by omega), gi_off (by omega), gi_off (by omega), gi_off (by omega), gi_off (by omega), gi_at]
  · rw [gi_off (by omega), gi_off (by omega), gi_off (by omega), gi_off (by omega), gi_off (by omega), gi_at]
  · rw [gi_off (by omega), gi_off (by omega), gi_off (by omega), gi_off (by omega), gi_at]
  · rw [gi_off (by omega), gi_off (by omega), gi_off (by omega), gi_at]
  · rw [gi_off (by omega), gi_off (by omega), gi_at]
theorem clear_is {S S1 : SS} {j : Nat} (h : f_Mark_clear S j = some S1) : CLR S S1 j := clear_n (n := 3996) h
/-- a mark's row and gap, as its numbers tell them -/
def PLC (S : SS) (j : Nat) : Prop :=
  gi S (14 + 4 * j) 4 = (if gi S (14 + 4 * j) 2 = 1 then 0 else if gi S (14 + 4 * j) 2 = 5 then 0 else gi S (14 + 4 * j + 1) 0) ∧
  gi S (14 + 4 * j) 5 = (if gi S (14 + 4 * j) 2 = 1 then -1 else if gi S (14 + 4 * j) 2 = 5 then -1 else if gi S (14 + 4 * j) 2 = 3 then gi S (14 + 4 * j + 1) 2 else gi S (14 + 4 * j + 1) 1) ∧
  gi S (14 + 4 * j) 6 = (if gi S (14 + 4 * j) 2 = 1 then gi S (14 + 4 * j + 1) 0 else if gi S (14 + 4 * j) 2 = 4 then gi S (14 + 4 * j + 1) 2 else -1)
theorem place_is {S S1 : SS} {j : Nat} (h : f_Mark_place S j = some S1) : PLC S1 j ∧ S1.2 = S.2 ∧ ∀ r k, ¬ (r = 14 + 4 * j ∧ 4 ≤ k ∧ k ≤ 6) → gi S1 r k = gi S r k := by
  have t0 : (0 : Int).toNat = 0 := rfl
  have t1 : (1 : Int).toNat = 1 := rfl
  have t2 : (2 : Int).toNat = 2 := rfl
  have key : ∀ a b c : Int, S1 = si (si (si (si S (14 + 4 * j) 4 a) (14 + 4 * j) 5 b) (14 + 4 * j) 6 (-1)) (14 + 4 * j) 6 c ∨ (c = -1 ∧ S1 = si (si (si S (14 + 4 * j) 4 a) (14 + 4 * j) 5 b) (14 + 4 * j) 6 (-1)) → gi S1 (14 + 4 * j) 4 = a ∧ gi S1 (14 + 4 * j) 5 = b ∧ gi S1 (14 + 4 * j) 6 = c ∧ S1.2 = S.2 ∧ ∀ r k, ¬ (r = 14 + 4 * j ∧ 4 ≤ k ∧ k ≤ 6) → gi S1 r k = gi S r k := by
    intro a b c e
    rcases e with e | ⟨e1, e⟩
    · subst e
      refine ⟨?_, ?_, ?_, rfl, fun r k x => ?_⟩
      · rw [gi_off (by omega), gi_off (by omega), gi_off (by omega), gi_at]
      · rw [gi_off (by omega), gi_off (by omega), gi_at]
      · rw [gi_at]
      · rw [gi_off (by omega), gi_off (by omega), gi_off (by omega), gi_off (by omega)]
    · subst e
      refine ⟨?_, ?_, ?_, rfl, fun r k x => ?_⟩
      · rw [gi_off (by omega), gi_off (by omega), gi_at]
      · rw [gi_off (by omega), gi_at]
      · rw [gi_at]; exact e1.symm
      · rw [gi_off (by omega), gi_off (by omega), gi_off (by omega)]
  have p65 : ∀ (Sx : SS) (b : Int), f_Mark_place_65 j Sx b = some S1 → (∀ r k, ¬ (r = 14 + 4 * j ∧ 4 ≤ k ∧ k ≤ 6) → gi Sx r k = gi S r k) → S1 = si (si (si Sx (14 + 4 * j) 5 b) (14 + 4 * j) 6 (-1)) (14 + 4 * j) 6 (if gi S (14 + 4 * j) 2 = 1 then gi S (14 + 4 * j + 1) 0 else if gi S (14 + 4 * j) 2 = 4 then gi S (14 + 4 * j + 1) 2 else -1) ∨ ((if gi S (14 + 4 * j) 2 = 1 then gi S (14 + 4 * j + 1) 0 else if gi S (14 + 4 * j) 2 = 4 then gi S (14 + 4 * j + 1) 2 else -1) = -1 ∧ S1 = si (si Sx (14 + 4 * j) 5 b) (14 + 4 * j) 6 (-1)) := by
    intro Sx b q fx
    unfold f_Mark_place_65 at q
    have q := w_ltX q
    have q := w_ltX q
    have ek : gi (si (si Sx (14 + 4 * j) 5 b) (14 + 4 * j) 6 (-1)) (14 + 4 * j) 2 = gi S (14 + 4 * j) 2 := by rw [gi_off (by omega), gi_off (by omega)]; exact fx _ 2 (by omega)
    have en : ∀ k, gi (si (si Sx (14 + 4 * j) 5 b) (14 + 4 * j) 6 (-1)) (14 + 4 * j + 1) k = gi S (14 + 4 * j + 1) k := fun k => by rw [gi_off (by omega), gi_off (by omega)]; exact fx _ k (by omega)
    rw [ek] at q
    unfold f_Mark_place_89 f_Mark_place_104 at q
    rw [ek] at q
    by_cases c1 : gi S (14 + 4 * j) 2 = 1
    · rw [if_pos c1, if_pos c1, w_b1_is (c_num (by omega)), t0, en] at q
      left
      rw [if_pos c1]
      exact (Option.some.inj (w_ltX q)).symm
    · rw [if_neg c1, if_neg c1] at q
      by_cases c4 : gi S (14 + 4 * j) 2 = 4
      · rw [if_pos c4, w_b1_is (c_num (by omega)), t2, en] at q
        left
        rw [if_neg c1, if_pos c4]
        exact (Option.some.inj (w_ltX q)).symm
      · rw [if_neg c4] at q
        right
        rw [if_neg c1, if_neg c4]
        exact ⟨rfl, (Option.some.inj q).symm⟩
  have fin : ∀ a b : Int, f_Mark_place_65 j (si S (14 + 4 * j) 4 a) b = some S1 → a = (if gi S (14 + 4 * j) 2 = 1 then 0 else if gi S (14 + 4 * j) 2 = 5 then 0 else gi S (14 + 4 * j + 1) 0) → b = (if gi S (14 + 4 * j) 2 = 1 then -1 else if gi S (14 + 4 * j) 2 = 5 then -1 else if gi S (14 + 4 * j) 2 = 3 then gi S (14 + 4 * j + 1) 2 else gi S (14 + 4 * j + 1) 1) → PLC S1 j ∧ S1.2 = S.2 ∧ ∀ r k, ¬ (r = 14 + 4 * j ∧ 4 ≤ k ∧ k ≤ 6) → gi S1 r k = gi S r k := by
    intro a b q ha hb
    obtain ⟨k1, k2, k3, k4, k5⟩ := key a b _ (p65 _ b q (fun r k x => gi_off (by omega)))
    refine ⟨?_, k4, k5⟩
    unfold PLC
    rw [k1, k2, k3, k5 (14 + 4 * j) 2 (by omega), k5 (14 + 4 * j + 1) 0 (by omega), k5 (14 + 4 * j + 1) 1 (by omega), k5 (14 + 4 * j + 1) 2 (by omega)]
    exact ⟨ha, hb, rfl⟩
  unfold f_Mark_place at h
  by_cases c1 : gi S (14 + 4 * j) 2 = 1
  · rw [if_pos c1] at h
    unfold f_Mark_place_20 f_Mark_place_21 at h
    rw [if_pos rfl] at h
    unfold f_Mark_place_36 at h
    have h := w_ltX h
    rw [if_pos rfl] at h
    exact fin 0 (-1) h (by rw [if_pos c1]) (by rw [if_pos c1])
  · rw [if_neg c1] at h
    by_cases c5 : gi S (14 + 4 * j) 2 = 5
    · rw [if_pos c5] at h
      unfold f_Mark_place_20 f_Mark_place_21 at h
      rw [if_pos rfl] at h
      unfold f_Mark_place_36 at h
      have h := w_ltX h
      rw [if_pos rfl] at h
      exact fin 0 (-1) h (by rw [if_neg c1, if_pos c5]) (by rw [if_neg c1, if_pos c5])
    · rw [if_neg c5] at h
      unfold f_Mark_place_21 at h
      rw [if_neg (by decide), w_b1_is (c_num (by omega)), t0] at h
      unfold f_Mark_place_36 at h
      have h := w_ltX h
      rw [if_neg (by decide), gi_off (by omega)] at h
      by_cases c3 : gi S (14 + 4 * j) 2 = 3
      · rw [if_pos c3] at h
        unfold f_Mark_place_58 at h
        rw [w_b1_is (c_num (by omega)), t2, gi_off (by omega)] at h
        exact fin _ _ h (by rw [if_neg c1, if_neg c5]) (by rw [if_neg c1, if_neg c5, if_pos c3])
      · rw [if_neg c3] at h
        unfold f_Mark_place_58 at h
        rw [w_b1_is (c_num (by omega)), t1, gi_off (by omega)] at h
        exact fin _ _ h (by rw [if_neg c1, if_neg c5]) (by rw [if_neg c1, if_neg c5, if_neg c3])
