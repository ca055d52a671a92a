theorem ow_all : ∀ n : Nat, n < 256 → f_MP_isOfWord SZ (n : Int) = some (f_M_isOfWord SZ (n : Int)) := by decide +kernel
theorem ioc_S (S : SS) (i0 : Nat) (v1 v2 v3 : Int) : ∀ (n : Nat) (a c : Int), f_indexOfChar_7 S i0 v1 v2 v3 n a c = f_indexOfChar_7 SZ i0 v1 v2 v3 n a c := by
  intro n
  induction n with
  | zero => intro a c; rfl
  | succ n ih =>
    intro a c
    show f_indexOfChar_7_b S i0 v1 v2 v3 (f_indexOfChar_7 S i0 v1 v2 v3 n) a c = f_indexOfChar_7_b SZ i0 v1 v2 v3 (f_indexOfChar_7 SZ i0 v1 v2 v3 n) a c
    unfold f_indexOfChar_7_b
    rw [ih]
theorem idx_S (S : SS) (i0 : Nat) (v : Int) : f_indexOf S i0 v = f_indexOf SZ i0 v := by
  unfold f_indexOf f_indexOf2 f_l1indexOf f_indexOfChar
  simp only [ioc_S S]
  rfl
theorem ow_eq (S T : SS) (v : Int) (h : 0 ≤ v ∧ v ≤ 255) : f_MP_isOfWord S v = some (f_M_isOfWord T v) := by
  have e := ow_all v.toNat (by omega)
  rw [show ((v.toNat : Nat) : Int) = v by omega] at e
  have e1 : f_MP_isOfWord S v = f_MP_isOfWord SZ v := by
    unfold f_MP_isOfWord f_MP_isOfWord_28
    rw [idx_S S]
    rfl
  rw [e1]
  exact e
theorem cby {S : SS} {i : Int} (h0 : 0 ≤ i) (h1 : i < gi S 1 1) (h2 : gi S 1 1 ≤ 2000) : f_Tape_byteAt S i = some (andi (gi S 2 i.toNat) 255) := by
  unfold f_Tape_byteAt
  rw [if_neg (by omega), if_neg (by omega), if_pos (by omega), w_chkP (by omega)]
theorem mby {T : SS} {i : Int} (h0 : 0 ≤ i) (h1 : i < gi T 192 9) (h2 : gi T 192 9 ≤ 2000) : f_M_byteAt T i = some (andi (gi T 197 i.toNat) 255) := by
  unfold f_M_byteAt
  rw [if_neg (by omega), w_chkP (by omega)]
theorem sh_add {S S1 : SS} {q : Nat} {w : Int64} (h : f_Sheet_add S q w = some S1) (h0 : 0 ≤ gi S q 1) (h1 : gi S q 1 < cap q) : S1 = si (sl S (q + 1) (gi S q 1).toNat w) q 1 (gi S q 1 + 1) := by
  unfold f_Sheet_add at h
  rw [if_neg (by omega), if_neg (by omega)] at h
  obtain ⟨_, h⟩ := w_chkE h
  unfold w_lt at h
  obtain ⟨_, h⟩ := w_chkE h
  cases h
  rfl
/-- the tape that is being read is alike -/
def TB (S T : SS) : Prop := gi S 1 1 = gi T 192 9 ∧ gi S 1 1 ≤ 2000 ∧ ∀ k : Nat, (k : Int) < gi S 1 1 → gi S 2 k = gi T 197 k
def FE (S T : SS) : Prop := gi S 3 0 = gi T 192 14 ∧ gi S 3 1 = gi T 192 15
/-- the sheet that is being read is alike, its last word still open when len is above 0 -/
def SR (S T : SS) (w : Int64) (len cnt most : Int) : Prop := 0 ≤ gi S 175 1 ∧ 0 ≤ len ∧ ((len = 0 ∧ w = 0 ∧ cnt = gi S 175 1) ∨ (0 < len ∧ cnt = gi S 175 1 + 1 ∧ w = gl T 198 (gi S 175 1).toNat)) ∧ cnt ≤ most ∧ ∀ k : Nat, (k : Int) < gi S 175 1 → gl S 176 k = gl T 198 k
theorem sr_add {S S1 T : SS} {w : Int64} {len cnt most : Int} (hm : most ≤ 150) (h : SR S T w len cnt most) (e : f_SheetReader_addWord S w len = some S1) : gi S1 175 1 = cnt ∧ (∀ k : Nat, (k : Int) < cnt → gl S1 176 k = gl T 198 k) ∧ (∀ r k, ¬ (r = 175 ∧ k = 1) → gi S1 r k = gi S r k) := by
  obtain ⟨s1, s2, s3, s4, s5⟩ := h
  unfold f_SheetReader_addWord at e
  rcases s3 with ⟨a, _, c⟩ | ⟨a, c, d⟩
  · rw [if_pos (by omega)] at e
    cases e
    exact ⟨c.symm, fun k hk => s5 k (by omega), fun _ _ _ => rfl⟩
  · rw [if_neg (by omega)] at e
    obtain ⟨S2, e2, e⟩ := w_b1E e
    cases e
    have cp : cap 175 = 150 := by decide
    have q := sh_add e2 s1 (by omega)
    rw [q]
    refine ⟨by rw [gi_at]; omega, fun k hk => ?_, fun r k hrk => ?_⟩
    · show gl (sl S 176 _ w) 176 k = _
      rw [gl_slN]
      by_cases e : k = (gi S 175 1).toNat
      · rw [if_pos ⟨rfl, e⟩, d, e]
      · rw [if_neg (fun q => e q.2)]
        exact s5 k (by omega)
    · rw [gi_off hrk]; rfl
theorem sim_rp (most : Int) (hm : 0 ≤ most ∧ most ≤ 150) : ∀ (n1 n2 : Nat) (S T : SS) (w : Int64) (len i cnt : Int), TB S T → FE S T → SR S T w len cnt most → 0 ≤ i → ∀ r S1 o T1, f_SheetReader_readProof_20 most n1 S w len i = some (r, S1) → f_M_readProof_7 most n2 T cnt len i = some (o, T1) → FE S1 T1 ∧ ((r = 1 ∧ o = some (gi S1 175 1) ∧ 0 ≤ gi S1 175 1 ∧ gi S1 175 1 ≤ most ∧ ∀ k : Nat, (k : Int) < gi S1 175 1 → gl S1 176 k = gl T1 198 k) ∨ (r = 0 ∧ o = none)) := by
  intro n1
  induction n1 with
  | zero => intro n2 S T w len i cnt _ _ _ _ r S1 o T1 h1 _; exact absurd h1 (by simp [f_SheetReader_readProof_20])
  | succ n1 ih =>
    intro n2 S T w len i cnt hB hF hR h0 r S1 o T1 h1 h2
    cases n2 with
    | zero => exact absurd h2 (by simp [f_M_readProof_7])
    | succ n2 =>
      have h1 : f_SheetReader_readProof_20_b most (f_SheetReader_readProof_20 most n1) S w len i = some (r, S1) := h1
      have h2 : f_M_readProof_7_b most (f_M_readProof_7 most n2) T cnt len i = some (o, T1) := h2
      unfold f_SheetReader_readProof_20_b at h1
      unfold f_M_readProof_7_b at h2
      rw [← hB.1] at h2
      by_cases c : gi S 1 1 ≤ i
      · rw [if_pos c] at h1 h2
        obtain ⟨S2, e2, h1⟩ := w_b1E h1
        have A := sr_add hm.2 hR e2
        cases h1
        cases h2
        refine ⟨⟨by rw [A.2.2 3 0 (by omega)]; exact hF.1, by rw [A.2.2 3 1 (by omega)]; exact hF.2⟩, .inl ⟨rfl, by rw [A.1], ?_, by rw [A.1]; exact hR.2.2.2.1, fun k hk => A.2.1 k (by rw [← A.1]; exact hk)⟩⟩
        rw [A.1]
        obtain ⟨s1, s2, s3, s4, s5⟩ := hR
        omega
      · rw [if_neg c] at h1 h2
        have hx := hB.2.2 i.toNat (by omega)
        rw [w_b1_is (cby h0 (by omega) hB.2.1)] at h1
        rw [w_b1_is (mby h0 (by rw [← hB.1]; omega) (by rw [← hB.1]; exact hB.2.1)), ← hx] at h2
        have b255 := andi255 (gi S 2 i.toNat)
        generalize andi (gi S 2 i.toNat) 255 = ch at h1 h2 b255
        have ebl : f_M_isBlank T ch = f_MP_isBlank S ch := rfl
        rw [ebl] at h2
        by_cases c2 : f_MP_isBlank S ch = 0
        · rw [if_pos c2] at h1 h2
          rw [w_b1_is (ow_eq S T ch b255)] at h1
          have hp : 0 ≤ i + 1 := by omega
          have bad : ∀ kd : Int, (w_b2 (f_Fault_tellOf S kd i) (fun r2_z S1_z => w_chk (r2_z = 0 ∨ r2_z = 1) (some (r2_z, S1_z)))) = some (r, S1) → w_lt (f_M_wrong T kd i) (fun S1_z => some ((none : Option Int), S1_z)) = some (o, T1) → FE S1 T1 ∧ ((r = 1 ∧ o = some (gi S1 175 1) ∧ 0 ≤ gi S1 175 1 ∧ gi S1 175 1 ≤ most ∧ ∀ k : Nat, (k : Int) < gi S1 175 1 → gl S1 176 k = gl T1 198 k) ∨ (r = 0 ∧ o = none)) := by
            intro kd g1 g2
            obtain ⟨a, t, e, g1⟩ := w_b2E g1
            unfold f_Fault_tellOf at e
            cases e
            obtain ⟨_, g1⟩ := w_chkE g1
            cases g1
            cases g2
            refine ⟨⟨?_, ?_⟩, .inr ⟨rfl, rfl⟩⟩
            · show gi (si (si S 3 0 kd) 3 1 i) 3 0 = gi (si (si T 192 14 kd) 192 15 i) 192 14
              rw [gi_off (by omega), gi_at, gi_off (by omega), gi_at]
            · show gi (si (si S 3 0 kd) 3 1 i) 3 1 = gi (si (si T 192 14 kd) 192 15 i) 192 15
              rw [gi_at, gi_at]
          by_cases c3 : f_M_isOfWord T ch = 0
          · rw [if_pos c3] at h1 h2
            unfold f_SheetReader_readProof_77 at h1
            unfold f_M_readProof_51 at h2
            exact bad 1 h1 h2
          · rw [if_neg c3] at h1 h2
            by_cases c4 : len = 8
            · rw [if_pos c4] at h1 h2
              unfold f_SheetReader_readProof_77 at h1
              unfold f_M_readProof_51 at h2
              exact bad 1 h1 h2
            · rw [if_neg c4] at h1 h2
              obtain ⟨s1, s2, s3, s4, s5⟩ := hR
              by_cases c5 : len = 0
              · rw [if_pos c5] at h1 h2
                have s3 : w = 0 ∧ cnt = gi S 175 1 := by
                  rcases s3 with s3 | s3
                  · exact s3.2
                  · omega
                by_cases c6 : gi S 175 1 < most
                · rw [if_pos c6] at h1
                  rw [if_neg (by omega)] at h2
                  unfold f_SheetReader_readProof_109 f_SheetReader_readProof_123 at h1
                  obtain ⟨_, h1⟩ := w_chkE h1
                  obtain ⟨_, h1⟩ := w_chkE h1
                  obtain ⟨_, h2⟩ := w_chkE h2
                  unfold w_lt f_M_readProof_86 at h2
                  obtain ⟨_, h2⟩ := w_chkE h2
                  obtain ⟨_, h2⟩ := w_chkE h2
                  obtain ⟨_, h2⟩ := w_chkE h2
                  obtain ⟨_, h2⟩ := w_chkE h2
                  obtain ⟨_, h2⟩ := w_chkE h2
                  unfold w_lt f_M_readProof_112 at h2
                  obtain ⟨_, h2⟩ := w_chkE h2
                  obtain ⟨_, h2⟩ := w_chkE h2
                  rw [show cnt + 1 - 1 = cnt by omega] at h2
                  refine ih n2 S (sl (sl T 198 cnt.toNat 0) 198 cnt.toNat (lsh (gl (sl T 198 cnt.toNat 0) 198 cnt.toNat) 8 ||| i2l ch)) _ (len + 1) (i + 1) (cnt + 1) hB hF ⟨s1, by omega, .inr ⟨by omega, by omega, ?_⟩, by omega, fun k hk => ?_⟩ hp r S1 o T1 h1 h2
                  · rw [gl_slN, if_pos ⟨rfl, by rw [s3.2]⟩, gl_slN, if_pos ⟨rfl, rfl⟩, s3.1]
                  · rw [gl_slN, if_neg (fun q => by omega), gl_slN, if_neg (fun q => by omega)]
                    exact s5 k hk
                · rw [if_neg c6] at h1
                  rw [if_pos (by omega)] at h2
                  exact bad 3 h1 h2
              · rw [if_neg c5] at h1 h2
                have s3 : cnt = gi S 175 1 + 1 ∧ w = gl T 198 (gi S 175 1).toNat := by
                  rcases s3 with s3 | s3
                  · omega
                  · exact s3.2
                unfold f_SheetReader_readProof_109 f_SheetReader_readProof_123 at h1
                obtain ⟨_, h1⟩ := w_chkE h1
                obtain ⟨_, h1⟩ := w_chkE h1
                unfold f_M_readProof_86 at h2
                obtain ⟨_, h2⟩ := w_chkE h2
                obtain ⟨_, h2⟩ := w_chkE h2
                obtain ⟨_, h2⟩ := w_chkE h2
                obtain ⟨_, h2⟩ := w_chkE h2
                unfold w_lt f_M_readProof_112 at h2
                obtain ⟨_, h2⟩ := w_chkE h2
                obtain ⟨_, h2⟩ := w_chkE h2
                rw [show cnt - 1 = gi S 175 1 by omega] at h2
                refine ih n2 S (sl T 198 (gi S 175 1).toNat (lsh (gl T 198 (gi S 175 1).toNat) 8 ||| i2l ch)) _ (len + 1) (i + 1) cnt hB hF ⟨s1, by omega, .inr ⟨by omega, by omega, ?_⟩, by omega, fun k hk => ?_⟩ hp r S1 o T1 h1 h2
                · rw [gl_slN, if_pos ⟨rfl, rfl⟩, s3.2]
                · rw [gl_slN, if_neg (fun q => by omega)]
                  exact s5 k hk
        · rw [if_neg c2] at h1 h2
          obtain ⟨S2, e2, h1⟩ := w_b1E h1
          have A := sr_add hm.2 hR e2
          unfold f_SheetReader_readProof_123 at h1
          unfold f_M_readProof_112 at h2
          obtain ⟨_, h1⟩ := w_chkE h1
          obtain ⟨_, h2⟩ := w_chkE h2
          obtain ⟨s1, s2, s3, s4, s5⟩ := hR
          refine ih n2 S2 T 0 0 (i + 1) cnt ⟨by rw [A.2.2 1 1 (by omega)]; exact hB.1, by rw [A.2.2 1 1 (by omega)]; exact hB.2.1, fun k hk => ?_⟩ ⟨by rw [A.2.2 3 0 (by omega)]; exact hF.1, by rw [A.2.2 3 1 (by omega)]; exact hF.2⟩ ⟨by rw [A.1]; omega, Int.le_refl _, .inl ⟨rfl, rfl, A.1.symm⟩, s4, fun k hk => A.2.1 k (by rw [← A.1]; exact hk)⟩ (by omega) r S1 o T1 h1 h2
          rw [A.2.2 1 1 (by omega)] at hk
          rw [A.2.2 2 k (by omega)]; exact hB.2.2 k hk
theorem sim_readProof (most : Int) (hm : 0 ≤ most ∧ most ≤ 150) (S T : SS) (hR : TR S T) (hb : 0 ≤ gi S 1 1 ∧ gi S 1 1 ≤ 2000) (r : Int) (S1 : SS) (o : Option Int) (T1 : SS) (h1 : f_SheetReader_readProof S most = some (r, S1)) (h2 : f_M_readProof (f_M_begin T) most = some (o, T1)) : FE S1 T1 ∧ ((r = 1 ∧ o = some (gi S1 175 1) ∧ 0 ≤ gi S1 175 1 ∧ gi S1 175 1 ≤ most ∧ ∀ k : Nat, (k : Int) < gi S1 175 1 → gl S1 176 k = gl T1 198 k) ∨ (r = 0 ∧ o = none)) := by
  unfold f_SheetReader_readProof at h1
  unfold f_M_readProof at h2
  unfold w_lt at h1
  have e175 : gi (f_Fault_clear (f_Sheet_clear S 175)) 175 1 = 0 := by
    show gi (si (si (si S 175 1 0) 3 0 0) 3 1 (-1)) 175 1 = 0
    rw [gi_off (by omega), gi_off (by omega), gi_at]
  have eo : ∀ r k, r ≠ 3 → r ≠ 175 → gi (f_Fault_clear (f_Sheet_clear S 175)) r k = gi S r k := by
    intro r k a c
    show gi (si (si (si S 175 1 0) 3 0 0) 3 1 (-1)) r k = gi S r k
    rw [gi_off (by omega), gi_off (by omega), gi_off (by omega)]
  have mo : ∀ r k, r ≠ 192 → gi (f_M_begin T) r k = gi T r k := by
    intro r k a
    show gi (si (si (si (si (si T 192 9 (gi T 192 8)) 192 8 0) 192 11 0) 192 14 0) 192 15 (-1)) r k = gi T r k
    rw [gi_off (by omega), gi_off (by omega), gi_off (by omega), gi_off (by omega), gi_off (by omega)]
  refine sim_rp most hm FU FU _ _ 0 0 0 0 ⟨?_, by rw [eo 1 1 (by decide) (by decide)]; exact hb.2, fun k hk => ?_⟩ ⟨?_, ?_⟩ ⟨by rw [e175]; exact Int.le_refl _, Int.le_refl _, .inl ⟨rfl, rfl, e175.symm⟩, hm.1, fun k hk => by rw [e175] at hk; omega⟩ (Int.le_refl _) r S1 o T1 h1 h2
  · rw [eo 1 1 (by decide) (by decide), hR.1]
    show gi T 192 8 = gi (si (si (si (si (si T 192 9 (gi T 192 8)) 192 8 0) 192 11 0) 192 14 0) 192 15 (-1)) 192 9
    rw [gi_off (by omega), gi_off (by omega), gi_off (by omega), gi_off (by omega), gi_at]
  · rw [eo 1 1 (by decide) (by decide)] at hk
    rw [eo 2 k (by decide) (by decide), mo 197 k (by decide)]
    exact hR.2 k hk
  · show gi (si (si (si S 175 1 0) 3 0 0) 3 1 (-1)) 3 0 = gi (si (si (si (si (si T 192 9 (gi T 192 8)) 192 8 0) 192 11 0) 192 14 0) 192 15 (-1)) 192 14
    rw [gi_off (by omega), gi_at, gi_off (by omega), gi_at]
  · show gi (si (si (si S 175 1 0) 3 0 0) 3 1 (-1)) 3 1 = gi (si (si (si (si (si T 192 9 (gi T 192 8)) 192 8 0) 192 11 0) 192 14 0) 192 15 (-1)) 192 15
    rw [gi_at, gi_at]
