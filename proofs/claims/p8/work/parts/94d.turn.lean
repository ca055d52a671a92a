/-- what the reference does at a number: syntax, range, or on with it -/
def RN (T : SS) (G : Prop) (k : Int → SS → Option (Option Unit × SS)) (o : Option Unit) (T1 : SS) : Prop :=
  (gi T 192 12 ≠ 2 ∧ o = none ∧ T1 = f_M_wrong T 1 (gi T 192 10)) ∨ (gi T 192 12 = 2 ∧ ¬ G ∧ o = none ∧ T1 = f_M_wrong T 2 (gi T 192 10)) ∨ (gi T 192 12 = 2 ∧ G ∧ ∃ T2, f_M_scan T = some T2 ∧ k (gi T 192 13) T2 = some (o, T1))
theorem rn_of {T T1 : SS} {a c : Int} {k : Int → SS → Option (Option Unit × SS)} {o : Option Unit} (h2 : w_b3 (f_M_number T a c) (fun s => some (none, s)) k = some (o, T1)) : RN T (a ≤ gi T 192 13 ∧ gi T 192 13 ≤ c) k o T1 := by
  rcases w_b3E h2 with ⟨v, T2, e2, h2⟩ | ⟨T2, e2, h2⟩
  · rcases mn_is e2 with ⟨_, q, _⟩ | ⟨_, _, q, _⟩ | ⟨q1, q2, q3, q4⟩
    · cases q
    · cases q
    · cases q3
      exact .inr (.inr ⟨q1, q2, T2, q4, h2⟩)
  · cases h2
    rcases mn_is e2 with ⟨q1, _, q3⟩ | ⟨q1, q2, _, q4⟩ | ⟨_, _, q, _⟩
    · exact .inl ⟨q1, rfl, q3⟩
    · exact .inr (.inl ⟨q1, q2, rfl, q4⟩)
    · cases q
/-- one number of both sides, with what comes behind -/
theorem num_g {S T S' T1 : SS} {b m n : Nat} {told i r : Int} {o : Option Unit} {G : Prop} {k : Int → SS → Option (Option Unit × SS)} (hC : CX b S) (hb : 2 ≤ b) (hm : m < 40) (hM : MX 1 T) (hB : BF S T) (hA : AH S T) (hi : 0 ≤ i ∧ i < 3 ∧ i < told)
    (h1 : f_MarkReader_readNumbers_33 m (n + 1) S told i = some (r, S')) (hr : RN T G k o T1)
    (hs : ∀ S9 x, CX b S9 → FX (fun r k => (r = 177 ∧ 4 ≤ k) ∨ (r = 14 + 4 * m + 1 ∧ k = i.toNat)) S S9 → gi S9 (14 + 4 * m + 1) i.toNat = gi T 192 13 → f_MarkReader_mayBegin S9 m i = some x → (x = 0 ↔ ¬ G)) :
    (r = 0 ∧ o = none ∧ FE S' T1 ∧ fr (XKC m) S S' ∧ fr (XKR m) T T1 ∧ T1.2 = T.2) ∨
    ∃ S9 T2, G ∧ k (gi T 192 13) T2 = some (o, T1) ∧ f_MarkReader_readNumbers_33 m n S9 told (i + 1) = some (r, S') ∧ CX b S9 ∧ MX 1 T2 ∧ BF S9 T2 ∧ AH S9 T2 ∧ gi S9 (14 + 4 * m + 1) i.toNat = gi T 192 13 ∧ FX (fun r k => (r = 177 ∧ 4 ≤ k) ∨ (r = 14 + 4 * m + 1 ∧ k = i.toNat)) S S9 ∧ fr XSN T T2 ∧ T2.2 = T.2 := by
  have bv := mx_192_13 hM
  have bad : ∀ (o' : Option Int), (gi T 192 12 ≠ 2 ∧ o' = none ∧ T1 = f_M_wrong T 1 (gi T 192 10)) ∨ (gi T 192 12 = 2 ∧ ¬ G ∧ o' = none ∧ T1 = f_M_wrong T 2 (gi T 192 10)) ∨ (gi T 192 12 = 2 ∧ G ∧ o' = some (gi T 192 13) ∧ f_M_scan T = some T1) → o' = none → o = none → T1.2 = T.2 → (r = 0 ∧ o = none ∧ FE S' T1 ∧ fr (XKC m) S S' ∧ fr (XKR m) T T1 ∧ T1.2 = T.2) := by
    intro o' hr' ho' ho hl
    rcases num_step (n := n) G hC hb hm bv hB hA hi h1 hr' hs with ⟨a1, a2, a3, a4, a5⟩ | ⟨S9, q1, _⟩
    · exact ⟨a1, ho, a3, fun r k a => a4 r k (by omega), fun r k a => a5 r k (by omega), hl⟩
    · rw [ho'] at q1; cases q1
  rcases hr with q | q | ⟨m1, m2, T2, m3, m4⟩
  · exact .inl (bad none (.inl ⟨q.1, rfl, q.2.2⟩) rfl q.2.1 (by rw [q.2.2]; rfl))
  · exact .inl (bad none (.inr (.inl ⟨q.1, q.2.1, rfl, q.2.2.2⟩)) rfl q.2.2.1 (by rw [q.2.2.2]; rfl))
  · rcases num_step (n := n) (o := some (gi T 192 13)) (T1 := T2) G hC hb hm bv hB hA hi h1 (.inr (.inr ⟨m1, m2, rfl, m3⟩)) hs with ⟨_, q, _⟩ | ⟨S9, q1, q2, q3, q4, q5, q6, q7, q8⟩
    · cases q
    · exact .inr ⟨S9, T2, m2, m4, q3, q4, (ok_true (ok_M_scan T hM) _ m3).1, BF_keep hB (fun k => ⟨q7.1 1 1 (by omega), q7.1 2 k (by omega)⟩) (fun k => ⟨q8 192 9 (by omega), q8 197 k (by omega)⟩), q5, q6, q7, q8, lq_scan T T2 m3⟩
theorem put_num {S T : SS} {x m : Nat} {v : Int} (hx : 201 ≤ x ∧ x ≤ 203) (hv : -1 ≤ v ∧ v ≤ 60) (hM : MX 1 T) (hB : BF S T) (hA : AH S T) : MX 1 (si T x m v) ∧ BF S (si T x m v) ∧ AH S (si T x m v) := by
  refine ⟨?_, BF_keep hB (fun k => ⟨rfl, rfl⟩) (fun k => ⟨gi_off (by omega), gi_off (by omega)⟩), AH_keep hA (fun r k a => gi_off (by omega))⟩
  have : x = 201 ∨ x = 202 ∨ x = 203 := by omega
  rcases this with e | e | e <;> subst e <;> exact hM.set hv.1 hv.2 (.inr (.inl (by decide)))
theorem fr_num {m x : Nat} {T T2 : SS} {v : Int} (hx : 201 ≤ x ∧ x ≤ 203) (h : fr XSN T T2) : fr (XKR m) T (si T2 x m v) := fun r k a => by rw [gi_off (by omega)]; exact h r k (by omega)
/-- put: one number -/
theorem nq_put {S T S' T1 : SS} {b m : Nat} {r : Int} {o : Option Unit} (hC : CX b S) (hb : 2 ≤ b) (hm : m < 40) (hM : MX 1 T) (hB : BF S T) (hA : AH S T) (hF : gi S 177 3 = gi T 192 3) (hk : gi S (14 + 4 * m) 2 = 1) (hn1 : gi S (14 + 4 * m + 1) 1 = gi T 202 m) (hn2 : gi S (14 + 4 * m + 1) 2 = gi T 203 m) (g : SS → Option (Option Unit × SS))
    (h1 : f_MarkReader_readNumbers_33 m FU S 1 0 = some (r, S')) (h2 : w_b3 (f_M_number T 0 (gi T 192 3)) (fun S22_z => some (none, S22_z)) (fun r20_z S21_z => w_chk (0 ≤ (m : Int) ∧ (m : Int) < 41) (w_lt (si S21_z 201 m r20_z) (fun S24_z => g S24_z))) = some (o, T1)) : NQ S T b m r S' o T1 g := by
  have bv := mx_192_13 hM
  have b3 := mx_192_3 hM
  have t0 : (0 : Int).toNat = 0 := rfl
  rcases num_g (n := 3999) hC hb hm hM hB hA (by omega) h1 (rn_of h2) (fun S9 x _ f9 v9 ex => by
    have w := mb_put (by rw [f9.1 (14 + 4 * m) 2 (by omega)]; exact hk) ex
    rw [t0] at v9
    rw [w, f9.1 177 3 (by omega), hF, v9]; omega) with q | ⟨S9, T2, q2, h2, q3, q4, qM, qB, q5, q6, q7, q8, q9⟩
  · exact .inl q
  rw [t0] at q6 q7
  obtain ⟨_, h2⟩ := w_chkE h2
  have q3 : f_MarkReader_readNumbers_33 m (3998 + 1) S9 1 1 = some (r, S') := q3
  obtain ⟨hr, hS⟩ := rn_end q3
  subst hS
  obtain ⟨M7, B7, A7⟩ := put_num (x := 201) (m := m) (v := gi T 192 13) (by omega) (by omega) qM qB q5
  refine .inr ⟨_, hr, h2, q4, A7, ?_, ?_, ?_, (fun r k a => q7.1 r k (by omega)), fr_num (by omega) q8, q9⟩
  · rw [q6, gi_at]
  · rw [q7.1 _ 1 (by omega), hn1, gi_off (by omega), q8 202 m (by omega)]
  · rw [q7.1 _ 2 (by omega), hn2, gi_off (by omega), q8 203 m (by omega)]
/-- strike, change: two numbers -/
theorem nq_two {S T S' T1 : SS} {b m : Nat} {r : Int} {o : Option Unit} (hC : CX b S) (hb : 2 ≤ b) (hm : m < 40) (hM : MX 1 T) (hB : BF S T) (hA : AH S T) (hF : gi S 177 3 = gi T 192 3) (hk : gi S (14 + 4 * m) 2 = 0 ∨ gi S (14 + 4 * m) 2 = 2) (hn2 : gi S (14 + 4 * m + 1) 2 = gi T 203 m) (g : SS → Option (Option Unit × SS))
    (h1 : f_MarkReader_readNumbers_33 m FU S 2 0 = some (r, S')) (h2 : w_b3 (f_M_number T 0 (gi T 192 3 - 1)) (fun S9_z => some (none, S9_z)) (fun r7_z S8_z => w_chk (0 ≤ (m : Int) ∧ (m : Int) < 41) (w_lt (si S8_z 201 m r7_z) (fun S11_z => w_chk (0 ≤ (m : Int) ∧ (m : Int) < 41) (w_b3 (f_M_number S11_z (gi S11_z 201 m) (gi T 192 3 - 1)) (fun S15_z => some (none, S15_z)) (fun r13_z S14_z => w_chk (0 ≤ (m : Int) ∧ (m : Int) < 41) (w_lt (si S14_z 202 m r13_z) (fun S17_z => g S17_z))))))) = some (o, T1)) : NQ S T b m r S' o T1 g := by
  have bv := mx_192_13 hM
  have b3 := mx_192_3 hM
  have t0 : (0 : Int).toNat = 0 := rfl
  rcases num_g (n := 3999) hC hb hm hM hB hA (by omega) h1 (rn_of h2) (fun S9 x _ f9 v9 ex => by
    have w := (mb_sc (by rw [f9.1 (14 + 4 * m) 2 (by omega)]; exact hk) ex).1 rfl
    rw [t0] at v9
    rw [w, f9.1 177 3 (by omega), hF, v9]; omega) with q | ⟨S9, T2, q2, h2, q3, q4, qM, qB, q5, q6, q7, q8, q9⟩
  · exact .inl q
  rw [t0] at q6 q7
  obtain ⟨_, h2⟩ := w_chkE h2
  unfold w_lt at h2
  obtain ⟨_, h2⟩ := w_chkE h2
  rw [gi_at] at h2
  obtain ⟨M3, B3, A3⟩ := put_num (x := 201) (m := m) (v := gi T 192 13) (by omega) (by omega) qM qB q5
  have f3 := fr_num (m := m) (x := 201) (v := gi T 192 13) (by omega) q8
  have n3 : gi (si T2 201 m (gi T 192 13)) 201 m = gi T 192 13 := gi_at _ _ _ _
  have l3 : (si T2 201 m (gi T 192 13)).2 = T.2 := q9
  have n33 : gi (si T2 201 m (gi T 192 13)) 203 m = gi T 203 m := by rw [gi_off (by omega)]; exact q8 203 m (by omega)
  generalize si T2 201 m (gi T 192 13) = T3 at h2 M3 B3 A3 f3 n3 l3 n33
  have bv3 := mx_192_13 M3
  rcases num_g (n := 3998) q4 hb hm M3 B3 A3 (by omega) q3 (rn_of h2) (fun Sx x _ fx vx ex => by
    have w := (mb_sc (by rw [fx.1 (14 + 4 * m) 2 (by omega), q7.1 (14 + 4 * m) 2 (by omega)]; exact hk) ex).2 (by decide)
    rw [show ((0 : Int) + 1).toNat = 1 from rfl] at vx fx
    have v0 : gi Sx (14 + 4 * m + 1) 0 = gi T 192 13 := by rw [fx.1 _ 0 (by omega)]; exact q6
    rw [w, fx.1 177 3 (by omega), q7.1 177 3 (by omega), hF, vx, v0]; omega) with q | ⟨Sa, T4, p2, h2, p3, p4, pM, pB, p5, p6, p7, p8, p9⟩
  · obtain ⟨a1, a2, a3, a4, a5, a6⟩ := q
    exact .inl ⟨a1, a2, a3, fr_trans (fun r k a => q7.1 r k (by omega)) a4, fr_trans f3 a5, a6.trans l3⟩
  rw [show ((0 : Int) + 1).toNat = 1 from rfl] at p6 p7
  obtain ⟨_, h2⟩ := w_chkE h2
  have p3 : f_MarkReader_readNumbers_33 m (3997 + 1) Sa 2 2 = some (r, S') := p3
  obtain ⟨hr, hS⟩ := rn_end p3
  subst hS
  obtain ⟨M7, B7, A7⟩ := put_num (x := 202) (m := m) (v := gi T3 192 13) (by omega) (by omega) pM pB p5
  refine .inr ⟨_, hr, h2, p4, A7, ?_, ?_, ?_, fr_trans (fun r k a => q7.1 r k (by omega)) (fun r k a => p7.1 r k (by omega)), fr_trans f3 (fr_num (by omega) p8), p9.trans l3⟩
  · rw [p7.1 _ 0 (by omega), q6, gi_off (by omega), p8 201 m (by omega)]; exact n3.symm
  · rw [p6, gi_at]
  · rw [p7.1 _ 2 (by omega), q7.1 _ 2 (by omega), hn2, gi_off (by omega), p8 203 m (by omega)]; exact n33.symm
/-- turn: three numbers -/
theorem nq_turn {S T S' T1 : SS} {b m : Nat} {r : Int} {o : Option Unit} (hC : CX b S) (hb : 2 ≤ b) (hm : m < 40) (hM : MX 1 T) (hB : BF S T) (hA : AH S T) (hF : gi S 177 3 = gi T 192 3) (hk : gi S (14 + 4 * m) 2 = 3) (g : SS → Option (Option Unit × SS))
    (h1 : f_MarkReader_readNumbers_33 m FU S 3 0 = some (r, S')) (h2 : w_b3 (f_M_number T 0 (gi T 192 3 - 1 - 1)) (fun s => some (none, s)) (fun r39 S40 => w_chk (0 ≤ (m : Int) ∧ (m : Int) < 41) (w_lt (si S40 201 m r39) (fun S43 => w_chk (0 ≤ (m : Int) ∧ (m : Int) < 41) (w_chk (i32 (gi S43 201 m + 1)) (w_b3 (f_M_number S43 (gi S43 201 m + 1) (gi T 192 3 - 1)) (fun s => some (none, s)) (fun r46 S47 => w_chk (0 ≤ (m : Int) ∧ (m : Int) < 41) (w_lt (si S47 202 m r46) (fun S50 => w_chk (0 ≤ (m : Int) ∧ (m : Int) < 41) (w_b3 (f_M_number S50 (gi S50 202 m) (gi T 192 3 - 1)) (fun s => some (none, s)) (fun r52 S53 => w_chk (0 ≤ (m : Int) ∧ (m : Int) < 41) (w_lt (si S53 203 m r52) (fun S56 => g S56)))))))))))) = some (o, T1)) : NQ S T b m r S' o T1 g := by
  have bv := mx_192_13 hM
  have b3 := mx_192_3 hM
  have t0 : (0 : Int).toNat = 0 := rfl
  have t1 : (1 : Int).toNat = 1 := rfl
  have t2 : (2 : Int).toNat = 2 := rfl
  rcases num_g (n := 3999) hC hb hm hM hB hA (by omega) h1 (rn_of h2) (fun S9 x _ f9 v9 ex => by
    have w := (mb_turn (by rw [f9.1 (14 + 4 * m) 2 (by omega)]; exact hk) ex).1 rfl
    rw [t0] at v9
    rw [w, f9.1 177 3 (by omega), hF, v9]; omega) with q | ⟨S9, T2, q2, h2, q3, q4, qM, qB, q5, q6, q7, q8, q9⟩
  · exact .inl q
  rw [t0] at q6 q7
  obtain ⟨_, h2⟩ := w_chkE h2
  unfold w_lt at h2
  obtain ⟨_, h2⟩ := w_chkE h2
  obtain ⟨_, h2⟩ := w_chkE h2
  rw [gi_at] at h2
  obtain ⟨M3, B3, A3⟩ := put_num (x := 201) (m := m) (v := gi T 192 13) (by omega) (by omega) qM qB q5
  have f3 := fr_num (m := m) (x := 201) (v := gi T 192 13) (by omega) q8
  have n3 : gi (si T2 201 m (gi T 192 13)) 201 m = gi T 192 13 := gi_at _ _ _ _
  have e3 : gi (si T2 201 m (gi T 192 13)) 192 3 = gi T 192 3 := f3 192 3 (by omega)
  have l3 : (si T2 201 m (gi T 192 13)).2 = T.2 := q9
  generalize si T2 201 m (gi T 192 13) = T3 at h2 M3 B3 A3 f3 n3 e3 l3
  have bv3 := mx_192_13 M3
  rcases num_g (n := 3998) q4 hb hm M3 B3 A3 (by omega) q3 (rn_of h2) (fun Sx x _ fx vx ex => by
    have w := (mb_turn (by rw [fx.1 (14 + 4 * m) 2 (by omega), q7.1 (14 + 4 * m) 2 (by omega)]; exact hk) ex).2.1 rfl
    rw [show ((0 : Int) + 1).toNat = 1 from rfl] at vx fx
    have v0 : gi Sx (14 + 4 * m + 1) 0 = gi T 192 13 := by rw [fx.1 _ 0 (by omega)]; exact q6
    rw [w, fx.1 177 3 (by omega), q7.1 177 3 (by omega), hF, vx, v0]; omega) with q | ⟨Sa, T4, p2, h2, p3, p4, pM, pB, p5, p6, p7, p8, p9⟩
  · obtain ⟨a1, a2, a3, a4, a5, a6⟩ := q
    exact .inl ⟨a1, a2, a3, fr_trans (fun r k a => q7.1 r k (by omega)) a4, fr_trans f3 a5, a6.trans l3⟩
  rw [show ((0 : Int) + 1).toNat = 1 from rfl] at p6 p7
  obtain ⟨_, h2⟩ := w_chkE h2
  obtain ⟨_, h2⟩ := w_chkE h2
  rw [gi_at] at h2
  obtain ⟨M5, B5, A5⟩ := put_num (x := 202) (m := m) (v := gi T3 192 13) (by omega) (by omega) pM pB p5
  have f5 := fr_num (m := m) (x := 202) (v := gi T3 192 13) (by omega) p8
  have n5 : gi (si T4 202 m (gi T3 192 13)) 202 m = gi T3 192 13 := gi_at _ _ _ _
  have n51 : gi (si T4 202 m (gi T3 192 13)) 201 m = gi T 192 13 := by rw [gi_off (by omega), p8 201 m (by omega)]; exact n3
  have l5 : (si T4 202 m (gi T3 192 13)).2 = T3.2 := p9
  generalize si T4 202 m (gi T3 192 13) = T5 at h2 M5 B5 A5 f5 n5 n51 l5
  have bv5 := mx_192_13 M5
  rcases num_g (n := 3997) p4 hb hm M5 B5 A5 (by omega) p3 (rn_of h2) (fun Sx x _ fx vx ex => by
    have w := (mb_turn (by rw [fx.1 (14 + 4 * m) 2 (by omega), p7.1 (14 + 4 * m) 2 (by omega), q7.1 (14 + 4 * m) 2 (by omega)]; exact hk) ex).2.2 rfl
    rw [show ((0 : Int) + 1 + 1).toNat = 2 from rfl] at vx fx
    have v1 : gi Sx (14 + 4 * m + 1) 1 = gi T3 192 13 := by rw [fx.1 _ 1 (by omega)]; exact p6
    rw [w, fx.1 177 3 (by omega), p7.1 177 3 (by omega), q7.1 177 3 (by omega), hF, vx, v1]; omega) with q | ⟨Sb, T6, u2, h2, u3, u4, uM, uB, u5, u6, u7, u8, u9⟩
  · obtain ⟨a1, a2, a3, a4, a5, a6⟩ := q
    exact .inl ⟨a1, a2, a3, fr_trans (fun r k a => q7.1 r k (by omega)) (fr_trans (fun r k a => p7.1 r k (by omega)) a4), fr_trans f3 (fr_trans f5 a5), a6.trans (l5.trans l3)⟩
  rw [show ((0 : Int) + 1 + 1).toNat = 2 from rfl] at u6 u7
  obtain ⟨_, h2⟩ := w_chkE h2
  have u3 : f_MarkReader_readNumbers_33 m (3996 + 1) Sb 3 3 = some (r, S') := u3
  obtain ⟨hr, hS⟩ := rn_end u3
  subst hS
  obtain ⟨M7, B7, A7⟩ := put_num (x := 203) (m := m) (v := gi T5 192 13) (by omega) (by omega) uM uB u5
  refine .inr ⟨_, hr, h2, u4, A7, ?_, ?_, ?_, fr_trans (fun r k a => q7.1 r k (by omega)) (fr_trans (fun r k a => p7.1 r k (by omega)) (fun r k a => u7.1 r k (by omega))), fr_trans f3 (fr_trans f5 (fr_num (by omega) u8)), u9.trans (l5.trans l3)⟩
  · rw [u7.1 _ 0 (by omega), p7.1 _ 0 (by omega), q6, gi_off (by omega), u8 201 m (by omega)]; exact n51.symm
  · rw [u7.1 _ 1 (by omega), p6, gi_off (by omega), u8 202 m (by omega)]; exact n5.symm
  · rw [u6, gi_at]
/-- move: three numbers -/
theorem nq_move0 {S T S' T1 : SS} {b m : Nat} {r : Int} {o : Option Unit} (hC : CX b S) (hb : 2 ≤ b) (hm : m < 40) (hM : MX 1 T) (hB : BF S T) (hA : AH S T) (hF : gi S 177 3 = gi T 192 3) (hk : gi S (14 + 4 * m) 2 = 4)
    (h1 : f_MarkReader_readNumbers_33 m FU S 3 0 = some (r, S')) (h2 : f_M_readMove T (m : Int) = some (o, T1)) : NQ S T b m r S' o T1 (fun s => some (some (), s)) := by
  have bv := mx_192_13 hM
  have b3 := mx_192_3 hM
  have t0 : (0 : Int).toNat = 0 := rfl
  have tm : ((m : Int)).toNat = m := Int.toNat_natCast m
  unfold f_M_readMove at h2
  obtain ⟨_, h2⟩ := w_chkE h2
  obtain ⟨lo, hlo, h2⟩ : ∃ lo : Int, ((gi T 192 3 ≤ 1 ∧ lo = 1) ∨ (2 ≤ gi T 192 3 ∧ lo = 0)) ∧ f_M_readMove_23 (m : Int) T (gi T 192 3 - 1) lo (m : Int) = some (o, T1) := by
    by_cases c : 1 ≤ gi T 192 3 - 1
    · rw [if_pos c] at h2; exact ⟨0, by omega, h2⟩
    · rw [if_neg c] at h2; exact ⟨1, by omega, h2⟩
  unfold f_M_readMove_23 at h2
  rw [tm] at h2
  rcases num_g (n := 3999) hC hb hm hM hB hA (by omega) h1 (rn_of h2) (fun S9 x _ f9 v9 ex => by
    have w := (mb_move (by rw [f9.1 (14 + 4 * m) 2 (by omega)]; exact hk) ex).1 rfl
    rw [t0] at v9
    rw [w, f9.1 177 3 (by omega), hF, v9]; omega) with q | ⟨S9, T2, q2, h2, q3, q4, qM, qB, q5, q6, q7, q8, q9⟩
  · exact .inl q
  rw [t0] at q6 q7
  obtain ⟨_, h2⟩ := w_chkE h2
  unfold w_lt at h2
  obtain ⟨_, h2⟩ := w_chkE h2
  obtain ⟨_, h2⟩ := w_chkE h2
  rw [gi_at] at h2
  obtain ⟨M3, B3, A3⟩ := put_num (x := 201) (m := m) (v := gi T 192 13) (by omega) (by omega) qM qB q5
  have f3 := fr_num (m := m) (x := 201) (v := gi T 192 13) (by omega) q8
  have n3 : gi (si T2 201 m (gi T 192 13)) 201 m = gi T 192 13 := gi_at _ _ _ _
  have l3 : (si T2 201 m (gi T 192 13)).2 = T.2 := q9
  generalize si T2 201 m (gi T 192 13) = T3 at h2 M3 B3 A3 f3 n3 l3
  have bv3 := mx_192_13 M3
  obtain ⟨hi, hhi, h2⟩ : ∃ hi : Int, ((gi T 192 13 = 0 ∧ hi = gi T 192 3 - 1 - 1) ∨ (gi T 192 13 ≠ 0 ∧ hi = gi T 192 3 - 1)) ∧ f_M_readMove_56 (m : Int) T3 hi (gi T 192 13) (m : Int) = some (o, T1) := by
    by_cases c : gi T 192 13 = 0
    · rw [if_pos c] at h2
      obtain ⟨_, h2⟩ := w_chkE h2
      exact ⟨_, .inl ⟨c, rfl⟩, h2⟩
    · rw [if_neg c] at h2; exact ⟨_, .inr ⟨c, rfl⟩, h2⟩
  unfold f_M_readMove_56 at h2
  rw [tm] at h2
  rcases num_g (n := 3998) q4 hb hm M3 B3 A3 (by omega) q3 (rn_of h2) (fun Sx x _ fx vx ex => by
    have w := (mb_move (by rw [fx.1 (14 + 4 * m) 2 (by omega), q7.1 (14 + 4 * m) 2 (by omega)]; exact hk) ex).2.1 rfl
    rw [show ((0 : Int) + 1).toNat = 1 from rfl] at vx fx
    have v0 : gi Sx (14 + 4 * m + 1) 0 = gi T 192 13 := by rw [fx.1 _ 0 (by omega)]; exact q6
    rw [w, fx.1 177 3 (by omega), q7.1 177 3 (by omega), hF, vx, v0]; omega) with q | ⟨Sa, T4, p2, h2, p3, p4, pM, pB, p5, p6, p7, p8, p9⟩
  · obtain ⟨a1, a2, a3, a4, a5, a6⟩ := q
    exact .inl ⟨a1, a2, a3, fr_trans (fun r k a => q7.1 r k (by omega)) a4, fr_trans f3 a5, a6.trans l3⟩
  rw [show ((0 : Int) + 1).toNat = 1 from rfl] at p6 p7
  obtain ⟨_, h2⟩ := w_chkE h2
  unfold w_lt at h2
  obtain ⟨M5, B5, A5⟩ := put_num (x := 202) (m := m) (v := gi T3 192 13) (by omega) (by omega) pM pB p5
  have f5 := fr_num (m := m) (x := 202) (v := gi T3 192 13) (by omega) p8
  have n5 : gi (si T4 202 m (gi T3 192 13)) 202 m = gi T3 192 13 := gi_at _ _ _ _
  have n51 : gi (si T4 202 m (gi T3 192 13)) 201 m = gi T 192 13 := by rw [gi_off (by omega), p8 201 m (by omega)]; exact n3
  have l5 : (si T4 202 m (gi T3 192 13)).2 = T3.2 := p9
  generalize si T4 202 m (gi T3 192 13) = T5 at h2 M5 B5 A5 f5 n5 n51 l5
  have bv5 := mx_192_13 M5
  have e53 : gi T5 192 3 = gi T 192 3 := by rw [f5 192 3 (by omega)]; exact f3 192 3 (by omega)
  have hr : RN T5 (¬ (gi T 192 13 ≤ gi T5 192 13 ∧ gi T5 192 13 ≤ gi T3 192 13 + 1) ∧ 0 ≤ gi T5 192 13 ∧ gi T5 192 13 ≤ gi T5 192 3) (fun r2_z S3_z => w_chk (0 ≤ (m : Int) ∧ (m : Int) < 41) (w_lt (si S3_z 203 m r2_z) (fun S6_z => some (some (), S6_z)))) o T1 := by
    have go : f_M_readMove_105 (m : Int) T5 = some (o, T1) → (gi T5 192 12 = 2 → ¬ (gi T 192 13 ≤ gi T5 192 13 ∧ gi T5 192 13 ≤ gi T3 192 13 + 1)) → RN T5 (¬ (gi T 192 13 ≤ gi T5 192 13 ∧ gi T5 192 13 ≤ gi T3 192 13 + 1) ∧ 0 ≤ gi T5 192 13 ∧ gi T5 192 13 ≤ gi T5 192 3) (fun r2_z S3_z => w_chk (0 ≤ (m : Int) ∧ (m : Int) < 41) (w_lt (si S3_z 203 m r2_z) (fun S6_z => some (some (), S6_z)))) o T1 := by
      intro h hn
      unfold f_M_readMove_105 at h
      rw [tm] at h
      rcases rn_of h with q | q | q
      · exact .inl q
      · exact .inr (.inl ⟨q.1, fun w => q.2.1 w.2, q.2.2⟩)
      · exact .inr (.inr ⟨q.1, ⟨hn q.1, q.2.1⟩, q.2.2⟩)
    have i := in01 T5 (gi T5 192 13) (gi T 192 13) (gi T3 192 13 + 1)
    dsimp only at h2
    rw [n51, n5] at h2
    by_cases c : gi T5 192 12 = 2
    · rw [if_pos c] at h2
      obtain ⟨_, h2⟩ := w_chkE h2
      obtain ⟨_, h2⟩ := w_chkE h2
      obtain ⟨_, h2⟩ := w_chkE h2
      by_cases c2 : f_M_in T5 (gi T5 192 13) (gi T 192 13) (gi T3 192 13 + 1) = 0
      · rw [if_pos c2] at h2
        exact go h2 (fun _ => by omega)
      · rw [if_neg c2] at h2
        cases h2
        exact .inr (.inl ⟨c, fun w => by omega, rfl, rfl⟩)
    · rw [if_neg c] at h2
      exact go h2 (fun q => absurd q c)
  rcases num_g (n := 3997) p4 hb hm M5 B5 A5 (by omega) p3 hr (fun Sx x _ fx vx ex => by
    have w := (mb_move (by rw [fx.1 (14 + 4 * m) 2 (by omega), p7.1 (14 + 4 * m) 2 (by omega), q7.1 (14 + 4 * m) 2 (by omega)]; exact hk) ex).2.2 rfl
    rw [show ((0 : Int) + 1 + 1).toNat = 2 from rfl] at vx fx
    have v1 : gi Sx (14 + 4 * m + 1) 1 = gi T3 192 13 := by rw [fx.1 _ 1 (by omega)]; exact p6
    have v0 : gi Sx (14 + 4 * m + 1) 0 = gi T 192 13 := by rw [fx.1 _ 0 (by omega), p7.1 _ 0 (by omega)]; exact q6
    rw [w, fx.1 177 3 (by omega), p7.1 177 3 (by omega), q7.1 177 3 (by omega), hF, vx, v1, v0, e53]; omega) with q | ⟨Sb, T6, u2, h2, u3, u4, uM, uB, u5, u6, u7, u8, u9⟩
  · obtain ⟨a1, a2, a3, a4, a5, a6⟩ := q
    exact .inl ⟨a1, a2, a3, fr_trans (fun r k a => q7.1 r k (by omega)) (fr_trans (fun r k a => p7.1 r k (by omega)) a4), fr_trans f3 (fr_trans f5 a5), a6.trans (l5.trans l3)⟩
  rw [show ((0 : Int) + 1 + 1).toNat = 2 from rfl] at u6 u7
  obtain ⟨_, h2⟩ := w_chkE h2
  have u3 : f_MarkReader_readNumbers_33 m (3996 + 1) Sb 3 3 = some (r, S') := u3
  obtain ⟨hr, hS⟩ := rn_end u3
  subst hS
  obtain ⟨M7, B7, A7⟩ := put_num (x := 203) (m := m) (v := gi T5 192 13) (by omega) (by omega) uM uB u5
  refine .inr ⟨_, hr, h2, u4, A7, ?_, ?_, ?_, fr_trans (fun r k a => q7.1 r k (by omega)) (fr_trans (fun r k a => p7.1 r k (by omega)) (fun r k a => u7.1 r k (by omega))), fr_trans f3 (fr_trans f5 (fr_num (by omega) u8)), u9.trans (l5.trans l3)⟩
  · rw [u7.1 _ 0 (by omega), p7.1 _ 0 (by omega), q6, gi_off (by omega), u8 201 m (by omega)]; exact n51.symm
  · rw [u7.1 _ 1 (by omega), p6, gi_off (by omega), u8 202 m (by omega)]; exact n5.symm
  · rw [u6, gi_at]
theorem nq_move {S T S' T1 : SS} {b m : Nat} {r : Int} {o : Option Unit} (hC : CX b S) (hb : 2 ≤ b) (hm : m < 40) (hM : MX 1 T) (hB : BF S T) (hA : AH S T) (hF : gi S 177 3 = gi T 192 3) (hk : gi S (14 + 4 * m) 2 = 4) (g : SS → Option (Option Unit × SS))
    (h1 : f_MarkReader_readNumbers_33 m FU S 3 0 = some (r, S')) (h2 : w_b3 (f_M_readMove T (m : Int)) (fun s => some (none, s)) (fun _ s => g s) = some (o, T1)) : NQ S T b m r S' o T1 g := by
  rcases w_b3E h2 with ⟨v, T2, e2, h2⟩ | ⟨T2, e2, h2⟩
  · rcases nq_move0 hC hb hm hM hB hA hF hk h1 e2 with ⟨_, q, _⟩ | ⟨T', q1, q2, q3⟩
    · cases q
    · cases q2
      exact .inr ⟨_, q1, h2, q3⟩
  · cases h2
    rcases nq_move0 hC hb hm hM hB hA hF hk h1 e2 with ⟨q1, q2, q3⟩ | ⟨T', q1, q2, q3⟩
    · exact .inl ⟨q1, rfl, q3⟩
    · cases q2
/-- stet: one number -/
theorem nq_stet {S T S' T1 : SS} {m : Nat} {r : Int} {o : Option Unit} (hC : CX (m + 2) S) (hm : m < 40) (hM : MX 1 T) (hB : BF S T) (hA : AH S T) (hk : gi S (14 + 4 * m) 2 = 5) (hkk : ∀ k : Nat, k < m → gi S (14 + 4 * k) 2 = gi T 199 k) (hn1 : gi S (14 + 4 * m + 1) 1 = gi T 202 m) (hn2 : gi S (14 + 4 * m + 1) 2 = gi T 203 m)
    (h1 : f_MarkReader_readNumbers_33 m FU S 1 0 = some (r, S')) (h2 : (if gi T 192 12 = 2 then (if (m : Int) ≤ gi T 192 13 then f_M_readLine_456 (m : Int) T else w_chk (0 ≤ (gi T 192 13) ∧ (gi T 192 13) < 41) ((if gi T 199 (gi T 192 13).toNat = 5 then f_M_readLine_456 (m : Int) T else f_M_readLine_466 (m : Int) T))) else f_M_readLine_466 (m : Int) T) = some (o, T1)) : NQ S T (m + 2) m r S' o T1 (f_M_readLine_480 (m : Int)) := by
  have bv := mx_192_13 hM
  have t0 : (0 : Int).toNat = 0 := rfl
  have tm : ((m : Int)).toNat = m := Int.toNat_natCast m
  have hr : RN T (gi T 192 13 < (m : Int) ∧ gi T 199 (gi T 192 13).toNat ≠ 5) (fun r2_z S3_z => w_chk (0 ≤ (m : Int) ∧ (m : Int) < 41) (w_lt (si S3_z 201 m r2_z) (fun S6_z => f_M_readLine_480 (m : Int) S6_z))) o T1 := by
    have go : f_M_readLine_466 (m : Int) T = some (o, T1) → (gi T 192 12 = 2 → gi T 199 (gi T 192 13).toNat ≠ 5) → RN T (gi T 192 13 < (m : Int) ∧ gi T 199 (gi T 192 13).toNat ≠ 5) (fun r2_z S3_z => w_chk (0 ≤ (m : Int) ∧ (m : Int) < 41) (w_lt (si S3_z 201 m r2_z) (fun S6_z => f_M_readLine_480 (m : Int) S6_z))) o T1 := by
      intro h hn
      unfold f_M_readLine_466 at h
      rw [tm] at h
      obtain ⟨_, h⟩ := w_chkE h
      rcases rn_of h with q | q | q
      · exact .inl q
      · exact .inr (.inl ⟨q.1, fun w => q.2.1 ⟨bv.1, by omega⟩, q.2.2⟩)
      · exact .inr (.inr ⟨q.1, ⟨by omega, hn q.1⟩, q.2.2⟩)
    have bad : f_M_readLine_456 (m : Int) T = some (o, T1) → o = none ∧ T1 = f_M_wrong T 2 (gi T 192 10) := by
      intro h
      unfold f_M_readLine_456 w_lt at h
      cases h
      exact ⟨rfl, rfl⟩
    by_cases c : gi T 192 12 = 2
    · rw [if_pos c] at h2
      by_cases c2 : (m : Int) ≤ gi T 192 13
      · rw [if_pos c2] at h2
        exact .inr (.inl ⟨c, fun w => by omega, bad h2⟩)
      · rw [if_neg c2] at h2
        obtain ⟨_, h2⟩ := w_chkE h2
        by_cases c3 : gi T 199 (gi T 192 13).toNat = 5
        · rw [if_pos c3] at h2
          exact .inr (.inl ⟨c, fun w => w.2 c3, bad h2⟩)
        · rw [if_neg c3] at h2
          exact go h2 (fun _ => c3)
    · rw [if_neg c] at h2
      exact go h2 (fun q => absurd q c)
  rcases num_g (n := 3999) hC (by omega) hm hM hB hA (by omega) h1 hr (fun S9 x c9 f9 v9 ex => by
    rw [t0] at v9 f9
    have sm := (c9.2.2.2.2.2 (by omega)).2
    have w := mb_stet c9.2.1 (by rw [f9.1 (14 + 4 * m) 2 (by omega)]; exact hk) (by rw [v9]; exact bv.1) (by omega) ex
    rw [w, v9, f9.1 (14 + 4 * (gi T 192 13).toNat) 2 (by omega)]
    have kv : gi T 192 13 < (m : Int) → gi S (14 + 4 * (gi T 192 13).toNat) 2 = gi T 199 (gi T 192 13).toNat := fun q => hkk _ (by omega)
    constructor
    · rintro (a | a) ⟨d1, d2⟩
      · omega
      · rw [kv d1] at a; exact d2 a
    · intro a
      by_cases d1 : gi T 192 13 < (m : Int)
      · right
        rw [kv d1]
        by_cases d2 : gi T 199 (gi T 192 13).toNat = 5
        · exact d2
        · exact absurd ⟨d1, d2⟩ a
      · left; omega) with q | ⟨S9, T2, q2, h2, q3, q4, qM, qB, q5, q6, q7, q8, q9⟩
  · exact .inl q
  rw [t0] at q6 q7
  obtain ⟨_, h2⟩ := w_chkE h2
  have q3 : f_MarkReader_readNumbers_33 m (3998 + 1) S9 1 1 = some (r, S') := q3
  obtain ⟨hr, hS⟩ := rn_end q3
  subst hS
  obtain ⟨M7, B7, A7⟩ := put_num (x := 201) (m := m) (v := gi T 192 13) (by omega) (by omega) qM qB q5
  refine .inr ⟨_, hr, h2, q4, A7, ?_, ?_, ?_, (fun r k a => q7.1 r k (by omega)), fr_num (by omega) q8, q9⟩
  · rw [q6, gi_at]
  · rw [q7.1 _ 1 (by omega), hn1, gi_off (by omega), q8 202 m (by omega)]
  · rw [q7.1 _ 2 (by omega), hn2, gi_off (by omega), q8 203 m (by omega)]
