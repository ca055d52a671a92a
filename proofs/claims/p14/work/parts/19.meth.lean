set_option maxHeartbeats 4000000 in
set_option maxRecDepth 100000 in
theorem s_Sheet_addAll (l : Launch) (D : va_G) (kc : Nat → ClassId) (b : Nat) (f : Nat → va_E) (i a N : Nat) (hs : isSheet b kc i a N) (i2 a2 N2 : Nat) (hs2 : isSheet b kc i2 a2 N2) (hX0 : XS b kc f) : mMv l yX8_addAll cX8_addAll 3 2 0 0 D kc b 220 f [.ref (b + i), .ref (b + i2)] (fun u => XS b kc u.2 ∧ u.1 = 220 ∧ (∀ j, 192 ≤ j → u.2 j = f j) ∧ True) := by
  refine m_beg_v (by decide) (Nat.le_of_ble_eq_true rfl) ?_
  intro p e s m args below meth c Q C hnm ret hM ls hl
  obtain ⟨hx, hb, hml, hown, hts, hE, hbs⟩ := id C
  obtain ⟨L0, L1, L2, Lm⟩ := m_l01
  have hw1 := hs.2.2.2.2
  have hw2 := hs2.2.2.2.2
  have hl : lv_has ls 3 [(0, .ref (b + i)), (1, .ref (b + i2))] := hl
  refine lv_iconst (v := 0) hx hb dX8_addAll_0 (by decide) ?_
  refine lv_istore_n (lv' := [(2, .int 0), (0, .ref (b + i)), (1, .ref (b + i2))]) hx hb dX8_addAll_1 rfl hl (by decide) rfl (fun ls hl => ?_)
  have loop1 : ∀ (q : Nat) (f1 : Nat → va_E) (H : Heap) (locs : List Loc) (ls : Array Slot) (x : Int32), (0 ≤ x.toInt ∧ x.toInt ≤ 300) → 300 - x.toInt < (q : Int) → lv_has ls 3 [(2, .int x), (0, .ref (b + i)), (1, .ref (b + i2))] → mS D b s 220 f1 H locs → XS b kc f1 → (∀ j, 192 ≤ j → f1 j = f j) → W p l e (mR 2 0 0) s m args below meth c H locs 0 0 Q (F0 m 2 ls []) := by
    intro q
    induction q with
    | zero => intro f1 H locs ls x hi hq hl hM hX1 fr1; exfalso; simp only [Int.natCast_zero, Int.ofNat_zero] at hq; omega
    | succ q ih2 =>
      intro f1 H locs ls x hi2 hq2 hl hM hX1 fr1
      refine lv_iload_n hx hb dX8_addAll_2 rfl (lv_at hl 0 rfl) ?_
      refine lv_aload_n hx hb dX8_addAll_3 rfl (lv_at hl 2 rfl) ?_
      obtain ⟨z3, bz3, o2⟩ := (hs2).1 _ hX1
      refine m_get fl_X8_13_X8 C hM (i := i2) (by omega) o2 (v := .int z3) rfl dX8_addAll_4 ?_
      refine t_icmp_ge (tgt := 25) (a := x.toInt) (d := z3.toInt) hx hb rfl rfl dX8_addAll_7 (by decide) (fun c4 => ?_) (fun c4 => ?_)
      · exact ret 220 f1 _ _ _ _ hM ⟨hX1, rfl, fr1, trivial⟩ dX8_addAll_25
      · refine lv_aload_n hx hb dX8_addAll_10 rfl (lv_at hl 1 rfl) ?_
        refine lv_aload_n hx hb dX8_addAll_11 rfl (lv_at hl 2 rfl) ?_
        refine lv_iload_n hx hb dX8_addAll_12 rfl (lv_at hl 0 rfl) ?_
        refine m_gol (m_runV calV_X8_wordAt wd_589 (s_Sheet_wordAt l D kc b f1 i2 a2 N2 hs2 x hX1) C hM (by omega) o2 rfl hl.1 rfl rfl (Nat.le_of_ble_eq_true rfl) dX8_addAll_13 ⟨Nat.le_of_ble_eq_true rfl, Nat.le_of_ble_eq_true rfl⟩ ⟨Nat.le_of_ble_eq_true rfl, Nat.le_of_ble_eq_true rfl⟩) hM (fun r5 n6 f2 H locs hp hM => ?_)
        obtain ⟨hX2, rfl, fr2, br5⟩ : XS b kc f2 ∧ n6 = 220 ∧ (∀ j, 192 ≤ j → f2 j = f1 j) ∧ True := hp
        obtain ⟨z8, bz8, o7⟩ := (hs).1 _ hX2
        refine m_gov (m_runV calV_X8_add wd_593 (s_Sheet_add l D kc b f2 i a N hs r5 hX2) C hM (by omega) o7 rfl hl.1 rfl rfl (Nat.le_of_ble_eq_true rfl) dX8_addAll_16 ⟨Nat.le_of_ble_eq_true rfl, Nat.le_of_ble_eq_true rfl⟩ ⟨Nat.le_of_ble_eq_true rfl, Nat.le_of_ble_eq_true rfl⟩) hM (fun n10 f3 H locs hp hM => ?_)
        obtain ⟨hX3, rfl, fr3, br9⟩ : XS b kc f3 ∧ n10 = 220 ∧ (∀ j, 192 ≤ j → f3 j = f2 j) ∧ True := hp
        obtain ⟨x11, ex11⟩ : ∃ z : Int32, z = x + 1 := ⟨_, rfl⟩
        have bx11 : x11.toInt = x.toInt + 1 := by rw [ex11]; exact t_add rfl (by decide) (by have q1x := Int32.toInt_lt x; have q2x := Int32.le_toInt x; omega) (by have q1x := Int32.toInt_lt x; have q2x := Int32.le_toInt x; omega)
        refine lv_iinc (v := x11) (lv' := [(2, .int x11), (0, .ref (b + i)), (1, .ref (b + i2))]) hx hb dX8_addAll_19 hl (k := 0) rfl (by rw [ex11]; rfl) (by decide) rfl (fun ls hl => ?_)
        refine lv_goto (tgt := 2) hx hb dX8_addAll_22 (by decide) ?_
        have fr12 : ∀ j, 192 ≤ j → f2 j = f j := fun j hj => (fr2 j hj).trans (fr1 j hj)
        have fr13 : ∀ j, 192 ≤ j → f3 j = f j := fun j hj => (fr3 j hj).trans (fr12 j hj)
        exact ih2 f3 _ _ ls x11 (by first | omega | decide) (by first | omega | decide) (lv_sub hl [0, 1, 2] rfl) hM hX3 fr13
  exact loop1 ((300 - 0 : Int).toNat + 1) f _ _ ls 0 (by first | omega | decide) (by first | omega | decide) (lv_sub hl [0, 1, 2] rfl) hM hX0 (fun _ _ => rfl)
set_option maxHeartbeats 4000000 in
set_option maxRecDepth 100000 in
theorem s_Sheet_copyFrom (l : Launch) (D : va_G) (kc : Nat → ClassId) (b : Nat) (f : Nat → va_E) (i a N : Nat) (hs : isSheet b kc i a N) (i2 a2 N2 : Nat) (hs2 : isSheet b kc i2 a2 N2) (hX0 : XS b kc f) : mMv l yX8_copyFrom cX8_copyFrom 2 3 0 0 D kc b 220 f [.ref (b + i), .ref (b + i2)] (fun u => XS b kc u.2 ∧ u.1 = 220 ∧ (∀ j, 192 ≤ j → u.2 j = f j) ∧ True) := by
  refine m_beg_v (by decide) (Nat.le_of_ble_eq_true rfl) ?_
  intro p e s m args below meth c Q C hnm ret hM ls hl
  obtain ⟨hx, hb, hml, hown, hts, hE, hbs⟩ := id C
  obtain ⟨L0, L1, L2, Lm⟩ := m_l01
  have hw1 := hs.2.2.2.2
  have hw2 := hs2.2.2.2.2
  have hl : lv_has ls 2 [(0, .ref (b + i)), (1, .ref (b + i2))] := hl
  refine lv_aload_n hx hb dX8_copyFrom_0 rfl (lv_at hl 0 rfl) ?_
  obtain ⟨z2, bz2, o1⟩ := (hs).1 _ hX0
  refine m_gov (m_runV calV_X8_clear wd_584 (s_Sheet_clear l D kc b f i a N hs hX0) C hM (by omega) o1 rfl hl.1 rfl rfl (Nat.le_of_ble_eq_true rfl) dX8_copyFrom_1 ⟨Nat.le_of_ble_eq_true rfl, Nat.le_of_ble_eq_true rfl⟩ ⟨Nat.le_of_ble_eq_true rfl, Nat.le_of_ble_eq_true rfl⟩) hM (fun n4 f1 H locs hp hM => ?_)
  obtain ⟨hX1, rfl, fr1, br3⟩ : XS b kc f1 ∧ n4 = 220 ∧ (∀ j, 192 ≤ j → f1 j = f j) ∧ True := hp
  refine lv_aload_n hx hb dX8_copyFrom_4 rfl (lv_at hl 0 rfl) ?_
  refine lv_aload_n hx hb dX8_copyFrom_5 rfl (lv_at hl 1 rfl) ?_
  obtain ⟨z6, bz6, o5⟩ := (hs).1 _ hX1
  refine m_gov (m_runV calV_X8_addAll wd_585 (s_Sheet_addAll l D kc b f1 i a N hs i2 a2 N2 hs2 hX1) C hM (by omega) o5 rfl hl.1 rfl rfl (Nat.le_of_ble_eq_true rfl) dX8_copyFrom_6 ⟨Nat.le_of_ble_eq_true rfl, Nat.le_of_ble_eq_true rfl⟩ ⟨Nat.le_of_ble_eq_true rfl, Nat.le_of_ble_eq_true rfl⟩) hM (fun n8 f2 H locs hp hM => ?_)
  obtain ⟨hX2, rfl, fr2, br7⟩ : XS b kc f2 ∧ n8 = 220 ∧ (∀ j, 192 ≤ j → f2 j = f1 j) ∧ True := hp
  have fr9 : ∀ j, 192 ≤ j → f1 j = f j := fun j hj => (fr1 j hj).trans rfl
  have fr10 : ∀ j, 192 ≤ j → f2 j = f j := fun j hj => (fr2 j hj).trans (fr9 j hj)
  exact ret 220 f2 _ _ _ _ hM ⟨hX2, rfl, fr10, trivial⟩ dX8_copyFrom_9
set_option maxHeartbeats 4000000 in
set_option maxRecDepth 100000 in
theorem s_MP_feed (l : Launch) (D : va_G) (kc : Nat → ClassId) (b : Nat) (f : Nat → va_E) (a1 a2 a3 a4 a5 : Int32) (hX0 : XS b kc f) : mMi l yX11_feed cX11_feed 6 .int 2 0 0 D kc b 220 f [.ref (b + 0), .int a1, .int a2, .int a3, .int a4, .int a5] (fun r u => XS b kc u.2 ∧ u.1 = 220 ∧ (∀ j, 192 ≤ j → u.2 j = f j) ∧ True) := by
  refine m_beg_i (by decide) (Nat.le_of_ble_eq_true rfl) ?_
  intro p e s m args below meth c Q C hnm ret hM ls hl
  obtain ⟨hx, hb, hml, hown, hts, hE, hbs⟩ := id C
  obtain ⟨L0, L1, L2, Lm⟩ := m_l01
  have hl : lv_has ls 6 [(0, .ref (b + 0)), (1, .int a1), (2, .int a2), (3, .int a3), (4, .int a4), (5, .int a5)] := hl
  refine lv_aload_n hx hb dX11_feed_0 rfl (lv_at hl 0 rfl) ?_
  have o1 : f 0 = .inr (11, [.ref (b + 1), .ref (b + 3), .ref (b + 4), .ref (b + 6), .ref (b + 8), .ref (b + 10), .ref (b + 174), .ref (b + 177), .ref (b + 178), .ref (b + 181), .ref (b + 183), .ref (b + 190)]) := hX0.a 0 (by decide)
  refine m_get fl_X11_12_X11 C hM (i := 0) (by omega) o1 (v := .ref (b + 1)) rfl dX11_feed_1 ?_
  obtain ⟨z3, b4, o2⟩ := hX0.a 1 (by decide)
  refine m_getN fl_X11_87_X10 C hM (i := 1) (by omega) o2 (v := .int z3) rfl dX11_feed_4 ?_
  refine lv_bipush (v := 20) hx hb dX11_feed_7 (by decide) ?_
  refine lv_iadd hx hb dX11_feed_9 ?_
  refine lv_topi (fun x5 ex5 => ?_)
  have bx5 : x5.toInt = z3.toInt + 20 := by rw [ex5]; exact t_add rfl (by decide) (by have q1z3 := Int32.toInt_lt z3; have q2z3 := Int32.le_toInt z3; omega) (by have q1z3 := Int32.toInt_lt z3; have q2z3 := Int32.le_toInt z3; omega)
  refine lv_sipush (v := 2000) hx hb dX11_feed_10 (by decide) ?_
  refine t_icmp_le (tgt := 19) (a := x5.toInt) (d := 2000) hx hb rfl (by decide) dX11_feed_13 (by decide) (fun c6 => ?_) (fun c6 => ?_)
  · refine lv_aload_n hx hb dX11_feed_19 rfl (lv_at hl 0 rfl) ?_
    refine m_get fl_X11_12_X11 C hM (i := 0) (by omega) o1 (v := .ref (b + 1)) rfl dX11_feed_20 ?_
    refine lv_iload_n hx hb dX11_feed_23 rfl (lv_at hl 1 rfl) ?_
    refine m_gov (m_runV calV_X10_addFour wd_441 (s_Tape_addFour l D kc b f a1 hX0) C hM (by omega) o2 rfl hl.1 rfl rfl (Nat.le_of_ble_eq_true rfl) dX11_feed_24 ⟨Nat.le_of_ble_eq_true rfl, Nat.le_of_ble_eq_true rfl⟩ ⟨Nat.le_of_ble_eq_true rfl, Nat.le_of_ble_eq_true rfl⟩) hM (fun n8 f1 H locs hp hM => ?_)
    obtain ⟨hX1, rfl, fr1, br7⟩ : XS b kc f1 ∧ n8 = 220 ∧ (∀ j, 192 ≤ j → f1 j = f j) ∧ True := hp
    refine lv_aload_n hx hb dX11_feed_27 rfl (lv_at hl 0 rfl) ?_
    have o9 : f1 0 = .inr (11, [.ref (b + 1), .ref (b + 3), .ref (b + 4), .ref (b + 6), .ref (b + 8), .ref (b + 10), .ref (b + 174), .ref (b + 177), .ref (b + 178), .ref (b + 181), .ref (b + 183), .ref (b + 190)]) := hX1.a 0 (by decide)
    refine m_get fl_X11_12_X11 C hM (i := 0) (by omega) o9 (v := .ref (b + 1)) rfl dX11_feed_28 ?_
    refine lv_iload_n hx hb dX11_feed_31 rfl (lv_at hl 2 rfl) ?_
    obtain ⟨z11, b12, o10⟩ := hX1.a 1 (by decide)
    refine m_gov (m_runV calV_X10_addFour wd_441 (s_Tape_addFour l D kc b f1 a2 hX1) C hM (by omega) o10 rfl hl.1 rfl rfl (Nat.le_of_ble_eq_true rfl) dX11_feed_32 ⟨Nat.le_of_ble_eq_true rfl, Nat.le_of_ble_eq_true rfl⟩ ⟨Nat.le_of_ble_eq_true rfl, Nat.le_of_ble_eq_true rfl⟩) hM (fun n14 f2 H locs hp hM => ?_)
    obtain ⟨hX2, rfl, fr2, br13⟩ : XS b kc f2 ∧ n14 = 220 ∧ (∀ j, 192 ≤ j → f2 j = f1 j) ∧ True := hp
    refine lv_aload_n hx hb dX11_feed_35 rfl (lv_at hl 0 rfl) ?_
    have o15 : f2 0 = .inr (11, [.ref (b + 1), .ref (b + 3), .ref (b + 4), .ref (b + 6), .ref (b + 8), .ref (b + 10), .ref (b + 174), .ref (b + 177), .ref (b + 178), .ref (b + 181), .ref (b + 183), .ref (b + 190)]) := hX2.a 0 (by decide)
    refine m_get fl_X11_12_X11 C hM (i := 0) (by omega) o15 (v := .ref (b + 1)) rfl dX11_feed_36 ?_
    refine lv_iload_n hx hb dX11_feed_39 rfl (lv_at hl 3 rfl) ?_
    obtain ⟨z17, b18, o16⟩ := hX2.a 1 (by decide)
    refine m_gov (m_runV calV_X10_addFour wd_441 (s_Tape_addFour l D kc b f2 a3 hX2) C hM (by omega) o16 rfl hl.1 rfl rfl (Nat.le_of_ble_eq_true rfl) dX11_feed_40 ⟨Nat.le_of_ble_eq_true rfl, Nat.le_of_ble_eq_true rfl⟩ ⟨Nat.le_of_ble_eq_true rfl, Nat.le_of_ble_eq_true rfl⟩) hM (fun n20 f3 H locs hp hM => ?_)
    obtain ⟨hX3, rfl, fr3, br19⟩ : XS b kc f3 ∧ n20 = 220 ∧ (∀ j, 192 ≤ j → f3 j = f2 j) ∧ True := hp
    refine lv_aload_n hx hb dX11_feed_43 rfl (lv_at hl 0 rfl) ?_
    have o21 : f3 0 = .inr (11, [.ref (b + 1), .ref (b + 3), .ref (b + 4), .ref (b + 6), .ref (b + 8), .ref (b + 10), .ref (b + 174), .ref (b + 177), .ref (b + 178), .ref (b + 181), .ref (b + 183), .ref (b + 190)]) := hX3.a 0 (by decide)
    refine m_get fl_X11_12_X11 C hM (i := 0) (by omega) o21 (v := .ref (b + 1)) rfl dX11_feed_44 ?_
    refine lv_iload hx hb dX11_feed_47 (lv_at hl 4 rfl) ?_
    obtain ⟨z23, b24, o22⟩ := hX3.a 1 (by decide)
    refine m_gov (m_runV calV_X10_addFour wd_441 (s_Tape_addFour l D kc b f3 a4 hX3) C hM (by omega) o22 rfl hl.1 rfl rfl (Nat.le_of_ble_eq_true rfl) dX11_feed_49 ⟨Nat.le_of_ble_eq_true rfl, Nat.le_of_ble_eq_true rfl⟩ ⟨Nat.le_of_ble_eq_true rfl, Nat.le_of_ble_eq_true rfl⟩) hM (fun n26 f4 H locs hp hM => ?_)
    obtain ⟨hX4, rfl, fr4, br25⟩ : XS b kc f4 ∧ n26 = 220 ∧ (∀ j, 192 ≤ j → f4 j = f3 j) ∧ True := hp
    refine lv_aload_n hx hb dX11_feed_52 rfl (lv_at hl 0 rfl) ?_
    have o27 : f4 0 = .inr (11, [.ref (b + 1), .ref (b + 3), .ref (b + 4), .ref (b + 6), .ref (b + 8), .ref (b + 10), .ref (b + 174), .ref (b + 177), .ref (b + 178), .ref (b + 181), .ref (b + 183), .ref (b + 190)]) := hX4.a 0 (by decide)
    refine m_get fl_X11_12_X11 C hM (i := 0) (by omega) o27 (v := .ref (b + 1)) rfl dX11_feed_53 ?_
    refine lv_iload hx hb dX11_feed_56 (lv_at hl 5 rfl) ?_
    obtain ⟨z29, b30, o28⟩ := hX4.a 1 (by decide)
    refine m_gov (m_runV calV_X10_addFour wd_441 (s_Tape_addFour l D kc b f4 a5 hX4) C hM (by omega) o28 rfl hl.1 rfl rfl (Nat.le_of_ble_eq_true rfl) dX11_feed_58 ⟨Nat.le_of_ble_eq_true rfl, Nat.le_of_ble_eq_true rfl⟩ ⟨Nat.le_of_ble_eq_true rfl, Nat.le_of_ble_eq_true rfl⟩) hM (fun n32 f5 H locs hp hM => ?_)
    obtain ⟨hX5, rfl, fr5, br31⟩ : XS b kc f5 ∧ n32 = 220 ∧ (∀ j, 192 ≤ j → f5 j = f4 j) ∧ True := hp
    refine lv_aload_n hx hb dX11_feed_61 rfl (lv_at hl 0 rfl) ?_
    have o33 : f5 0 = .inr (11, [.ref (b + 1), .ref (b + 3), .ref (b + 4), .ref (b + 6), .ref (b + 8), .ref (b + 10), .ref (b + 174), .ref (b + 177), .ref (b + 178), .ref (b + 181), .ref (b + 183), .ref (b + 190)]) := hX5.a 0 (by decide)
    refine m_get fl_X11_12_X11 C hM (i := 0) (by omega) o33 (v := .ref (b + 1)) rfl dX11_feed_62 ?_
    obtain ⟨z35, b36, o34⟩ := hX5.a 1 (by decide)
    refine m_getN fl_X11_87_X10 C hM (i := 1) (by omega) o34 (v := .int z35) rfl dX11_feed_65 ?_
    have fr37 : ∀ j, 192 ≤ j → f1 j = f j := fun j hj => (fr1 j hj).trans rfl
    have fr38 : ∀ j, 192 ≤ j → f2 j = f j := fun j hj => (fr2 j hj).trans (fr37 j hj)
    have fr39 : ∀ j, 192 ≤ j → f3 j = f j := fun j hj => (fr3 j hj).trans (fr38 j hj)
    have fr40 : ∀ j, 192 ≤ j → f4 j = f j := fun j hj => (fr4 j hj).trans (fr39 j hj)
    have fr41 : ∀ j, 192 ≤ j → f5 j = f j := fun j hj => (fr5 j hj).trans (fr40 j hj)
    exact ret 220 f5 _ _ _ _ z35 hM ⟨hX5, rfl, fr41, trivial⟩ dX11_feed_68
  · refine lv_bipush (v := (-3)) hx hb dX11_feed_16 (by decide) ?_
    exact ret 220 f _ _ _ _ (-3) hM ⟨hX0, rfl, (fun _ _ => rfl), trivial⟩ dX11_feed_18
set_option maxHeartbeats 4000000 in
set_option maxRecDepth 100000 in
theorem s_Bill_setPrice (l : Launch) (D : va_G) (kc : Nat → ClassId) (b : Nat) (f : Nat → va_E) (a1 a2 : Int32) (hX0 : XS b kc f) : mMi l yX0_setPrice cX0_setPrice 4 .int 2 0 0 D kc b 220 f [.ref (b + 190), .int a1, .int a2] (fun r u => XS b kc u.2 ∧ u.1 = 220 ∧ (∀ j, 192 ≤ j → u.2 j = f j) ∧ True) := by
  refine m_beg_i (by decide) (Nat.le_of_ble_eq_true rfl) ?_
  intro p e s m args below meth c Q C hnm ret hM ls hl
  obtain ⟨hx, hb, hml, hown, hts, hE, hbs⟩ := id C
  obtain ⟨L0, L1, L2, Lm⟩ := m_l01
  have hl : lv_has ls 4 [(0, .ref (b + 190)), (1, .int a1), (2, .int a2)] := hl
  refine lv_aload_n hx hb dX0_setPrice_0 rfl (lv_at hl 0 rfl) ?_
  refine lv_iload_n hx hb dX0_setPrice_1 rfl (lv_at hl 1 rfl) ?_
  have o1 : f 190 = .inr (0, [.ref (b + 191)]) := hX0.b 190 (by decide) (by decide)
  refine m_goi (m_runV calV_X0_priceOf wd_987 (s_Bill_priceOf l D kc b f a1 hX0) C hM (by omega) o1 rfl hl.1 rfl rfl (Nat.le_of_ble_eq_true rfl) dX0_setPrice_2 ⟨Nat.le_of_ble_eq_true rfl, Nat.le_of_ble_eq_true rfl⟩ ⟨Nat.le_of_ble_eq_true rfl, Nat.le_of_ble_eq_true rfl⟩) hM (fun r2 n3 f1 H locs hp hM => ?_)
  obtain ⟨hX1, rfl, fr1, br2⟩ : XS b kc f1 ∧ n3 = 220 ∧ (∀ j, 192 ≤ j → f1 j = f j) ∧ True := hp
  refine lv_istore_n (lv' := [(3, .int r2), (0, .ref (b + 190)), (1, .int a1), (2, .int a2)]) hx hb dX0_setPrice_5 rfl hl (by decide) rfl (fun ls hl => ?_)
  refine lv_iload_n hx hb dX0_setPrice_6 rfl (lv_at hl 2 rfl) ?_
  refine t_if_lt (tgt := 26) (a := a1.toInt) hx hb rfl dX0_setPrice_7 (by decide) (fun c4 => ?_) (fun c4 => ?_)
  · refine lv_iload_n hx hb dX0_setPrice_26 rfl (lv_at hl 0 rfl) ?_
    have fr5 : ∀ j, 192 ≤ j → f1 j = f j := fun j hj => (fr1 j hj).trans rfl
    exact ret 220 f1 _ _ _ _ r2 hM ⟨hX1, rfl, fr5, trivial⟩ dX0_setPrice_27
  · refine lv_iload_n hx hb dX0_setPrice_10 rfl (lv_at hl 2 rfl) ?_
    refine lv_aload_n hx hb dX0_setPrice_11 rfl (lv_at hl 1 rfl) ?_
    have o6 : f1 190 = .inr (0, [.ref (b + 191)]) := hX1.b 190 (by decide) (by decide)
    refine m_get fl_X0_18_X0 C hM (i := 190) (by omega) o6 (v := .ref (b + 191)) rfl dX0_setPrice_12 ?_
    obtain ⟨g8, o7⟩ := hX1.b 191 (by decide) (by decide)
    refine m_alen C hM (j := 191) (by omega) 1 o7 rfl (v := 5) rfl dX0_setPrice_15 ?_
    refine t_icmp_ge (tgt := 26) (a := a1.toInt) (d := 5) hx hb rfl (by decide) dX0_setPrice_16 (by decide) (fun c9 => ?_) (fun c9 => ?_)
    · refine lv_iload_n hx hb dX0_setPrice_26 rfl (lv_at hl 0 rfl) ?_
      have fr10 : ∀ j, 192 ≤ j → f1 j = f j := fun j hj => (fr1 j hj).trans rfl
      exact ret 220 f1 _ _ _ _ r2 hM ⟨hX1, rfl, fr10, trivial⟩ dX0_setPrice_27
    · refine lv_aload_n hx hb dX0_setPrice_19 rfl (lv_at hl 1 rfl) ?_
      refine m_get fl_X0_18_X0 C hM (i := 190) (by omega) o6 (v := .ref (b + 191)) rfl dX0_setPrice_20 ?_
      refine lv_iload_n hx hb dX0_setPrice_23 rfl (lv_at hl 2 rfl) ?_
      refine lv_iload_n hx hb dX0_setPrice_24 rfl (lv_at hl 3 rfl) ?_
      refine m_iast C hM (j := 191) (by omega) o7 (t_in rfl (by omega) (by omega)) dX0_setPrice_25 (fun H locs f2 ef2 hM => ?_)
      have ef2 : f2 = va_up f1 191 (.inl (kc 1, 5, .inl (upd g8 a1.toNatClampNeg a2))) := ef2
      refine lv_iload_n hx hb dX0_setPrice_26 rfl (lv_at hl 0 rfl) ?_
      have hX2 : XS b kc f2 := hX1.set ef2 (okX_b (by decide) ⟨_, rfl⟩)
      have fr11 : ∀ j, 192 ≤ j → f1 j = f j := fun j hj => (fr1 j hj).trans rfl
      have fr12 : ∀ j, 192 ≤ j → f2 j = f j := fun j hj => m_ne ef2 (fr11 j hj) (by omega)
      exact ret 220 f2 _ _ _ _ r2 hM ⟨hX2, rfl, fr12, trivial⟩ dX0_setPrice_27
