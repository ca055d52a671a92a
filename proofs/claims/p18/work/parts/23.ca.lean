def f_Fault_clear (S : SS) : SS := w_lt (si S 3 0 0) (fun S1_z => w_lt (si S1_z 3 1 (-1)) (fun S2_z => S2_z))
set_option maxHeartbeats 4000000 in
set_option maxRecDepth 100000 in
theorem g_Fault_clear (l : Launch) (D : va_G) (kc : Nat → ClassId) (b : Nat) (T S : SS) (hS : rng S) {Sr : SS} (h : f_Fault_clear S = Sr) : cV l yX1_clear cX1_clear 1 1 D kc b (jX b kc T) S [.ref (b + 3)] Sr := by
  refine g_beg_v (by decide) (Nat.le_of_ble_eq_true rfl) ?_
  intro p e s m args below meth c Q C ret hM ls hl
  obtain ⟨hx, hb, hml, hown, hts, hE, hbs⟩ := id C
  have hl : lv_has ls 1 [(0, .ref (b + 3))] := hl
  unfold f_Fault_clear at h
  refine lv_aload_n hx hb dX1_clear_0 rfl (lv_at hl 0 rfl) ?_
  refine lv_iconst (v := 0) hx hb dX1_clear_1 (by decide) ?_
  refine g_put fl_X1_9_X1 C hM (i := 3) (by omega) (e_3 b kc T S) rfl rfl (Nat.le_of_ble_eq_true rfl) (fs1 := [.int 0, .int (oi (gi S 3 1))]) rfl (p_3_0 (show (0 : Int32).toInt = 0 by decide)) (rng_si hS (i32_of (show (0 : Int32).toInt = 0 by decide))) h dX1_clear_2 (fun S1_z H locs h hM hS => ?_)
  refine lv_aload_n hx hb dX1_clear_5 rfl (lv_at hl 0 rfl) ?_
  refine lv_iconst (v := (-1)) hx hb dX1_clear_6 (by decide) ?_
  refine g_put fl_X1_15_X1 C hM (i := 3) (by omega) (e_3 b kc T S1_z) rfl rfl (Nat.le_of_ble_eq_true rfl) (fs1 := [.int (oi (gi S1_z 3 0)), .int (-1)]) rfl (p_3_1 (show ((-1) : Int32).toInt = (-1) by decide)) (rng_si hS (i32_of (show ((-1) : Int32).toInt = (-1) by decide))) h dX1_clear_7 (fun S2_z H locs h hM hS => ?_)
  exact ret S2_z _ _ _ _ h hM hS dX1_clear_10

def f_Fault_tellOf (S : SS) (v1 : Int) (v2 : Int) : Option (Int × SS) := w_lt (si S 3 0 v1) (fun S1_z => w_lt (si S1_z 3 1 v2) (fun S2_z => some (0, S2_z)))
set_option maxHeartbeats 4000000 in
set_option maxRecDepth 100000 in
theorem g_Fault_tellOf (l : Launch) (D : va_G) (kc : Nat → ClassId) (b : Nat) (T S : SS) (x1 : Int32) (v1 : Int) (hx1 : x1.toInt = v1) (x2 : Int32) (v2 : Int) (hx2 : x2.toInt = v2) (hS : rng S) {vr : Int} {Sr : SS} (h : f_Fault_tellOf S v1 v2 = some (vr, Sr)) : cI l yX1_tellOf cX1_tellOf 3 .boolean 1 D kc b (jX b kc T) S [.ref (b + 3), .int x1, .int x2] vr Sr := by
  refine g_beg_z (by decide) (Nat.le_of_ble_eq_true rfl) ?_
  intro p e s m args below meth c Q C ret hM ls hl
  obtain ⟨hx, hb, hml, hown, hts, hE, hbs⟩ := id C
  have hl : lv_has ls 3 [(0, .ref (b + 3)), (1, .int x1), (2, .int x2)] := hl
  unfold f_Fault_tellOf at h
  refine lv_aload_n hx hb dX1_tellOf_0 rfl (lv_at hl 0 rfl) ?_
  refine lv_iload_n hx hb dX1_tellOf_1 rfl (lv_at hl 1 rfl) ?_
  refine g_put fl_X1_9_X1 C hM (i := 3) (by omega) (e_3 b kc T S) rfl rfl (Nat.le_of_ble_eq_true rfl) (fs1 := [.int x1, .int (oi (gi S 3 1))]) rfl (p_3_0 hx1) (rng_si hS (i32_of hx1)) h dX1_tellOf_2 (fun S1_z H locs h hM hS => ?_)
  refine lv_aload_n hx hb dX1_tellOf_5 rfl (lv_at hl 0 rfl) ?_
  refine lv_iload_n hx hb dX1_tellOf_6 rfl (lv_at hl 2 rfl) ?_
  refine g_put fl_X1_15_X1 C hM (i := 3) (by omega) (e_3 b kc T S1_z) rfl rfl (Nat.le_of_ble_eq_true rfl) (fs1 := [.int (oi (gi S1_z 3 0)), .int x2]) rfl (p_3_1 hx2) (rng_si hS (i32_of hx2)) h dX1_tellOf_7 (fun S2_z H locs h hM hS => ?_)
  refine lv_iconst (v := 0) hx hb dX1_tellOf_10 (by decide) ?_
  exact ret S2_z _ _ _ _ 0 ((show (0 : Int32).toInt = 0 by decide).trans (r_1 h)) (by rw [← (r_1 h)]; exact (by decide)) (r_2 h) hM hS dX1_tellOf_11

def f_Tape_byteAt (S : SS) (v1 : Int) : Option Int := (if v1 < 0 then some (-1) else (if gi S 1 1 ≤ v1 then some (-1) else (if v1 < 2000 then w_chk (0 ≤ v1 ∧ v1 < 2000) (some (andi (gi S 2 (v1).toNat) 255)) else some (-1))))
set_option maxHeartbeats 4000000 in
set_option maxRecDepth 100000 in
theorem g_Tape_byteAt (l : Launch) (D : va_G) (kc : Nat → ClassId) (b : Nat) (T S : SS) (x1 : Int32) (v1 : Int) (hx1 : x1.toInt = v1) (hS : rng S) {vr : Int} (h : f_Tape_byteAt S v1 = some vr) : cI l yX10_byteAt cX10_byteAt 2 .int 1 D kc b (jX b kc T) S [.ref (b + 1), .int x1] vr S := by
  refine g_beg_i (by decide) (Nat.le_of_ble_eq_true rfl) ?_
  intro p e s m args below meth c Q C ret hM ls hl
  obtain ⟨hx, hb, hml, hown, hts, hE, hbs⟩ := id C
  have hl : lv_has ls 2 [(0, .ref (b + 1)), (1, .int x1)] := hl
  unfold f_Tape_byteAt at h
  refine lv_iload_n hx hb dX10_byteAt_0 rfl (lv_at hl 1 rfl) ?_
  refine g_if_lt (tgt := 21) hx hb hx1 h dX10_byteAt_1 (by decide) (fun h => ?_) (fun h => ?_)
  · refine lv_iconst (v := (-1)) hx hb dX10_byteAt_21 (by decide) ?_
    refine lv_goto (tgt := 35) hx hb dX10_byteAt_22 (by decide) ?_
    exact ret S _ _ _ _ (-1) ((show ((-1) : Int32).toInt = (-1) by decide).trans (Option.some.inj h)) rfl hM hS dX10_byteAt_35
  · refine lv_iload_n hx hb dX10_byteAt_4 rfl (lv_at hl 1 rfl) ?_
    refine lv_aload_n hx hb dX10_byteAt_5 rfl (lv_at hl 0 rfl) ?_
    refine g_get fl_X10_15_X10 C hM (i := 1) (r := 1) (by omega) (e_1 b kc T S) rfl hS dX10_byteAt_6 (fun z1_z bz1_z => ?_)
    refine g_icmp_ge (tgt := 21) hx hb hx1 bz1_z h dX10_byteAt_9 (by decide) (fun h => ?_) (fun h => ?_)
    · refine lv_iconst (v := (-1)) hx hb dX10_byteAt_21 (by decide) ?_
      refine lv_goto (tgt := 35) hx hb dX10_byteAt_22 (by decide) ?_
      exact ret S _ _ _ _ (-1) ((show ((-1) : Int32).toInt = (-1) by decide).trans (Option.some.inj h)) rfl hM hS dX10_byteAt_35
    · refine lv_iload_n hx hb dX10_byteAt_12 rfl (lv_at hl 1 rfl) ?_
      refine lv_aload_n hx hb dX10_byteAt_13 rfl (lv_at hl 0 rfl) ?_
      refine m_get fl_X10_9_X10 C hM (i := 1) (by omega) (e_1 b kc T S) (v := .ref (b + 2)) rfl dX10_byteAt_14 ?_
      refine m_alen C hM (j := 2) (by omega) 0 (e_2 b kc T S) rfl (v := 2000) rfl dX10_byteAt_17 ?_
      refine g_icmp_lt (tgt := 25) hx hb hx1 (show (2000 : Int32).toInt = 2000 by decide) h dX10_byteAt_18 (by decide) (fun h => ?_) (fun h => ?_)
      · refine lv_aload_n hx hb dX10_byteAt_25 rfl (lv_at hl 0 rfl) ?_
        refine m_get fl_X10_9_X10 C hM (i := 1) (by omega) (e_1 b kc T S) (v := .ref (b + 2)) rfl dX10_byteAt_26 ?_
        refine lv_iload_n hx hb dX10_byteAt_29 rfl (lv_at hl 1 rfl) ?_
        refine g_bald C hM (j := 2) (by omega) (jK_X b kc T (by omega)) (a_2 b kc) hS hx1 (B := 2000) rfl h dX10_byteAt_30 (fun z2_z bz2_z h => ?_)
        refine lv_sipush (v := 255) hx hb dX10_byteAt_31 (by decide) ?_
        refine g_iand hx hb bz2_z (show (255 : Int32).toInt = 255 by decide) dX10_byteAt_34 (fun z3_z bz3_z => ?_)
        exact ret S _ _ _ _ z3_z (bz3_z.trans (Option.some.inj h)) rfl hM hS dX10_byteAt_35
      · refine lv_iconst (v := (-1)) hx hb dX10_byteAt_21 (by decide) ?_
        refine lv_goto (tgt := 35) hx hb dX10_byteAt_22 (by decide) ?_
        exact ret S _ _ _ _ (-1) ((show ((-1) : Int32).toInt = (-1) by decide).trans (Option.some.inj h)) rfl hM hS dX10_byteAt_35

def f_Tape_addFour_49 (v1 : Int) (kf3_ : SS → Int → Option SS) (S : SS) (v2_ : Int) : Option SS := w_chk (i32 (v2_ + (-8))) (kf3_ S (v2_ + (-8)))
def f_Tape_addFour_3_b (v1 : Int) (kf3_ : SS → Int → Option SS) (S : SS) (v2_ : Int) : Option SS := (if v2_ < 0 then some S else (if gi S 1 1 < 0 then f_Tape_addFour_49 v1 kf3_ S v2_ else (if 2000 ≤ gi S 1 1 then f_Tape_addFour_49 v1 kf3_ S v2_ else w_chk (0 ≤ (gi S 1 1) ∧ (gi S 1 1) < 2000) (w_lt (si S 2 (gi S 1 1).toNat (tob (tob (ushri v1 v2_)))) (fun S6_z => w_chk (i32 ((gi S6_z 1 1) + 1)) (w_lt (si S6_z 1 1 ((gi S6_z 1 1) + 1)) (fun S9_z => f_Tape_addFour_49 v1 kf3_ S9_z v2_)))))))
def f_Tape_addFour_3 (v1 : Int) : Nat → SS → Int → Option SS
  | 0 => fun _ _ => none
  | n + 1 => f_Tape_addFour_3_b v1 (f_Tape_addFour_3 v1 n)
def f_Tape_addFour (S : SS) (v1 : Int) : Option SS := f_Tape_addFour_3 v1 FU S 24
set_option maxHeartbeats 4000000 in
set_option maxRecDepth 100000 in
theorem g_Tape_addFour (l : Launch) (D : va_G) (kc : Nat → ClassId) (b : Nat) (T S : SS) (x1 : Int32) (v1 : Int) (hx1 : x1.toInt = v1) (hS : rng S) {Sr : SS} (h : f_Tape_addFour S v1 = some Sr) : cV l yX10_addFour cX10_addFour 3 1 D kc b (jX b kc T) S [.ref (b + 1), .int x1] Sr := by
  refine g_beg_v (by decide) (Nat.le_of_ble_eq_true rfl) ?_
  intro p e s m args below meth c Q C ret hM ls hl
  obtain ⟨hx, hb, hml, hown, hts, hE, hbs⟩ := id C
  have hl : lv_has ls 3 [(0, .ref (b + 1)), (1, .int x1)] := hl
  unfold f_Tape_addFour at h
  have B49 : ∀ (kf3_ : SS → Int → Option SS) (hkf3_ : ∀ (S : SS) (H : Heap) (locs : List Loc) (ls : Array Slot) (x2_ : Int32) (v2_ : Int) (hx2_ : x2_.toInt = v2_), rng S → mS D b s 220 (jX b kc T S) H locs → lv_has ls 3 [(0, .ref (b + 1)), (1, .int x1), (2, .int x2_)] → kf3_ S v2_ = some Sr → W p l e (mR 1 0 0) s m args below meth c H locs 0 0 Q (F0 m 3 ls [])), ∀ (S : SS) (H : Heap) (locs : List Loc) (ls : Array Slot) (x2_ : Int32) (v2_ : Int) (hx2_ : x2_.toInt = v2_), rng S → mS D b s 220 (jX b kc T S) H locs → lv_has ls 3 [(0, .ref (b + 1)), (1, .int x1), (2, .int x2_)] → f_Tape_addFour_49 v1 kf3_ S v2_ = some Sr → W p l e (mR 1 0 0) s m args below meth c H locs 0 0 Q (F0 m 49 ls []) := by
    intro kf3_ hkf3_ S H locs ls x2_ v2_ hx2_ hS hM hl h
    unfold f_Tape_addFour_49 at h
    refine g_iinc (y := (-8)) hx hb hx2_ (by decide) (by decide) h dX10_addFour_49 hl (k := 2) rfl (by decide) (fun z1_z ls bz1_z h hl => ?_)
    have hl : lv_has ls 3 [(2, .int z1_z), (0, .ref (b + 1)), (1, .int x1)] := hl
    refine lv_goto (tgt := 3) hx hb dX10_addFour_52 (by decide) ?_
    exact hkf3_ S _ _ _ z1_z (v2_ + (-8)) bz1_z hS hM (lv_sub hl [1, 2, 0] rfl) h
  have B3 : ∀ (n : Nat), ∀ (S : SS) (H : Heap) (locs : List Loc) (ls : Array Slot) (x2_ : Int32) (v2_ : Int) (hx2_ : x2_.toInt = v2_), rng S → mS D b s 220 (jX b kc T S) H locs → lv_has ls 3 [(0, .ref (b + 1)), (1, .int x1), (2, .int x2_)] → f_Tape_addFour_3 v1 n S v2_ = some Sr → W p l e (mR 1 0 0) s m args below meth c H locs 0 0 Q (F0 m 3 ls []) := by
    intro n
    induction n with
    | zero => intro S H locs ls x2_ v2_ hx2_ hS hM hl h; exact absurd (h : none = some _) (fun q => nomatch q)
    | succ n hkf3_ =>
      intro S H locs ls x2_ v2_ hx2_ hS hM hl h
      have h : f_Tape_addFour_3_b v1 (f_Tape_addFour_3 v1 n) S v2_ = some Sr := h
      unfold f_Tape_addFour_3_b at h
      refine lv_iload_n hx hb dX10_addFour_3 rfl (lv_at hl 2 rfl) ?_
      refine g_if_lt (tgt := 55) hx hb hx2_ h dX10_addFour_4 (by decide) (fun h => ?_) (fun h => ?_)
      · exact ret S _ _ _ _ (Option.some.inj h) hM hS dX10_addFour_55
      · refine lv_aload_n hx hb dX10_addFour_7 rfl (lv_at hl 0 rfl) ?_
        refine g_get fl_X10_15_X10 C hM (i := 1) (r := 1) (by omega) (e_1 b kc T S) rfl hS dX10_addFour_8 (fun z1_z bz1_z => ?_)
        refine g_if_lt (tgt := 49) hx hb bz1_z h dX10_addFour_11 (by decide) (fun h => ?_) (fun h => ?_)
        · exact B49 (f_Tape_addFour_3 v1 n) hkf3_ S _ _ _ x2_ v2_ hx2_ hS hM (lv_sub hl [0, 1, 2] rfl) h
        · refine lv_aload_n hx hb dX10_addFour_14 rfl (lv_at hl 0 rfl) ?_
          refine g_get fl_X10_15_X10 C hM (i := 1) (r := 1) (by omega) (e_1 b kc T S) rfl hS dX10_addFour_15 (fun z2_z bz2_z => ?_)
          refine lv_aload_n hx hb dX10_addFour_18 rfl (lv_at hl 0 rfl) ?_
          refine m_get fl_X10_9_X10 C hM (i := 1) (by omega) (e_1 b kc T S) (v := .ref (b + 2)) rfl dX10_addFour_19 ?_
          refine m_alen C hM (j := 2) (by omega) 0 (e_2 b kc T S) rfl (v := 2000) rfl dX10_addFour_22 ?_
          refine g_icmp_ge (tgt := 49) hx hb bz2_z (show (2000 : Int32).toInt = 2000 by decide) h dX10_addFour_23 (by decide) (fun h => ?_) (fun h => ?_)
          · exact B49 (f_Tape_addFour_3 v1 n) hkf3_ S _ _ _ x2_ v2_ hx2_ hS hM (lv_sub hl [0, 1, 2] rfl) h
          · refine lv_aload_n hx hb dX10_addFour_26 rfl (lv_at hl 0 rfl) ?_
            refine m_get fl_X10_9_X10 C hM (i := 1) (by omega) (e_1 b kc T S) (v := .ref (b + 2)) rfl dX10_addFour_27 ?_
            refine lv_aload_n hx hb dX10_addFour_30 rfl (lv_at hl 0 rfl) ?_
            refine g_get fl_X10_15_X10 C hM (i := 1) (r := 1) (by omega) (e_1 b kc T S) rfl hS dX10_addFour_31 (fun z3_z bz3_z => ?_)
            refine lv_iload_n hx hb dX10_addFour_34 rfl (lv_at hl 1 rfl) ?_
            refine lv_iload_n hx hb dX10_addFour_35 rfl (lv_at hl 2 rfl) ?_
            refine g_iushr hx hb hx1 hx2_ dX10_addFour_36 (fun z4_z bz4_z => ?_)
            refine g_i2b hx hb bz4_z dX10_addFour_37 (fun z5_z bz5_z => ?_)
            refine g_bast C hM (j := 2) (by omega) (jK_X b kc T (by omega)) (a_2 b kc) hS bz3_z bz5_z (B := 2000) rfl h dX10_addFour_38 (fun S6_z H locs h hM hS => ?_)
            refine lv_aload_n hx hb dX10_addFour_39 rfl (lv_at hl 0 rfl) ?_
            refine lv_dup hx hb dX10_addFour_40 rfl ?_
            refine g_get fl_X10_15_X10 C hM (i := 1) (r := 1) (by omega) (e_1 b kc T S6_z) rfl hS dX10_addFour_41 (fun z7_z bz7_z => ?_)
            refine lv_iconst (v := 1) hx hb dX10_addFour_44 (by decide) ?_
            refine g_iadd hx hb bz7_z (show (1 : Int32).toInt = 1 by decide) h dX10_addFour_45 (fun z8_z bz8_z h => ?_)
            refine g_put fl_X10_15_X10 C hM (i := 1) (by omega) (e_1 b kc T S6_z) rfl rfl (Nat.le_of_ble_eq_true rfl) (fs1 := [.ref (b + 2), .int z8_z]) rfl (p_1_1 bz8_z) (rng_si hS (i32_of bz8_z)) h dX10_addFour_46 (fun S9_z H locs h hM hS => ?_)
            exact B49 (f_Tape_addFour_3 v1 n) hkf3_ S9_z _ _ _ x2_ v2_ hx2_ hS hM (lv_sub hl [0, 1, 2] rfl) h
  refine lv_bipush (v := 24) hx hb dX10_addFour_0 (by decide) ?_
  refine lv_istore_n (lv' := [(2, .int 24), (0, .ref (b + 1)), (1, .int x1)]) hx hb dX10_addFour_2 rfl hl (by decide) rfl (fun ls hl => ?_)
  exact B3 FU S _ _ _ 24 24 (show (24 : Int32).toInt = 24 by decide) hS hM (lv_sub hl [1, 2, 0] rfl) h

def f_Sheet_clear (S : SS) (q0 : Nat) : SS := w_lt (si S q0 1 0) (fun S1_z => S1_z)
set_option maxHeartbeats 4000000 in
set_option maxRecDepth 100000 in
theorem g_Sheet_clear (l : Launch) (D : va_G) (kc : Nat → ClassId) (b : Nat) (T S : SS) (q0 : Nat) (hq0 : shOk q0) (hS : rng S) {Sr : SS} (h : f_Sheet_clear S q0 = Sr) : cV l yX8_clear cX8_clear 1 1 D kc b (jX b kc T) S [.ref (b + q0)] Sr := by
  refine g_beg_v (by decide) (Nat.le_of_ble_eq_true rfl) ?_
  intro p e s m args below meth c Q C ret hM ls hl
  obtain ⟨hx, hb, hml, hown, hts, hE, hbs⟩ := id C
  have hl : lv_has ls 1 [(0, .ref (b + q0))] := hl
  unfold f_Sheet_clear at h
  refine lv_aload_n hx hb dX8_clear_0 rfl (lv_at hl 0 rfl) ?_
  refine lv_iconst (v := 0) hx hb dX8_clear_1 (by decide) ?_
  refine g_put fl_X8_13_X8 C hM (i := q0) (by omega) (e_sh b kc T S hq0) rfl rfl (Nat.le_of_ble_eq_true rfl) (fs1 := [.ref (b + (q0 + 1)), .int 0]) rfl (p_sh_1 hq0 (show (0 : Int32).toInt = 0 by decide)) (rng_si hS (i32_of (show (0 : Int32).toInt = 0 by decide))) h dX8_clear_2 (fun S1_z H locs h hM hS => ?_)
  exact ret S1_z _ _ _ _ h hM hS dX8_clear_5

def f_Sheet_add (S : SS) (q0 : Nat) (w1 : Int64) : Option SS := (if gi S q0 1 < 0 then some S else (if cap q0 ≤ gi S q0 1 then some S else w_chk (0 ≤ (gi S q0 1) ∧ (gi S q0 1) < cap q0) (w_lt (sl S (q0 + 1) (gi S q0 1).toNat w1) (fun S5_z => w_chk (i32 ((gi S5_z q0 1) + 1)) (w_lt (si S5_z q0 1 ((gi S5_z q0 1) + 1)) (fun S8_z => some S8_z))))))
set_option maxHeartbeats 4000000 in
set_option maxRecDepth 100000 in
theorem g_Sheet_add (l : Launch) (D : va_G) (kc : Nat → ClassId) (b : Nat) (T S : SS) (q0 : Nat) (hq0 : shOk q0) (w1 : Int64) (hS : rng S) {Sr : SS} (h : f_Sheet_add S q0 w1 = some Sr) : cV l yX8_add cX8_add 3 1 D kc b (jX b kc T) S [.ref (b + q0), .long w1] Sr := by
  refine g_beg_v (by decide) (Nat.le_of_ble_eq_true rfl) ?_
  intro p e s m args below meth c Q C ret hM ls hl
  obtain ⟨hx, hb, hml, hown, hts, hE, hbs⟩ := id C
  have hl : lv_has ls 3 [(0, .ref (b + q0)), (1, .long w1)] := hl
  unfold f_Sheet_add at h
  refine lv_aload_n hx hb dX8_add_0 rfl (lv_at hl 0 rfl) ?_
  refine g_get fl_X8_13_X8 C hM (i := q0) (r := q0) (by omega) (e_sh b kc T S hq0) rfl hS dX8_add_1 (fun z1_z bz1_z => ?_)
  refine g_if_lt (tgt := 39) hx hb bz1_z h dX8_add_4 (by decide) (fun h => ?_) (fun h => ?_)
  · exact ret S _ _ _ _ (Option.some.inj h) hM hS dX8_add_39
  · refine lv_aload_n hx hb dX8_add_7 rfl (lv_at hl 0 rfl) ?_
    refine g_get fl_X8_13_X8 C hM (i := q0) (r := q0) (by omega) (e_sh b kc T S hq0) rfl hS dX8_add_8 (fun z2_z bz2_z => ?_)
    refine lv_aload_n hx hb dX8_add_11 rfl (lv_at hl 0 rfl) ?_
    refine m_get fl_X8_7_X8 C hM (i := q0) (by omega) (e_sh b kc T S hq0) (v := .ref (b + (q0 + 1))) rfl dX8_add_12 ?_
    refine g_alenS C hM hq0 (e_la b kc T S hq0) dX8_add_15 (fun z3_z bz3_z => ?_)
    refine g_icmp_ge (tgt := 39) hx hb bz2_z bz3_z h dX8_add_16 (by decide) (fun h => ?_) (fun h => ?_)
    · exact ret S _ _ _ _ (Option.some.inj h) hM hS dX8_add_39
    · refine lv_aload_n hx hb dX8_add_19 rfl (lv_at hl 0 rfl) ?_
      refine m_get fl_X8_7_X8 C hM (i := q0) (by omega) (e_sh b kc T S hq0) (v := .ref (b + (q0 + 1))) rfl dX8_add_20 ?_
      refine lv_aload_n hx hb dX8_add_23 rfl (lv_at hl 0 rfl) ?_
      refine g_get fl_X8_13_X8 C hM (i := q0) (r := q0) (by omega) (e_sh b kc T S hq0) rfl hS dX8_add_24 (fun z4_z bz4_z => ?_)
      refine lv_lload_n hx hb dX8_add_27 rfl (lv_at hl 1 rfl) ?_
      refine g_last C hM (j := q0 + 1) (by omega) (jK_X b kc T (by omega)) (a_la b kc hq0) hS bz4_z (B := cap q0) (cap_N _) h dX8_add_28 (fun S5_z H locs h hM hS => ?_)
      refine lv_aload_n hx hb dX8_add_29 rfl (lv_at hl 0 rfl) ?_
      refine lv_dup hx hb dX8_add_30 rfl ?_
      refine g_get fl_X8_13_X8 C hM (i := q0) (r := q0) (by omega) (e_sh b kc T S5_z hq0) rfl hS dX8_add_31 (fun z6_z bz6_z => ?_)
      refine lv_iconst (v := 1) hx hb dX8_add_34 (by decide) ?_
      refine g_iadd hx hb bz6_z (show (1 : Int32).toInt = 1 by decide) h dX8_add_35 (fun z7_z bz7_z h => ?_)
      refine g_put fl_X8_13_X8 C hM (i := q0) (by omega) (e_sh b kc T S5_z hq0) rfl rfl (Nat.le_of_ble_eq_true rfl) (fs1 := [.ref (b + (q0 + 1)), .int z7_z]) rfl (p_sh_1 hq0 bz7_z) (rng_si hS (i32_of bz7_z)) h dX8_add_36 (fun S8_z H locs h hM hS => ?_)
      exact ret S8_z _ _ _ _ (Option.some.inj h) hM hS dX8_add_39

def f_Sheet_wordAt (S : SS) (q0 : Nat) (v1 : Int) : Option Int64 := (if v1 < 0 then some 0 else (if gi S q0 1 ≤ v1 then some 0 else (if v1 < cap q0 then w_chk (0 ≤ v1 ∧ v1 < cap q0) (some (gl S (q0 + 1) (v1).toNat)) else some 0)))
set_option maxHeartbeats 4000000 in
set_option maxRecDepth 100000 in
theorem g_Sheet_wordAt (l : Launch) (D : va_G) (kc : Nat → ClassId) (b : Nat) (T S : SS) (q0 : Nat) (hq0 : shOk q0) (x1 : Int32) (v1 : Int) (hx1 : x1.toInt = v1) (hS : rng S) {wr : Int64} (h : f_Sheet_wordAt S q0 v1 = some wr) : cL l yX8_wordAt cX8_wordAt 2 1 D kc b (jX b kc T) S [.ref (b + q0), .int x1] wr S := by
  refine g_beg_l (by decide) (Nat.le_of_ble_eq_true rfl) ?_
  intro p e s m args below meth c Q C ret hM ls hl
  obtain ⟨hx, hb, hml, hown, hts, hE, hbs⟩ := id C
  have hl : lv_has ls 2 [(0, .ref (b + q0)), (1, .int x1)] := hl
  unfold f_Sheet_wordAt at h
  refine lv_iload_n hx hb dX8_wordAt_0 rfl (lv_at hl 1 rfl) ?_
  refine g_if_lt (tgt := 21) hx hb hx1 h dX8_wordAt_1 (by decide) (fun h => ?_) (fun h => ?_)
  · refine lv_lconst (v := 0) hx hb dX8_wordAt_21 (by decide) ?_
    refine lv_goto (tgt := 31) hx hb dX8_wordAt_22 (by decide) ?_
    exact ret S _ _ _ _ 0 (Option.some.inj h) rfl hM hS dX8_wordAt_31
  · refine lv_iload_n hx hb dX8_wordAt_4 rfl (lv_at hl 1 rfl) ?_
    refine lv_aload_n hx hb dX8_wordAt_5 rfl (lv_at hl 0 rfl) ?_
    refine g_get fl_X8_13_X8 C hM (i := q0) (r := q0) (by omega) (e_sh b kc T S hq0) rfl hS dX8_wordAt_6 (fun z1_z bz1_z => ?_)
    refine g_icmp_ge (tgt := 21) hx hb hx1 bz1_z h dX8_wordAt_9 (by decide) (fun h => ?_) (fun h => ?_)
    · refine lv_lconst (v := 0) hx hb dX8_wordAt_21 (by decide) ?_
      refine lv_goto (tgt := 31) hx hb dX8_wordAt_22 (by decide) ?_
      exact ret S _ _ _ _ 0 (Option.some.inj h) rfl hM hS dX8_wordAt_31
    · refine lv_iload_n hx hb dX8_wordAt_12 rfl (lv_at hl 1 rfl) ?_
      refine lv_aload_n hx hb dX8_wordAt_13 rfl (lv_at hl 0 rfl) ?_
      refine m_get fl_X8_7_X8 C hM (i := q0) (by omega) (e_sh b kc T S hq0) (v := .ref (b + (q0 + 1))) rfl dX8_wordAt_14 ?_
      refine g_alenS C hM hq0 (e_la b kc T S hq0) dX8_wordAt_17 (fun z2_z bz2_z => ?_)
      refine g_icmp_lt (tgt := 25) hx hb hx1 bz2_z h dX8_wordAt_18 (by decide) (fun h => ?_) (fun h => ?_)
      · refine lv_aload_n hx hb dX8_wordAt_25 rfl (lv_at hl 0 rfl) ?_
        refine m_get fl_X8_7_X8 C hM (i := q0) (by omega) (e_sh b kc T S hq0) (v := .ref (b + (q0 + 1))) rfl dX8_wordAt_26 ?_
        refine lv_iload_n hx hb dX8_wordAt_29 rfl (lv_at hl 1 rfl) ?_
        refine g_lald C hM (j := q0 + 1) (by omega) (jK_X b kc T (by omega)) (a_la b kc hq0) hx1 (B := cap q0) (cap_N _) h dX8_wordAt_30 (fun h => ?_)
        exact ret S _ _ _ _ (gl S (q0 + 1) (v1).toNat) (Option.some.inj h) rfl hM hS dX8_wordAt_31
      · refine lv_lconst (v := 0) hx hb dX8_wordAt_21 (by decide) ?_
        refine lv_goto (tgt := 31) hx hb dX8_wordAt_22 (by decide) ?_
        exact ret S _ _ _ _ 0 (Option.some.inj h) rfl hM hS dX8_wordAt_31

def f_Sheet_addAll_2_b (q0 : Nat) (q1 : Nat) (kf2_ : SS → Int → Option SS) (S : SS) (v2_ : Int) : Option SS := (if gi S q1 1 ≤ v2_ then some S else w_b1 (f_Sheet_wordAt S q1 v2_) (fun w2_z => w_b1 (f_Sheet_add S q0 w2_z) (fun S4_z => w_chk (i32 (v2_ + 1)) (kf2_ S4_z (v2_ + 1)))))
def f_Sheet_addAll_2 (q0 : Nat) (q1 : Nat) : Nat → SS → Int → Option SS
  | 0 => fun _ _ => none
  | n + 1 => f_Sheet_addAll_2_b q0 q1 (f_Sheet_addAll_2 q0 q1 n)
def f_Sheet_addAll (S : SS) (q0 : Nat) (q1 : Nat) : Option SS := f_Sheet_addAll_2 q0 q1 FU S 0
set_option maxHeartbeats 4000000 in
set_option maxRecDepth 100000 in
theorem g_Sheet_addAll (l : Launch) (D : va_G) (kc : Nat → ClassId) (b : Nat) (T S : SS) (q0 : Nat) (hq0 : shOk q0) (q1 : Nat) (hq1 : shOk q1) (hS : rng S) {Sr : SS} (h : f_Sheet_addAll S q0 q1 = some Sr) : cV l yX8_addAll cX8_addAll 3 2 D kc b (jX b kc T) S [.ref (b + q0), .ref (b + q1)] Sr := by
  refine g_beg_v (by decide) (Nat.le_of_ble_eq_true rfl) ?_
  intro p e s m args below meth c Q C ret hM ls hl
  obtain ⟨hx, hb, hml, hown, hts, hE, hbs⟩ := id C
  have hl : lv_has ls 3 [(0, .ref (b + q0)), (1, .ref (b + q1))] := hl
  unfold f_Sheet_addAll at h
  have B2 : ∀ (n : Nat), ∀ (S : SS) (H : Heap) (locs : List Loc) (ls : Array Slot) (x2_ : Int32) (v2_ : Int) (hx2_ : x2_.toInt = v2_), rng S → mS D b s 220 (jX b kc T S) H locs → lv_has ls 3 [(0, .ref (b + q0)), (1, .ref (b + q1)), (2, .int x2_)] → f_Sheet_addAll_2 q0 q1 n S v2_ = some Sr → W p l e (mR 2 0 0) s m args below meth c H locs 0 0 Q (F0 m 2 ls []) := by
    intro n
    induction n with
    | zero => intro S H locs ls x2_ v2_ hx2_ hS hM hl h; exact absurd (h : none = some _) (fun q => nomatch q)
    | succ n hkf2_ =>
      intro S H locs ls x2_ v2_ hx2_ hS hM hl h
      have h : f_Sheet_addAll_2_b q0 q1 (f_Sheet_addAll_2 q0 q1 n) S v2_ = some Sr := h
      unfold f_Sheet_addAll_2_b at h
      refine lv_iload_n hx hb dX8_addAll_2 rfl (lv_at hl 2 rfl) ?_
      refine lv_aload_n hx hb dX8_addAll_3 rfl (lv_at hl 1 rfl) ?_
      refine g_get fl_X8_13_X8 C hM (i := q1) (r := q1) (by omega) (e_sh b kc T S hq1) rfl hS dX8_addAll_4 (fun z1_z bz1_z => ?_)
      refine g_icmp_ge (tgt := 25) hx hb hx2_ bz1_z h dX8_addAll_7 (by decide) (fun h => ?_) (fun h => ?_)
      · exact ret S _ _ _ _ (Option.some.inj h) hM hS dX8_addAll_25
      · refine lv_aload_n hx hb dX8_addAll_10 rfl (lv_at hl 0 rfl) ?_
        refine lv_aload_n hx hb dX8_addAll_11 rfl (lv_at hl 1 rfl) ?_
        refine lv_iload_n hx hb dX8_addAll_12 rfl (lv_at hl 2 rfl) ?_
        obtain ⟨w2_z, cw2_z, h⟩ := w_b1E h
        refine g_callL (J := jX b kc T) (m_runV calV_X8_wordAt wd_589 (g_Sheet_wordAt l D kc b T S q1 hq1 x2_ v2_ hx2_ hS cw2_z) C hM (i := q1) (by omega) (e_sh b kc T S hq1) rfl hl.1 rfl rfl (Nat.le_of_ble_eq_true rfl) dX8_addAll_13 ⟨Nat.le_of_ble_eq_true rfl, Nat.le_of_ble_eq_true rfl⟩ ⟨Nat.le_of_ble_eq_true rfl, Nat.le_of_ble_eq_true rfl⟩) hM (fun z3_z H locs bz3_z hM hS => ?_)
        have ez3_z := bz3_z.symm
        subst ez3_z
        obtain ⟨S4_z, cS4_z, h⟩ := w_b1E h
        refine g_callV (J := jX b kc T) (m_runV calV_X8_add wd_593 (g_Sheet_add l D kc b T S q0 hq0 w2_z hS cS4_z) C hM (i := q0) (by omega) (e_sh b kc T S hq0) rfl hl.1 rfl rfl (Nat.le_of_ble_eq_true rfl) dX8_addAll_16 ⟨Nat.le_of_ble_eq_true rfl, Nat.le_of_ble_eq_true rfl⟩ ⟨Nat.le_of_ble_eq_true rfl, Nat.le_of_ble_eq_true rfl⟩) hM (fun H locs hM hS => ?_)
        refine g_iinc (y := 1) hx hb hx2_ (by decide) (by decide) h dX8_addAll_19 hl (k := 2) rfl (by decide) (fun z6_z ls bz6_z h hl => ?_)
        have hl : lv_has ls 3 [(2, .int z6_z), (0, .ref (b + q0)), (1, .ref (b + q1))] := hl
        refine lv_goto (tgt := 2) hx hb dX8_addAll_22 (by decide) ?_
        exact hkf2_ S4_z _ _ _ z6_z (v2_ + 1) bz6_z hS hM (lv_sub hl [1, 2, 0] rfl) h
  refine lv_iconst (v := 0) hx hb dX8_addAll_0 (by decide) ?_
  refine lv_istore_n (lv' := [(2, .int 0), (0, .ref (b + q0)), (1, .ref (b + q1))]) hx hb dX8_addAll_1 rfl hl (by decide) rfl (fun ls hl => ?_)
  exact B2 FU S _ _ _ 0 0 (show (0 : Int32).toInt = 0 by decide) hS hM (lv_sub hl [1, 2, 0] rfl) h

def f_Sheet_copyFrom (S : SS) (q0 : Nat) (q1 : Nat) : Option SS := w_lt (f_Sheet_clear S q0) (fun S1_z => w_b1 (f_Sheet_addAll S1_z q0 q1) (fun S3_z => some S3_z))
set_option maxHeartbeats 4000000 in
set_option maxRecDepth 100000 in
theorem g_Sheet_copyFrom (l : Launch) (D : va_G) (kc : Nat → ClassId) (b : Nat) (T S : SS) (q0 : Nat) (hq0 : shOk q0) (q1 : Nat) (hq1 : shOk q1) (hS : rng S) {Sr : SS} (h : f_Sheet_copyFrom S q0 q1 = some Sr) : cV l yX8_copyFrom cX8_copyFrom 2 3 D kc b (jX b kc T) S [.ref (b + q0), .ref (b + q1)] Sr := by
  refine g_beg_v (by decide) (Nat.le_of_ble_eq_true rfl) ?_
  intro p e s m args below meth c Q C ret hM ls hl
  obtain ⟨hx, hb, hml, hown, hts, hE, hbs⟩ := id C
  have hl : lv_has ls 2 [(0, .ref (b + q0)), (1, .ref (b + q1))] := hl
  unfold f_Sheet_copyFrom at h
  refine lv_aload_n hx hb dX8_copyFrom_0 rfl (lv_at hl 0 rfl) ?_
  obtain ⟨S1_z, cS1_z, h⟩ := w_ltE h
  refine g_callV (J := jX b kc T) (m_runV calV_X8_clear wd_584 (g_Sheet_clear l D kc b T S q0 hq0 hS cS1_z.symm) C hM (i := q0) (by omega) (e_sh b kc T S hq0) rfl hl.1 rfl rfl (Nat.le_of_ble_eq_true rfl) dX8_copyFrom_1 ⟨Nat.le_of_ble_eq_true rfl, Nat.le_of_ble_eq_true rfl⟩ ⟨Nat.le_of_ble_eq_true rfl, Nat.le_of_ble_eq_true rfl⟩) hM (fun H locs hM hS => ?_)
  refine lv_aload_n hx hb dX8_copyFrom_4 rfl (lv_at hl 0 rfl) ?_
  refine lv_aload_n hx hb dX8_copyFrom_5 rfl (lv_at hl 1 rfl) ?_
  obtain ⟨S3_z, cS3_z, h⟩ := w_b1E h
  refine g_callV (J := jX b kc T) (m_runV calV_X8_addAll wd_585 (g_Sheet_addAll l D kc b T S1_z q0 hq0 q1 hq1 hS cS3_z) C hM (i := q0) (by omega) (e_sh b kc T S1_z hq0) rfl hl.1 rfl rfl (Nat.le_of_ble_eq_true rfl) dX8_copyFrom_6 ⟨Nat.le_of_ble_eq_true rfl, Nat.le_of_ble_eq_true rfl⟩ ⟨Nat.le_of_ble_eq_true rfl, Nat.le_of_ble_eq_true rfl⟩) hM (fun H locs hM hS => ?_)
  exact ret S3_z _ _ _ _ (Option.some.inj h) hM hS dX8_copyFrom_9

def f_Bill_priceOf (S : SS) (v1 : Int) : Option Int := (if v1 < 0 then some 0 else (if v1 < 5 then w_chk (0 ≤ v1 ∧ v1 < 5) (some (gi S 191 (v1).toNat)) else some 0))
set_option maxHeartbeats 4000000 in
set_option maxRecDepth 100000 in
theorem g_Bill_priceOf (l : Launch) (D : va_G) (kc : Nat → ClassId) (b : Nat) (T S : SS) (x1 : Int32) (v1 : Int) (hx1 : x1.toInt = v1) (hS : rng S) {vr : Int} (h : f_Bill_priceOf S v1 = some vr) : cI l yX0_priceOf cX0_priceOf 2 .int 1 D kc b (jX b kc T) S [.ref (b + 190), .int x1] vr S := by
  refine g_beg_i (by decide) (Nat.le_of_ble_eq_true rfl) ?_
  intro p e s m args below meth c Q C ret hM ls hl
  obtain ⟨hx, hb, hml, hown, hts, hE, hbs⟩ := id C
  have hl : lv_has ls 2 [(0, .ref (b + 190)), (1, .int x1)] := hl
  unfold f_Bill_priceOf at h
  refine lv_iload_n hx hb dX0_priceOf_0 rfl (lv_at hl 1 rfl) ?_
  refine g_if_lt (tgt := 13) hx hb hx1 h dX0_priceOf_1 (by decide) (fun h => ?_) (fun h => ?_)
  · refine lv_iconst (v := 0) hx hb dX0_priceOf_13 (by decide) ?_
    refine lv_goto (tgt := 23) hx hb dX0_priceOf_14 (by decide) ?_
    exact ret S _ _ _ _ 0 ((show (0 : Int32).toInt = 0 by decide).trans (Option.some.inj h)) rfl hM hS dX0_priceOf_23
  · refine lv_iload_n hx hb dX0_priceOf_4 rfl (lv_at hl 1 rfl) ?_
    refine lv_aload_n hx hb dX0_priceOf_5 rfl (lv_at hl 0 rfl) ?_
    refine m_get fl_X0_18_X0 C hM (i := 190) (by omega) (e_190 b kc T S) (v := .ref (b + 191)) rfl dX0_priceOf_6 ?_
    refine m_alen C hM (j := 191) (by omega) 1 (e_191 b kc T S) rfl (v := 5) rfl dX0_priceOf_9 ?_
    refine g_icmp_lt (tgt := 17) hx hb hx1 (show (5 : Int32).toInt = 5 by decide) h dX0_priceOf_10 (by decide) (fun h => ?_) (fun h => ?_)
    · refine lv_aload_n hx hb dX0_priceOf_17 rfl (lv_at hl 0 rfl) ?_
      refine m_get fl_X0_18_X0 C hM (i := 190) (by omega) (e_190 b kc T S) (v := .ref (b + 191)) rfl dX0_priceOf_18 ?_
      refine lv_iload_n hx hb dX0_priceOf_21 rfl (lv_at hl 1 rfl) ?_
      refine g_iald C hM (j := 191) (by omega) (jK_X b kc T (by omega)) (a_191 b kc) hS hx1 (B := 5) rfl h dX0_priceOf_22 (fun z1_z bz1_z h => ?_)
      exact ret S _ _ _ _ z1_z (bz1_z.trans (Option.some.inj h)) rfl hM hS dX0_priceOf_23
    · refine lv_iconst (v := 0) hx hb dX0_priceOf_13 (by decide) ?_
      refine lv_goto (tgt := 23) hx hb dX0_priceOf_14 (by decide) ?_
      exact ret S _ _ _ _ 0 ((show (0 : Int32).toInt = 0 by decide).trans (Option.some.inj h)) rfl hM hS dX0_priceOf_23

def f_Bill_setPrice (S : SS) (v1 : Int) (v2 : Int) : Option (Int × SS) := w_b1 (f_Bill_priceOf S v1) (fun r1_z => (if v1 < 0 then some (r1_z, S) else (if 5 ≤ v1 then some (r1_z, S) else w_chk (0 ≤ v1 ∧ v1 < 5) (w_lt (si S 191 (v1).toNat v2) (fun S3_z => some (r1_z, S3_z))))))
set_option maxHeartbeats 4000000 in
set_option maxRecDepth 100000 in
theorem g_Bill_setPrice (l : Launch) (D : va_G) (kc : Nat → ClassId) (b : Nat) (T S : SS) (x1 : Int32) (v1 : Int) (hx1 : x1.toInt = v1) (x2 : Int32) (v2 : Int) (hx2 : x2.toInt = v2) (hS : rng S) {vr : Int} {Sr : SS} (h : f_Bill_setPrice S v1 v2 = some (vr, Sr)) : cI l yX0_setPrice cX0_setPrice 4 .int 2 D kc b (jX b kc T) S [.ref (b + 190), .int x1, .int x2] vr Sr := by
  refine g_beg_i (by decide) (Nat.le_of_ble_eq_true rfl) ?_
  intro p e s m args below meth c Q C ret hM ls hl
  obtain ⟨hx, hb, hml, hown, hts, hE, hbs⟩ := id C
  have hl : lv_has ls 4 [(0, .ref (b + 190)), (1, .int x1), (2, .int x2)] := hl
  unfold f_Bill_setPrice at h
  refine lv_aload_n hx hb dX0_setPrice_0 rfl (lv_at hl 0 rfl) ?_
  refine lv_iload_n hx hb dX0_setPrice_1 rfl (lv_at hl 1 rfl) ?_
  obtain ⟨r1_z, cr1_z, h⟩ := w_b1E h
  refine g_callI (J := jX b kc T) (m_runV calV_X0_priceOf wd_987 (g_Bill_priceOf l D kc b T S x1 v1 hx1 hS cr1_z) C hM (i := 190) (by omega) (e_190 b kc T S) rfl hl.1 rfl rfl (Nat.le_of_ble_eq_true rfl) dX0_setPrice_2 ⟨Nat.le_of_ble_eq_true rfl, Nat.le_of_ble_eq_true rfl⟩ ⟨Nat.le_of_ble_eq_true rfl, Nat.le_of_ble_eq_true rfl⟩) hM (fun z2_z H locs bz2_z hM hS => ?_)
  refine lv_istore_n (lv' := [(3, .int z2_z), (0, .ref (b + 190)), (1, .int x1), (2, .int x2)]) hx hb dX0_setPrice_5 rfl hl (by decide) rfl (fun ls hl => ?_)
  refine lv_iload_n hx hb dX0_setPrice_6 rfl (lv_at hl 2 rfl) ?_
  refine g_if_lt (tgt := 26) hx hb hx1 h dX0_setPrice_7 (by decide) (fun h => ?_) (fun h => ?_)
  · refine lv_iload_n hx hb dX0_setPrice_26 rfl (lv_at hl 0 rfl) ?_
    exact ret S _ _ _ _ z2_z (bz2_z.trans (r_1 h)) (r_2 h) hM hS dX0_setPrice_27
  · refine lv_iload_n hx hb dX0_setPrice_10 rfl (lv_at hl 2 rfl) ?_
    refine lv_aload_n hx hb dX0_setPrice_11 rfl (lv_at hl 1 rfl) ?_
    refine m_get fl_X0_18_X0 C hM (i := 190) (by omega) (e_190 b kc T S) (v := .ref (b + 191)) rfl dX0_setPrice_12 ?_
    refine m_alen C hM (j := 191) (by omega) 1 (e_191 b kc T S) rfl (v := 5) rfl dX0_setPrice_15 ?_
    refine g_icmp_ge (tgt := 26) hx hb hx1 (show (5 : Int32).toInt = 5 by decide) h dX0_setPrice_16 (by decide) (fun h => ?_) (fun h => ?_)
    · refine lv_iload_n hx hb dX0_setPrice_26 rfl (lv_at hl 0 rfl) ?_
      exact ret S _ _ _ _ z2_z (bz2_z.trans (r_1 h)) (r_2 h) hM hS dX0_setPrice_27
    · refine lv_aload_n hx hb dX0_setPrice_19 rfl (lv_at hl 1 rfl) ?_
      refine m_get fl_X0_18_X0 C hM (i := 190) (by omega) (e_190 b kc T S) (v := .ref (b + 191)) rfl dX0_setPrice_20 ?_
      refine lv_iload_n hx hb dX0_setPrice_23 rfl (lv_at hl 2 rfl) ?_
      refine lv_iload_n hx hb dX0_setPrice_24 rfl (lv_at hl 3 rfl) ?_
      refine g_iast C hM (j := 191) (by omega) (jK_X b kc T (by omega)) (a_191 b kc) hS hx1 hx2 (B := 5) rfl h dX0_setPrice_25 (fun S3_z H locs h hM hS => ?_)
      refine lv_iload_n hx hb dX0_setPrice_26 rfl (lv_at hl 0 rfl) ?_
      exact ret S3_z _ _ _ _ z2_z (bz2_z.trans (r_1 h)) (r_2 h) hM hS dX0_setPrice_27

def f_Pile_clear (S : SS) : SS := w_lt (si S 10 3 0) (fun S1_z => w_lt (si S1_z 10 4 0) (fun S2_z => w_lt (si S2_z 10 5 0) (fun S3_z => S3_z)))
set_option maxHeartbeats 4000000 in
set_option maxRecDepth 100000 in
theorem g_Pile_clear (l : Launch) (D : va_G) (kc : Nat → ClassId) (b : Nat) (T S : SS) (hS : rng S) {Sr : SS} (h : f_Pile_clear S = Sr) : cV l yX5_clear cX5_clear 1 1 D kc b (jX b kc T) S [.ref (b + 10)] Sr := by
  refine g_beg_v (by decide) (Nat.le_of_ble_eq_true rfl) ?_
  intro p e s m args below meth c Q C ret hM ls hl
  obtain ⟨hx, hb, hml, hown, hts, hE, hbs⟩ := id C
  have hl : lv_has ls 1 [(0, .ref (b + 10))] := hl
  unfold f_Pile_clear at h
  refine lv_aload_n hx hb dX5_clear_0 rfl (lv_at hl 0 rfl) ?_
  refine lv_iconst (v := 0) hx hb dX5_clear_1 (by decide) ?_
  refine g_put fl_X5_25_X5 C hM (i := 10) (by omega) (e_10 b kc T S) rfl rfl (Nat.le_of_ble_eq_true rfl) (fs1 := [.ref (b + 11), .ref (b + 12), .ref (b + 13), .int 0, .int (oi (gi S 10 4)), .int (oi (gi S 10 5))]) rfl (p_10_3 (show (0 : Int32).toInt = 0 by decide)) (rng_si hS (i32_of (show (0 : Int32).toInt = 0 by decide))) h dX5_clear_2 (fun S1_z H locs h hM hS => ?_)
  refine lv_aload_n hx hb dX5_clear_5 rfl (lv_at hl 0 rfl) ?_
  refine lv_iconst (v := 0) hx hb dX5_clear_6 (by decide) ?_
  refine g_put fl_X5_29_X5 C hM (i := 10) (by omega) (e_10 b kc T S1_z) rfl rfl (Nat.le_of_ble_eq_true rfl) (fs1 := [.ref (b + 11), .ref (b + 12), .ref (b + 13), .int (oi (gi S1_z 10 3)), .int 0, .int (oi (gi S1_z 10 5))]) rfl (p_10_4 (show (0 : Int32).toInt = 0 by decide)) (rng_si hS (i32_of (show (0 : Int32).toInt = 0 by decide))) h dX5_clear_7 (fun S2_z H locs h hM hS => ?_)
  refine lv_aload_n hx hb dX5_clear_10 rfl (lv_at hl 0 rfl) ?_
  refine lv_iconst (v := 0) hx hb dX5_clear_11 (by decide) ?_
  refine g_put fl_X5_32_X5 C hM (i := 10) (by omega) (e_10 b kc T S2_z) rfl rfl (Nat.le_of_ble_eq_true rfl) (fs1 := [.ref (b + 11), .ref (b + 12), .ref (b + 13), .int (oi (gi S2_z 10 3)), .int (oi (gi S2_z 10 4)), .int 0]) rfl (p_10_5 (show (0 : Int32).toInt = 0 by decide)) (rng_si hS (i32_of (show (0 : Int32).toInt = 0 by decide))) h dX5_clear_12 (fun S3_z H locs h hM hS => ?_)
  exact ret S3_z _ _ _ _ h hM hS dX5_clear_15

def f_Pile_rankOf (S : SS) (v1 : Int) : Option Int := (if v1 < 0 then some (-1) else (if v1 < 3 then w_chk (0 ≤ v1 ∧ v1 < 3) (some (gi S 12 (v1).toNat)) else some (-1)))
set_option maxHeartbeats 4000000 in
set_option maxRecDepth 100000 in
theorem g_Pile_rankOf (l : Launch) (D : va_G) (kc : Nat → ClassId) (b : Nat) (T S : SS) (x1 : Int32) (v1 : Int) (hx1 : x1.toInt = v1) (hS : rng S) {vr : Int} (h : f_Pile_rankOf S v1 = some vr) : cI l yX5_rankOf cX5_rankOf 2 .int 1 D kc b (jX b kc T) S [.ref (b + 10), .int x1] vr S := by
  refine g_beg_i (by decide) (Nat.le_of_ble_eq_true rfl) ?_
  intro p e s m args below meth c Q C ret hM ls hl
  obtain ⟨hx, hb, hml, hown, hts, hE, hbs⟩ := id C
  have hl : lv_has ls 2 [(0, .ref (b + 10)), (1, .int x1)] := hl
  unfold f_Pile_rankOf at h
  refine lv_iload_n hx hb dX5_rankOf_0 rfl (lv_at hl 1 rfl) ?_
  refine g_if_lt (tgt := 13) hx hb hx1 h dX5_rankOf_1 (by decide) (fun h => ?_) (fun h => ?_)
  · refine lv_iconst (v := (-1)) hx hb dX5_rankOf_13 (by decide) ?_
    refine lv_goto (tgt := 23) hx hb dX5_rankOf_14 (by decide) ?_
    exact ret S _ _ _ _ (-1) ((show ((-1) : Int32).toInt = (-1) by decide).trans (Option.some.inj h)) rfl hM hS dX5_rankOf_23
  · refine lv_iload_n hx hb dX5_rankOf_4 rfl (lv_at hl 1 rfl) ?_
    refine lv_aload_n hx hb dX5_rankOf_5 rfl (lv_at hl 0 rfl) ?_
    refine m_get fl_X5_17_X5 C hM (i := 10) (by omega) (e_10 b kc T S) (v := .ref (b + 12)) rfl dX5_rankOf_6 ?_
    refine m_alen C hM (j := 12) (by omega) 1 (e_12 b kc T S) rfl (v := 3) rfl dX5_rankOf_9 ?_
    refine g_icmp_lt (tgt := 17) hx hb hx1 (show (3 : Int32).toInt = 3 by decide) h dX5_rankOf_10 (by decide) (fun h => ?_) (fun h => ?_)
    · refine lv_aload_n hx hb dX5_rankOf_17 rfl (lv_at hl 0 rfl) ?_
      refine m_get fl_X5_17_X5 C hM (i := 10) (by omega) (e_10 b kc T S) (v := .ref (b + 12)) rfl dX5_rankOf_18 ?_
      refine lv_iload_n hx hb dX5_rankOf_21 rfl (lv_at hl 1 rfl) ?_
      refine g_iald C hM (j := 12) (by omega) (jK_X b kc T (by omega)) (a_12 b kc) hS hx1 (B := 3) rfl h dX5_rankOf_22 (fun z1_z bz1_z h => ?_)
      exact ret S _ _ _ _ z1_z (bz1_z.trans (Option.some.inj h)) rfl hM hS dX5_rankOf_23
    · refine lv_iconst (v := (-1)) hx hb dX5_rankOf_13 (by decide) ?_
      refine lv_goto (tgt := 23) hx hb dX5_rankOf_14 (by decide) ?_
      exact ret S _ _ _ _ (-1) ((show ((-1) : Int32).toInt = (-1) by decide).trans (Option.some.inj h)) rfl hM hS dX5_rankOf_23

def f_Pile_markAt (S : SS) (v1 : Int) : Option (Option Nat) := (if v1 < 0 then some none else (if v1 < 40 then w_chk (0 ≤ v1 ∧ v1 < 40) (w_lt (gq S 11 (v1).toNat) (fun o2_z => some o2_z)) else some none))
set_option maxHeartbeats 4000000 in
set_option maxRecDepth 100000 in
theorem g_Pile_markAt (l : Launch) (D : va_G) (kc : Nat → ClassId) (b : Nat) (T S : SS) (x1 : Int32) (v1 : Int) (hx1 : x1.toInt = v1) (hS : rng S) {vr : Option Nat} (h : f_Pile_markAt S v1 = some vr) : cQ l yX5_markAt cX5_markAt 2 (.object "MarkedProof$Mark") 1 D kc b (jX b kc T) S [.ref (b + 10), .int x1] (om b vr) S := by
  refine g_beg_q (by decide) (Nat.le_of_ble_eq_true rfl) ?_
  intro p e s m args below meth c Q C ret hM ls hl
  obtain ⟨hx, hb, hml, hown, hts, hE, hbs⟩ := id C
  have hl : lv_has ls 2 [(0, .ref (b + 10)), (1, .int x1)] := hl
  unfold f_Pile_markAt at h
  refine lv_iload_n hx hb dX5_markAt_0 rfl (lv_at hl 1 rfl) ?_
  refine g_if_lt (tgt := 13) hx hb hx1 h dX5_markAt_1 (by decide) (fun h => ?_) (fun h => ?_)
  · refine lv_null hx hb dX5_markAt_13 ?_
    refine lv_goto (tgt := 23) hx hb dX5_markAt_14 (by decide) ?_
    exact ret S _ _ _ _ (om b none) (by rw [(Option.some.inj h)]) rfl hM hS dX5_markAt_23
  · refine lv_iload_n hx hb dX5_markAt_4 rfl (lv_at hl 1 rfl) ?_
    refine lv_aload_n hx hb dX5_markAt_5 rfl (lv_at hl 0 rfl) ?_
    refine m_get fl_X5_11_X5 C hM (i := 10) (by omega) (e_10 b kc T S) (v := .ref (b + 11)) rfl dX5_markAt_6 ?_
    refine m_alen C hM (j := 11) (by omega) 4 (e_11 b kc T S) rfl (v := 40) rfl dX5_markAt_9 ?_
    refine g_icmp_lt (tgt := 17) hx hb hx1 (show (40 : Int32).toInt = 40 by decide) h dX5_markAt_10 (by decide) (fun h => ?_) (fun h => ?_)
    · refine lv_aload_n hx hb dX5_markAt_17 rfl (lv_at hl 0 rfl) ?_
      refine m_get fl_X5_11_X5 C hM (i := 10) (by omega) (e_10 b kc T S) (v := .ref (b + 11)) rfl dX5_markAt_18 ?_
      refine lv_iload_n hx hb dX5_markAt_21 rfl (lv_at hl 1 rfl) ?_
      refine g_aald C hM (j := 11) (by omega) (jK_X b kc T (by omega)) (a_11 b kc) hx1 (B := 40) rfl h dX5_markAt_22 (fun o2_z h => ?_)
      exact ret S _ _ _ _ (om b o2_z) (by rw [(Option.some.inj h)]) rfl hM hS dX5_markAt_23
    · refine lv_null hx hb dX5_markAt_13 ?_
      refine lv_goto (tgt := 23) hx hb dX5_markAt_14 (by decide) ?_
      exact ret S _ _ _ _ (om b none) (by rw [(Option.some.inj h)]) rfl hM hS dX5_markAt_23

def f_Pile_find (S : SS) (v1 : Int) : Option (Option Nat) := (if v1 < gi S 10 3 then w_b1 (f_Pile_markAt S v1) (fun o2_z => some o2_z) else some none)
set_option maxHeartbeats 4000000 in
set_option maxRecDepth 100000 in
theorem g_Pile_find (l : Launch) (D : va_G) (kc : Nat → ClassId) (b : Nat) (T S : SS) (x1 : Int32) (v1 : Int) (hx1 : x1.toInt = v1) (hS : rng S) {vr : Option Nat} (h : f_Pile_find S v1 = some vr) : cQ l yX5_find cX5_find 2 (.object "MarkedProof$Mark") 2 D kc b (jX b kc T) S [.ref (b + 10), .int x1] (om b vr) S := by
  refine g_beg_q (by decide) (Nat.le_of_ble_eq_true rfl) ?_
  intro p e s m args below meth c Q C ret hM ls hl
  obtain ⟨hx, hb, hml, hown, hts, hE, hbs⟩ := id C
  have hl : lv_has ls 2 [(0, .ref (b + 10)), (1, .int x1)] := hl
  unfold f_Pile_find at h
  refine lv_iload_n hx hb dX5_find_0 rfl (lv_at hl 1 rfl) ?_
  refine lv_aload_n hx hb dX5_find_1 rfl (lv_at hl 0 rfl) ?_
  refine g_get fl_X5_25_X5 C hM (i := 10) (r := 10) (by omega) (e_10 b kc T S) rfl hS dX5_find_2 (fun z1_z bz1_z => ?_)
  refine g_icmp_lt (tgt := 12) hx hb hx1 bz1_z h dX5_find_5 (by decide) (fun h => ?_) (fun h => ?_)
  · refine lv_aload_n hx hb dX5_find_12 rfl (lv_at hl 0 rfl) ?_
    refine lv_iload_n hx hb dX5_find_13 rfl (lv_at hl 1 rfl) ?_
    obtain ⟨o2_z, co2_z, h⟩ := w_b1E h
    refine g_callQ (J := jX b kc T) (m_runV calV_X5_markAt wd_610 (g_Pile_markAt l D kc b T S x1 v1 hx1 hS co2_z) C hM (i := 10) (by omega) (e_10 b kc T S) rfl hl.1 rfl rfl (Nat.le_of_ble_eq_true rfl) dX5_find_14 ⟨Nat.le_of_ble_eq_true rfl, Nat.le_of_ble_eq_true rfl⟩ ⟨Nat.le_of_ble_eq_true rfl, Nat.le_of_ble_eq_true rfl⟩) hM (fun z3_z H locs bz3_z hM hS => ?_)
    subst bz3_z
    exact ret S _ _ _ _ (om b o2_z) (by rw [(Option.some.inj h)]) rfl hM hS dX5_find_17
  · refine lv_null hx hb dX5_find_8 ?_
    refine lv_goto (tgt := 17) hx hb dX5_find_9 (by decide) ?_
    exact ret S _ _ _ _ (om b none) (by rw [(Option.some.inj h)]) rfl hM hS dX5_find_17

def f_Pile_findNoStet (S : SS) (v1 : Int) : Option (Option Nat) := w_b1 (f_Pile_find S v1) (fun o1_z => w_on o1_z (some none) (fun j3_z => w_chk (j3_z < 40) ((if gi S (14 + 4 * j3_z) 2 = 5 then some none else some (some j3_z)))))
set_option maxHeartbeats 4000000 in
set_option maxRecDepth 100000 in
theorem g_Pile_findNoStet (l : Launch) (D : va_G) (kc : Nat → ClassId) (b : Nat) (T S : SS) (x1 : Int32) (v1 : Int) (hx1 : x1.toInt = v1) (hS : rng S) {vr : Option Nat} (h : f_Pile_findNoStet S v1 = some vr) : cQ l yX5_findNoStet cX5_findNoStet 3 (.object "MarkedProof$Mark") 3 D kc b (jX b kc T) S [.ref (b + 10), .int x1] (om b vr) S := by
  refine g_beg_q (by decide) (Nat.le_of_ble_eq_true rfl) ?_
  intro p e s m args below meth c Q C ret hM ls hl
  obtain ⟨hx, hb, hml, hown, hts, hE, hbs⟩ := id C
  have hl : lv_has ls 3 [(0, .ref (b + 10)), (1, .int x1)] := hl
  unfold f_Pile_findNoStet at h
  refine lv_aload_n hx hb dX5_findNoStet_0 rfl (lv_at hl 0 rfl) ?_
  refine lv_iload_n hx hb dX5_findNoStet_1 rfl (lv_at hl 1 rfl) ?_
  obtain ⟨o1_z, co1_z, h⟩ := w_b1E h
  refine g_callQ (J := jX b kc T) (m_runV calV_X5_find wd_606 (g_Pile_find l D kc b T S x1 v1 hx1 hS co1_z) C hM (i := 10) (by omega) (e_10 b kc T S) rfl hl.1 rfl rfl (Nat.le_of_ble_eq_true rfl) dX5_findNoStet_2 ⟨Nat.le_of_ble_eq_true rfl, Nat.le_of_ble_eq_true rfl⟩ ⟨Nat.le_of_ble_eq_true rfl, Nat.le_of_ble_eq_true rfl⟩) hM (fun z2_z H locs bz2_z hM hS => ?_)
  subst bz2_z
  refine lv_astore_nq (lv' := [(2, va_rf (om b o1_z)), (0, .ref (b + 10)), (1, .int x1)]) hx hb dX5_findNoStet_5 rfl hl (by decide) rfl (fun ls hl => ?_)
  refine lv_aload_nq hx hb dX5_findNoStet_6 rfl (lv_at hl 0 rfl) ?_
  cases o1_z with
  | none =>
    replace h := w_onN h
    have hl : lv_has ls 3 [(2, .null), (0, .ref (b + 10)), (1, .int x1)] := hl
    refine lv_ifnullN (tgt := 18) hx hb dX5_findNoStet_7 (by decide) ?_
    refine lv_null hx hb dX5_findNoStet_18 ?_
    refine lv_goto (tgt := 23) hx hb dX5_findNoStet_19 (by decide) ?_
    exact ret S _ _ _ _ (om b none) (by rw [(Option.some.inj h)]) rfl hM hS dX5_findNoStet_23
  | some j3_z =>
    obtain ⟨hj3_z, h⟩ := w_chkE (w_onS h)
    have hl : lv_has ls 3 [(2, .ref (b + (14 + 4 * j3_z))), (0, .ref (b + 10)), (1, .int x1)] := hl
    refine lv_ifnull hx hb dX5_findNoStet_7 ?_
    refine lv_aload_n hx hb dX5_findNoStet_10 rfl (lv_at hl 0 rfl) ?_
    refine g_getN fl_X5_42_X3 C hM (i := 14 + 4 * j3_z) (r := 14 + 4 * j3_z) (by omega) (e_mk b kc T S hj3_z) rfl hS dX5_findNoStet_11 (fun z4_z bz4_z => ?_)
    refine lv_iconst (v := 5) hx hb dX5_findNoStet_14 (by decide) ?_
    refine g_icmp_ne (tgt := 22) hx hb bz4_z (show (5 : Int32).toInt = 5 by decide) h dX5_findNoStet_15 (by decide) (fun h => ?_) (fun h => ?_)
    · refine lv_aload_n hx hb dX5_findNoStet_22 rfl (lv_at hl 0 rfl) ?_
      exact ret S _ _ _ _ (om b (some j3_z)) (by rw [(Option.some.inj h)]) rfl hM hS dX5_findNoStet_23
    · refine lv_null hx hb dX5_findNoStet_18 ?_
      refine lv_goto (tgt := 23) hx hb dX5_findNoStet_19 (by decide) ?_
      exact ret S _ _ _ _ (om b none) (by rw [(Option.some.inj h)]) rfl hM hS dX5_findNoStet_23

def f_Pile_doneNumber (S : SS) (v1 : Int) : Option Int := (if v1 < 0 then some (-1) else (if gi S 10 5 ≤ v1 then some (-1) else (if v1 < 40 then w_chk (0 ≤ v1 ∧ v1 < 40) (some (gi S 13 (v1).toNat)) else some (-1))))
set_option maxHeartbeats 4000000 in
set_option maxRecDepth 100000 in
theorem g_Pile_doneNumber (l : Launch) (D : va_G) (kc : Nat → ClassId) (b : Nat) (T S : SS) (x1 : Int32) (v1 : Int) (hx1 : x1.toInt = v1) (hS : rng S) {vr : Int} (h : f_Pile_doneNumber S v1 = some vr) : cI l yX5_doneNumber cX5_doneNumber 2 .int 1 D kc b (jX b kc T) S [.ref (b + 10), .int x1] vr S := by
  refine g_beg_i (by decide) (Nat.le_of_ble_eq_true rfl) ?_
  intro p e s m args below meth c Q C ret hM ls hl
  obtain ⟨hx, hb, hml, hown, hts, hE, hbs⟩ := id C
  have hl : lv_has ls 2 [(0, .ref (b + 10)), (1, .int x1)] := hl
  unfold f_Pile_doneNumber at h
  refine lv_iload_n hx hb dX5_doneNumber_0 rfl (lv_at hl 1 rfl) ?_
  refine g_if_lt (tgt := 21) hx hb hx1 h dX5_doneNumber_1 (by decide) (fun h => ?_) (fun h => ?_)
  · refine lv_iconst (v := (-1)) hx hb dX5_doneNumber_21 (by decide) ?_
    refine lv_goto (tgt := 31) hx hb dX5_doneNumber_22 (by decide) ?_
    exact ret S _ _ _ _ (-1) ((show ((-1) : Int32).toInt = (-1) by decide).trans (Option.some.inj h)) rfl hM hS dX5_doneNumber_31
  · refine lv_iload_n hx hb dX5_doneNumber_4 rfl (lv_at hl 1 rfl) ?_
    refine lv_aload_n hx hb dX5_doneNumber_5 rfl (lv_at hl 0 rfl) ?_
    refine g_get fl_X5_32_X5 C hM (i := 10) (r := 10) (by omega) (e_10 b kc T S) rfl hS dX5_doneNumber_6 (fun z1_z bz1_z => ?_)
    refine g_icmp_ge (tgt := 21) hx hb hx1 bz1_z h dX5_doneNumber_9 (by decide) (fun h => ?_) (fun h => ?_)
    · refine lv_iconst (v := (-1)) hx hb dX5_doneNumber_21 (by decide) ?_
      refine lv_goto (tgt := 31) hx hb dX5_doneNumber_22 (by decide) ?_
      exact ret S _ _ _ _ (-1) ((show ((-1) : Int32).toInt = (-1) by decide).trans (Option.some.inj h)) rfl hM hS dX5_doneNumber_31
    · refine lv_iload_n hx hb dX5_doneNumber_12 rfl (lv_at hl 1 rfl) ?_
      refine lv_aload_n hx hb dX5_doneNumber_13 rfl (lv_at hl 0 rfl) ?_
      refine m_get fl_X5_21_X5 C hM (i := 10) (by omega) (e_10 b kc T S) (v := .ref (b + 13)) rfl dX5_doneNumber_14 ?_
      refine m_alen C hM (j := 13) (by omega) 1 (e_13 b kc T S) rfl (v := 40) rfl dX5_doneNumber_17 ?_
      refine g_icmp_lt (tgt := 25) hx hb hx1 (show (40 : Int32).toInt = 40 by decide) h dX5_doneNumber_18 (by decide) (fun h => ?_) (fun h => ?_)
      · refine lv_aload_n hx hb dX5_doneNumber_25 rfl (lv_at hl 0 rfl) ?_
        refine m_get fl_X5_21_X5 C hM (i := 10) (by omega) (e_10 b kc T S) (v := .ref (b + 13)) rfl dX5_doneNumber_26 ?_
        refine lv_iload_n hx hb dX5_doneNumber_29 rfl (lv_at hl 1 rfl) ?_
        refine g_iald C hM (j := 13) (by omega) (jK_X b kc T (by omega)) (a_13 b kc) hS hx1 (B := 40) rfl h dX5_doneNumber_30 (fun z2_z bz2_z h => ?_)
        exact ret S _ _ _ _ z2_z (bz2_z.trans (Option.some.inj h)) rfl hM hS dX5_doneNumber_31
      · refine lv_iconst (v := (-1)) hx hb dX5_doneNumber_21 (by decide) ?_
        refine lv_goto (tgt := 31) hx hb dX5_doneNumber_22 (by decide) ?_
        exact ret S _ _ _ _ (-1) ((show ((-1) : Int32).toInt = (-1) by decide).trans (Option.some.inj h)) rfl hM hS dX5_doneNumber_31

def f_Pile_tally_36 (S : SS) (v1 : Int) (kf4_ : Int → Int → Option Int) (v2_ : Int) (v3_ : Int) : Option Int := w_chk (i32 (v3_ + 1)) (kf4_ v2_ (v3_ + 1))
def f_Pile_tally_4_b (S : SS) (v1 : Int) (kf4_ : Int → Int → Option Int) (v2_ : Int) (v3_ : Int) : Option Int := (if gi S 10 3 ≤ v3_ then some v2_ else w_b1 (f_Pile_find S v3_) (fun o2_z => w_on o2_z (f_Pile_tally_36 S v1 kf4_ v2_ v3_) (fun j4_z => w_chk (j4_z < 40) ((if gi S (14 + 4 * j4_z) 11 = v1 then w_chk (i32 (v2_ + 1)) (f_Pile_tally_36 S v1 kf4_ (v2_ + 1) v3_) else f_Pile_tally_36 S v1 kf4_ v2_ v3_)))))
def f_Pile_tally_4 (S : SS) (v1 : Int) : Nat → Int → Int → Option Int
  | 0 => fun _ _ => none
  | n + 1 => f_Pile_tally_4_b S v1 (f_Pile_tally_4 S v1 n)
def f_Pile_tally (S : SS) (v1 : Int) : Option Int := f_Pile_tally_4 S v1 FU 0 0
set_option maxHeartbeats 4000000 in
set_option maxRecDepth 100000 in
theorem g_Pile_tally (l : Launch) (D : va_G) (kc : Nat → ClassId) (b : Nat) (T S : SS) (x1 : Int32) (v1 : Int) (hx1 : x1.toInt = v1) (hS : rng S) {vr : Int} (h : f_Pile_tally S v1 = some vr) : cI l yX5_tally cX5_tally 5 .int 3 D kc b (jX b kc T) S [.ref (b + 10), .int x1] vr S := by
  refine g_beg_i (by decide) (Nat.le_of_ble_eq_true rfl) ?_
  intro p e s m args below meth c Q C ret hM ls hl
  obtain ⟨hx, hb, hml, hown, hts, hE, hbs⟩ := id C
  have hl : lv_has ls 5 [(0, .ref (b + 10)), (1, .int x1)] := hl
  unfold f_Pile_tally at h
  have B36 : ∀ (kf4_ : Int → Int → Option Int) (hkf4_ : ∀ (H : Heap) (locs : List Loc) (ls : Array Slot) (x2_ : Int32) (v2_ : Int) (hx2_ : x2_.toInt = v2_) (x3_ : Int32) (v3_ : Int) (hx3_ : x3_.toInt = v3_), rng S → mS D b s 220 (jX b kc T S) H locs → lv_has ls 5 [(0, .ref (b + 10)), (1, .int x1), (2, .int x2_), (3, .int x3_)] → kf4_ v2_ v3_ = some vr → W p l e (mR 3 0 0) s m args below meth c H locs 0 0 Q (F0 m 4 ls [])), ∀ (H : Heap) (locs : List Loc) (ls : Array Slot) (x2_ : Int32) (v2_ : Int) (hx2_ : x2_.toInt = v2_) (x3_ : Int32) (v3_ : Int) (hx3_ : x3_.toInt = v3_), rng S → mS D b s 220 (jX b kc T S) H locs → lv_has ls 5 [(0, .ref (b + 10)), (1, .int x1), (2, .int x2_), (3, .int x3_)] → f_Pile_tally_36 S v1 kf4_ v2_ v3_ = some vr → W p l e (mR 3 0 0) s m args below meth c H locs 0 0 Q (F0 m 36 ls []) := by
    intro kf4_ hkf4_ H locs ls x2_ v2_ hx2_ x3_ v3_ hx3_ hS hM hl h
    unfold f_Pile_tally_36 at h
    refine g_iinc (y := 1) hx hb hx3_ (by decide) (by decide) h dX5_tally_36 hl (k := 3) rfl (by decide) (fun z1_z ls bz1_z h hl => ?_)
    have hl : lv_has ls 5 [(3, .int z1_z), (0, .ref (b + 10)), (1, .int x1), (2, .int x2_)] := hl
    refine lv_goto (tgt := 4) hx hb dX5_tally_39 (by decide) ?_
    exact hkf4_ _ _ _ x2_ v2_ hx2_ z1_z (v3_ + 1) bz1_z hS hM (lv_sub hl [1, 2, 3, 0] rfl) h
  have B4 : ∀ (n : Nat), ∀ (H : Heap) (locs : List Loc) (ls : Array Slot) (x2_ : Int32) (v2_ : Int) (hx2_ : x2_.toInt = v2_) (x3_ : Int32) (v3_ : Int) (hx3_ : x3_.toInt = v3_), rng S → mS D b s 220 (jX b kc T S) H locs → lv_has ls 5 [(0, .ref (b + 10)), (1, .int x1), (2, .int x2_), (3, .int x3_)] → f_Pile_tally_4 S v1 n v2_ v3_ = some vr → W p l e (mR 3 0 0) s m args below meth c H locs 0 0 Q (F0 m 4 ls []) := by
    intro n
    induction n with
    | zero => intro H locs ls x2_ v2_ hx2_ x3_ v3_ hx3_ hS hM hl h; exact absurd (h : none = some _) (fun q => nomatch q)
    | succ n hkf4_ =>
      intro H locs ls x2_ v2_ hx2_ x3_ v3_ hx3_ hS hM hl h
      have h : f_Pile_tally_4_b S v1 (f_Pile_tally_4 S v1 n) v2_ v3_ = some vr := h
      unfold f_Pile_tally_4_b at h
      refine lv_iload_n hx hb dX5_tally_4 rfl (lv_at hl 3 rfl) ?_
      refine lv_aload_n hx hb dX5_tally_5 rfl (lv_at hl 0 rfl) ?_
      refine g_get fl_X5_25_X5 C hM (i := 10) (r := 10) (by omega) (e_10 b kc T S) rfl hS dX5_tally_6 (fun z1_z bz1_z => ?_)
      refine g_icmp_ge (tgt := 42) hx hb hx3_ bz1_z h dX5_tally_9 (by decide) (fun h => ?_) (fun h => ?_)
      · refine lv_iload_n hx hb dX5_tally_42 rfl (lv_at hl 2 rfl) ?_
        exact ret S _ _ _ _ x2_ (hx2_.trans (Option.some.inj h)) rfl hM hS dX5_tally_43
      · refine lv_aload_n hx hb dX5_tally_12 rfl (lv_at hl 0 rfl) ?_
        refine lv_iload_n hx hb dX5_tally_13 rfl (lv_at hl 3 rfl) ?_
        obtain ⟨o2_z, co2_z, h⟩ := w_b1E h
        refine g_callQ (J := jX b kc T) (m_runV calV_X5_find wd_606 (g_Pile_find l D kc b T S x3_ v3_ hx3_ hS co2_z) C hM (i := 10) (by omega) (e_10 b kc T S) rfl hl.1 rfl rfl (Nat.le_of_ble_eq_true rfl) dX5_tally_14 ⟨Nat.le_of_ble_eq_true rfl, Nat.le_of_ble_eq_true rfl⟩ ⟨Nat.le_of_ble_eq_true rfl, Nat.le_of_ble_eq_true rfl⟩) hM (fun z3_z H locs bz3_z hM hS => ?_)
        subst bz3_z
        refine lv_astoreq (lv' := [(4, va_rf (om b o2_z)), (0, .ref (b + 10)), (1, .int x1), (2, .int x2_), (3, .int x3_)]) hx hb dX5_tally_17 hl (by decide) rfl (fun ls hl => ?_)
        refine lv_aloadq hx hb dX5_tally_19 (lv_at hl 0 rfl) ?_
        cases o2_z with
        | none =>
          replace h := w_onN h
          have hl : lv_has ls 5 [(4, .null), (0, .ref (b + 10)), (1, .int x1), (2, .int x2_), (3, .int x3_)] := hl
          refine lv_ifnullN (tgt := 36) hx hb dX5_tally_21 (by decide) ?_
          exact B36 (f_Pile_tally_4 S v1 n) hkf4_ _ _ _ x2_ v2_ hx2_ x3_ v3_ hx3_ hS hM (lv_sub hl [1, 2, 3, 4] rfl) h
        | some j4_z =>
          obtain ⟨hj4_z, h⟩ := w_chkE (w_onS h)
          have hl : lv_has ls 5 [(4, .ref (b + (14 + 4 * j4_z))), (0, .ref (b + 10)), (1, .int x1), (2, .int x2_), (3, .int x3_)] := hl
          refine lv_ifnull hx hb dX5_tally_21 ?_
          refine lv_aload hx hb dX5_tally_24 (lv_at hl 0 rfl) ?_
          refine g_getN fl_X5_63_X3 C hM (i := 14 + 4 * j4_z) (r := 14 + 4 * j4_z) (by omega) (e_mk b kc T S hj4_z) rfl hS dX5_tally_26 (fun z5_z bz5_z => ?_)
          refine lv_iload_n hx hb dX5_tally_29 rfl (lv_at hl 2 rfl) ?_
          refine g_icmp_ne (tgt := 36) hx hb bz5_z hx1 h dX5_tally_30 (by decide) (fun h => ?_) (fun h => ?_)
          · exact B36 (f_Pile_tally_4 S v1 n) hkf4_ _ _ _ x2_ v2_ hx2_ x3_ v3_ hx3_ hS hM (lv_sub hl [1, 2, 3, 4] rfl) h
          · refine g_iinc (y := 1) hx hb hx2_ (by decide) (by decide) h dX5_tally_33 hl (k := 3) rfl (by decide) (fun z6_z ls bz6_z h hl => ?_)
            have hl : lv_has ls 5 [(2, .int z6_z), (4, .ref (b + (14 + 4 * j4_z))), (0, .ref (b + 10)), (1, .int x1), (3, .int x3_)] := hl
            exact B36 (f_Pile_tally_4 S v1 n) hkf4_ _ _ _ z6_z (v2_ + 1) bz6_z x3_ v3_ hx3_ hS hM (lv_sub hl [2, 3, 0, 4] rfl) h
  refine lv_iconst (v := 0) hx hb dX5_tally_0 (by decide) ?_
  refine lv_istore_n (lv' := [(2, .int 0), (0, .ref (b + 10)), (1, .int x1)]) hx hb dX5_tally_1 rfl hl (by decide) rfl (fun ls hl => ?_)
  refine lv_iconst (v := 0) hx hb dX5_tally_2 (by decide) ?_
  refine lv_istore_n (lv' := [(3, .int 0), (2, .int 0), (0, .ref (b + 10)), (1, .int x1)]) hx hb dX5_tally_3 rfl hl (by decide) rfl (fun ls hl => ?_)
  exact B4 FU _ _ _ 0 0 (show (0 : Int32).toInt = 0 by decide) 0 0 (show (0 : Int32).toInt = 0 by decide) hS hM (lv_sub hl [2, 3, 1, 0] rfl) h

def f_Bill_sum_69 (S : SS) (v2 : Int) (kf5_ : Int → Int → Option Int) (v3_ : Int) (v4_ : Int) : Option Int := w_chk (i32 (v4_ + 1)) (kf5_ v3_ (v4_ + 1))
def f_Bill_sum_53 (S : SS) (v2 : Int) (kf5_ : Int → Int → Option Int) (v3_ : Int) (v4_ : Int) (j5_ : Nat) (vt0_ : Int) : Option Int := (if vt0_ = v2 then w_b1 (f_Bill_priceOf S (gi S (14 + 4 * j5_) 2)) (fun r2_z => w_chk (i32 (v3_ + r2_z)) (f_Bill_sum_69 S v2 kf5_ (v3_ + r2_z) v4_)) else f_Bill_sum_69 S v2 kf5_ v3_ v4_)
def f_Bill_sum_48 (S : SS) (v2 : Int) (kf5_ : Int → Int → Option Int) (v3_ : Int) (v4_ : Int) (j5_ : Nat) : Option Int := f_Bill_sum_53 S v2 kf5_ v3_ v4_ j5_ 1
def f_Bill_sum_5_b (S : SS) (v2 : Int) (kf5_ : Int → Int → Option Int) (v3_ : Int) (v4_ : Int) : Option Int := (if gi S 10 5 ≤ v4_ then some v3_ else w_b1 (f_Pile_doneNumber S v4_) (fun r2_z => w_b1 (f_Pile_find S r2_z) (fun o4_z => w_on o4_z (f_Bill_sum_69 S v2 kf5_ v3_ v4_) (fun j6_z => w_chk (j6_z < 40) ((if gi S (14 + 4 * j6_z) 3 = 2 then f_Bill_sum_48 S v2 kf5_ v3_ v4_ j6_z else (if gi S (14 + 4 * j6_z) 9 = 0 then f_Bill_sum_53 S v2 kf5_ v3_ v4_ j6_z 0 else f_Bill_sum_48 S v2 kf5_ v3_ v4_ j6_z)))))))
def f_Bill_sum_5 (S : SS) (v2 : Int) : Nat → Int → Int → Option Int
  | 0 => fun _ _ => none
  | n + 1 => f_Bill_sum_5_b S v2 (f_Bill_sum_5 S v2 n)
def f_Bill_sum (S : SS) (v2 : Int) : Option Int := f_Bill_sum_5 S v2 FU 0 0
set_option maxHeartbeats 4000000 in
set_option maxRecDepth 100000 in
theorem g_Bill_sum (l : Launch) (D : va_G) (kc : Nat → ClassId) (b : Nat) (T S : SS) (x2 : Int32) (v2 : Int) (hx2 : x2.toInt = v2) (hS : rng S) {vr : Int} (h : f_Bill_sum S v2 = some vr) : cI l yX0_sum cX0_sum 6 .int 3 D kc b (jX b kc T) S [.ref (b + 190), .ref (b + 10), .int x2] vr S := by
  refine g_beg_i (by decide) (Nat.le_of_ble_eq_true rfl) ?_
  intro p e s m args below meth c Q C ret hM ls hl
  obtain ⟨hx, hb, hml, hown, hts, hE, hbs⟩ := id C
  have hl : lv_has ls 6 [(0, .ref (b + 190)), (1, .ref (b + 10)), (2, .int x2)] := hl
  unfold f_Bill_sum at h
  have B69 : ∀ (kf5_ : Int → Int → Option Int) (hkf5_ : ∀ (H : Heap) (locs : List Loc) (ls : Array Slot) (x3_ : Int32) (v3_ : Int) (hx3_ : x3_.toInt = v3_) (x4_ : Int32) (v4_ : Int) (hx4_ : x4_.toInt = v4_), rng S → mS D b s 220 (jX b kc T S) H locs → lv_has ls 6 [(0, .ref (b + 190)), (1, .ref (b + 10)), (2, .int x2), (3, .int x3_), (4, .int x4_)] → kf5_ v3_ v4_ = some vr → W p l e (mR 3 0 0) s m args below meth c H locs 0 0 Q (F0 m 5 ls [])), ∀ (H : Heap) (locs : List Loc) (ls : Array Slot) (x3_ : Int32) (v3_ : Int) (hx3_ : x3_.toInt = v3_) (x4_ : Int32) (v4_ : Int) (hx4_ : x4_.toInt = v4_), rng S → mS D b s 220 (jX b kc T S) H locs → lv_has ls 6 [(0, .ref (b + 190)), (1, .ref (b + 10)), (2, .int x2), (3, .int x3_), (4, .int x4_)] → f_Bill_sum_69 S v2 kf5_ v3_ v4_ = some vr → W p l e (mR 3 0 0) s m args below meth c H locs 0 0 Q (F0 m 69 ls []) := by
    intro kf5_ hkf5_ H locs ls x3_ v3_ hx3_ x4_ v4_ hx4_ hS hM hl h
    unfold f_Bill_sum_69 at h
    refine g_iinc (y := 1) hx hb hx4_ (by decide) (by decide) h dX0_sum_69 hl (k := 4) rfl (by decide) (fun z1_z ls bz1_z h hl => ?_)
    have hl : lv_has ls 6 [(4, .int z1_z), (0, .ref (b + 190)), (1, .ref (b + 10)), (2, .int x2), (3, .int x3_)] := hl
    refine lv_goto (tgt := 5) hx hb dX0_sum_72 (by decide) ?_
    exact hkf5_ _ _ _ x3_ v3_ hx3_ z1_z (v4_ + 1) bz1_z hS hM (lv_sub hl [1, 2, 3, 4, 0] rfl) h
  have B53 : ∀ (kf5_ : Int → Int → Option Int) (hkf5_ : ∀ (H : Heap) (locs : List Loc) (ls : Array Slot) (x3_ : Int32) (v3_ : Int) (hx3_ : x3_.toInt = v3_) (x4_ : Int32) (v4_ : Int) (hx4_ : x4_.toInt = v4_), rng S → mS D b s 220 (jX b kc T S) H locs → lv_has ls 6 [(0, .ref (b + 190)), (1, .ref (b + 10)), (2, .int x2), (3, .int x3_), (4, .int x4_)] → kf5_ v3_ v4_ = some vr → W p l e (mR 3 0 0) s m args below meth c H locs 0 0 Q (F0 m 5 ls [])), ∀ (H : Heap) (locs : List Loc) (ls : Array Slot) (x3_ : Int32) (v3_ : Int) (hx3_ : x3_.toInt = v3_) (x4_ : Int32) (v4_ : Int) (hx4_ : x4_.toInt = v4_) (j5_ : Nat) (hj5_ : j5_ < 40) (xt0_ : Int32) (vt0_ : Int) (hxt0_ : xt0_.toInt = vt0_), rng S → mS D b s 220 (jX b kc T S) H locs → lv_has ls 6 [(0, .ref (b + 190)), (1, .ref (b + 10)), (2, .int x2), (3, .int x3_), (4, .int x4_), (5, .ref (b + (14 + 4 * j5_)))] → f_Bill_sum_53 S v2 kf5_ v3_ v4_ j5_ vt0_ = some vr → W p l e (mR 3 0 0) s m args below meth c H locs 0 0 Q (F0 m 53 ls [.int xt0_]) := by
    intro kf5_ hkf5_ H locs ls x3_ v3_ hx3_ x4_ v4_ hx4_ j5_ hj5_ xt0_ vt0_ hxt0_ hS hM hl h
    unfold f_Bill_sum_53 at h
    refine lv_iload_n hx hb dX0_sum_53 rfl (lv_at hl 2 rfl) ?_
    refine g_icmp_ne (tgt := 69) hx hb hxt0_ hx2 h dX0_sum_54 (by decide) (fun h => ?_) (fun h => ?_)
    · exact B69 kf5_ hkf5_ _ _ _ x3_ v3_ hx3_ x4_ v4_ hx4_ hS hM (lv_sub hl [0, 1, 2, 3, 4] rfl) h
    · refine lv_iload_n hx hb dX0_sum_57 rfl (lv_at hl 3 rfl) ?_
      refine lv_aload_n hx hb dX0_sum_58 rfl (lv_at hl 0 rfl) ?_
      refine lv_aload hx hb dX0_sum_59 (lv_at hl 5 rfl) ?_
      refine g_getN fl_X0_49_X3 C hM (i := 14 + 4 * j5_) (r := 14 + 4 * j5_) (by omega) (e_mk b kc T S hj5_) rfl hS dX0_sum_61 (fun z1_z bz1_z => ?_)
      obtain ⟨r2_z, cr2_z, h⟩ := w_b1E h
      refine g_callI (J := jX b kc T) (m_runV calV_X0_priceOf wd_987 (g_Bill_priceOf l D kc b T S z1_z (gi S (14 + 4 * j5_) 2) bz1_z hS cr2_z) C hM (i := 190) (by omega) (e_190 b kc T S) rfl hl.1 rfl rfl (Nat.le_of_ble_eq_true rfl) dX0_sum_64 ⟨Nat.le_of_ble_eq_true rfl, Nat.le_of_ble_eq_true rfl⟩ ⟨Nat.le_of_ble_eq_true rfl, Nat.le_of_ble_eq_true rfl⟩) hM (fun z3_z H locs bz3_z hM hS => ?_)
      refine g_iadd hx hb hx3_ bz3_z h dX0_sum_67 (fun z4_z bz4_z h => ?_)
      refine lv_istore_n (lv' := [(3, .int z4_z), (0, .ref (b + 190)), (1, .ref (b + 10)), (2, .int x2), (4, .int x4_), (5, .ref (b + (14 + 4 * j5_)))]) hx hb dX0_sum_68 rfl hl (by decide) rfl (fun ls hl => ?_)
      exact B69 kf5_ hkf5_ _ _ _ z4_z (v3_ + r2_z) bz4_z x4_ v4_ hx4_ hS hM (lv_sub hl [1, 2, 3, 0, 4] rfl) h
  have B48 : ∀ (kf5_ : Int → Int → Option Int) (hkf5_ : ∀ (H : Heap) (locs : List Loc) (ls : Array Slot) (x3_ : Int32) (v3_ : Int) (hx3_ : x3_.toInt = v3_) (x4_ : Int32) (v4_ : Int) (hx4_ : x4_.toInt = v4_), rng S → mS D b s 220 (jX b kc T S) H locs → lv_has ls 6 [(0, .ref (b + 190)), (1, .ref (b + 10)), (2, .int x2), (3, .int x3_), (4, .int x4_)] → kf5_ v3_ v4_ = some vr → W p l e (mR 3 0 0) s m args below meth c H locs 0 0 Q (F0 m 5 ls [])), ∀ (H : Heap) (locs : List Loc) (ls : Array Slot) (x3_ : Int32) (v3_ : Int) (hx3_ : x3_.toInt = v3_) (x4_ : Int32) (v4_ : Int) (hx4_ : x4_.toInt = v4_) (j5_ : Nat) (hj5_ : j5_ < 40), rng S → mS D b s 220 (jX b kc T S) H locs → lv_has ls 6 [(0, .ref (b + 190)), (1, .ref (b + 10)), (2, .int x2), (3, .int x3_), (4, .int x4_), (5, .ref (b + (14 + 4 * j5_)))] → f_Bill_sum_48 S v2 kf5_ v3_ v4_ j5_ = some vr → W p l e (mR 3 0 0) s m args below meth c H locs 0 0 Q (F0 m 48 ls []) := by
    intro kf5_ hkf5_ H locs ls x3_ v3_ hx3_ x4_ v4_ hx4_ j5_ hj5_ hS hM hl h
    unfold f_Bill_sum_48 at h
    refine lv_iconst (v := 1) hx hb dX0_sum_48 (by decide) ?_
    refine lv_goto (tgt := 53) hx hb dX0_sum_49 (by decide) ?_
    exact B53 kf5_ hkf5_ _ _ _ x3_ v3_ hx3_ x4_ v4_ hx4_ j5_ hj5_ 1 1 (show (1 : Int32).toInt = 1 by decide) hS hM (lv_sub hl [0, 1, 2, 3, 4, 5] rfl) h
  have B5 : ∀ (n : Nat), ∀ (H : Heap) (locs : List Loc) (ls : Array Slot) (x3_ : Int32) (v3_ : Int) (hx3_ : x3_.toInt = v3_) (x4_ : Int32) (v4_ : Int) (hx4_ : x4_.toInt = v4_), rng S → mS D b s 220 (jX b kc T S) H locs → lv_has ls 6 [(0, .ref (b + 190)), (1, .ref (b + 10)), (2, .int x2), (3, .int x3_), (4, .int x4_)] → f_Bill_sum_5 S v2 n v3_ v4_ = some vr → W p l e (mR 3 0 0) s m args below meth c H locs 0 0 Q (F0 m 5 ls []) := by
    intro n
    induction n with
    | zero => intro H locs ls x3_ v3_ hx3_ x4_ v4_ hx4_ hS hM hl h; exact absurd (h : none = some _) (fun q => nomatch q)
    | succ n hkf5_ =>
      intro H locs ls x3_ v3_ hx3_ x4_ v4_ hx4_ hS hM hl h
      have h : f_Bill_sum_5_b S v2 (f_Bill_sum_5 S v2 n) v3_ v4_ = some vr := h
      unfold f_Bill_sum_5_b at h
      refine lv_iload hx hb dX0_sum_5 (lv_at hl 4 rfl) ?_
      refine lv_aload_n hx hb dX0_sum_7 rfl (lv_at hl 1 rfl) ?_
      refine g_getN fl_X0_27_X5 C hM (i := 10) (r := 10) (by omega) (e_10 b kc T S) rfl hS dX0_sum_8 (fun z1_z bz1_z => ?_)
      refine g_icmp_ge (tgt := 75) hx hb hx4_ bz1_z h dX0_sum_11 (by decide) (fun h => ?_) (fun h => ?_)
      · refine lv_iload_n hx hb dX0_sum_75 rfl (lv_at hl 3 rfl) ?_
        exact ret S _ _ _ _ x3_ (hx3_.trans (Option.some.inj h)) rfl hM hS dX0_sum_76
      · refine lv_aload_n hx hb dX0_sum_14 rfl (lv_at hl 1 rfl) ?_
        refine lv_aload_n hx hb dX0_sum_15 rfl (lv_at hl 1 rfl) ?_
        refine lv_iload hx hb dX0_sum_16 (lv_at hl 4 rfl) ?_
        obtain ⟨r2_z, cr2_z, h⟩ := w_b1E h
        refine g_callI (J := jX b kc T) (m_runV calV_X5_doneNumber wd_999 (g_Pile_doneNumber l D kc b T S x4_ v4_ hx4_ hS cr2_z) C hM (i := 10) (by omega) (e_10 b kc T S) rfl hl.1 rfl rfl (Nat.le_of_ble_eq_true rfl) dX0_sum_18 ⟨Nat.le_of_ble_eq_true rfl, Nat.le_of_ble_eq_true rfl⟩ ⟨Nat.le_of_ble_eq_true rfl, Nat.le_of_ble_eq_true rfl⟩) hM (fun z3_z H locs bz3_z hM hS => ?_)
        obtain ⟨o4_z, co4_z, h⟩ := w_b1E h
        refine g_callQ (J := jX b kc T) (m_runV calV_X5_find wd_1000 (g_Pile_find l D kc b T S z3_z r2_z bz3_z hS co4_z) C hM (i := 10) (by omega) (e_10 b kc T S) rfl hl.1 rfl rfl (Nat.le_of_ble_eq_true rfl) dX0_sum_21 ⟨Nat.le_of_ble_eq_true rfl, Nat.le_of_ble_eq_true rfl⟩ ⟨Nat.le_of_ble_eq_true rfl, Nat.le_of_ble_eq_true rfl⟩) hM (fun z5_z H locs bz5_z hM hS => ?_)
        subst bz5_z
        refine lv_astoreq (lv' := [(5, va_rf (om b o4_z)), (0, .ref (b + 190)), (1, .ref (b + 10)), (2, .int x2), (3, .int x3_), (4, .int x4_)]) hx hb dX0_sum_24 hl (by decide) rfl (fun ls hl => ?_)
        refine lv_aloadq hx hb dX0_sum_26 (lv_at hl 0 rfl) ?_
        cases o4_z with
        | none =>
          replace h := w_onN h
          have hl : lv_has ls 6 [(5, .null), (0, .ref (b + 190)), (1, .ref (b + 10)), (2, .int x2), (3, .int x3_), (4, .int x4_)] := hl
          refine lv_ifnullN (tgt := 69) hx hb dX0_sum_28 (by decide) ?_
          exact B69 (f_Bill_sum_5 S v2 n) hkf5_ _ _ _ x3_ v3_ hx3_ x4_ v4_ hx4_ hS hM (lv_sub hl [1, 2, 3, 4, 5] rfl) h
        | some j6_z =>
          obtain ⟨hj6_z, h⟩ := w_chkE (w_onS h)
          have hl : lv_has ls 6 [(5, .ref (b + (14 + 4 * j6_z))), (0, .ref (b + 190)), (1, .ref (b + 10)), (2, .int x2), (3, .int x3_), (4, .int x4_)] := hl
          refine lv_ifnull hx hb dX0_sum_28 ?_
          refine lv_aload hx hb dX0_sum_31 (lv_at hl 0 rfl) ?_
          refine g_getN fl_X0_40_X3 C hM (i := 14 + 4 * j6_z) (r := 14 + 4 * j6_z) (by omega) (e_mk b kc T S hj6_z) rfl hS dX0_sum_33 (fun z7_z bz7_z => ?_)
          refine lv_iconst (v := 2) hx hb dX0_sum_36 (by decide) ?_
          refine g_icmp_eq (tgt := 48) hx hb bz7_z (show (2 : Int32).toInt = 2 by decide) h dX0_sum_37 (by decide) (fun h => ?_) (fun h => ?_)
          · exact B48 (f_Bill_sum_5 S v2 n) hkf5_ _ _ _ x3_ v3_ hx3_ x4_ v4_ hx4_ j6_z hj6_z hS hM (lv_sub hl [1, 2, 3, 4, 5, 0] rfl) h
          · refine lv_aload hx hb dX0_sum_40 (lv_at hl 0 rfl) ?_
            refine g_getN fl_X0_45_X3 C hM (i := 14 + 4 * j6_z) (r := 14 + 4 * j6_z) (by omega) (e_mk b kc T S hj6_z) rfl hS dX0_sum_42 (fun z8_z bz8_z => ?_)
            refine g_if_eq (tgt := 52) hx hb bz8_z h dX0_sum_45 (by decide) (fun h => ?_) (fun h => ?_)
            · refine lv_iconst (v := 0) hx hb dX0_sum_52 (by decide) ?_
              exact B53 (f_Bill_sum_5 S v2 n) hkf5_ _ _ _ x3_ v3_ hx3_ x4_ v4_ hx4_ j6_z hj6_z 0 0 (show (0 : Int32).toInt = 0 by decide) hS hM (lv_sub hl [1, 2, 3, 4, 5, 0] rfl) h
            · exact B48 (f_Bill_sum_5 S v2 n) hkf5_ _ _ _ x3_ v3_ hx3_ x4_ v4_ hx4_ j6_z hj6_z hS hM (lv_sub hl [1, 2, 3, 4, 5, 0] rfl) h
  refine lv_iconst (v := 0) hx hb dX0_sum_0 (by decide) ?_
  refine lv_istore_n (lv' := [(3, .int 0), (0, .ref (b + 190)), (1, .ref (b + 10)), (2, .int x2)]) hx hb dX0_sum_1 rfl hl (by decide) rfl (fun ls hl => ?_)
  refine lv_iconst (v := 0) hx hb dX0_sum_2 (by decide) ?_
  refine lv_istore (lv' := [(4, .int 0), (3, .int 0), (0, .ref (b + 190)), (1, .ref (b + 10)), (2, .int x2)]) hx hb dX0_sum_3 hl (by decide) rfl (fun ls hl => ?_)
  exact B5 FU _ _ _ 0 0 (show (0 : Int32).toInt = 0 by decide) 0 0 (show (0 : Int32).toInt = 0 by decide) hS hM (lv_sub hl [2, 3, 4, 1, 0] rfl) h
