def f_Mark_clear_2_b (j0 : Nat) (kf2_ : SS → Int → Option SS) (S : SS) (v1_ : Int) : Option SS := (if 3 ≤ v1_ then w_lt (f_Sheet_clear S (14 + 4 * j0 + 2)) (fun S1_z => w_lt (si S1_z (14 + 4 * j0) 2 0) (fun S3_z => w_lt (si S3_z (14 + 4 * j0) 3 0) (fun S4_z => w_lt (si S4_z (14 + 4 * j0) 7 0) (fun S5_z => w_lt (si S5_z (14 + 4 * j0) 8 0) (fun S6_z => w_lt (si S6_z (14 + 4 * j0) 9 0) (fun S7_z => w_lt (si S7_z (14 + 4 * j0) 10 (-1)) (fun S8_z => w_lt (si S8_z (14 + 4 * j0) 11 0) (fun S9_z => w_lt (si S9_z (14 + 4 * j0) 12 (-1)) (fun S10_z => some S10_z))))))))) else w_chk (0 ≤ v1_ ∧ v1_ < 3) (w_lt (si S (14 + 4 * j0 + 1) (v1_).toNat (-1)) (fun S11_z => w_chk (i32 (v1_ + 1)) (kf2_ S11_z (v1_ + 1)))))
def f_Mark_clear_2 (j0 : Nat) : Nat → SS → Int → Option SS
  | 0 => fun _ _ => none
  | n + 1 => f_Mark_clear_2_b j0 (f_Mark_clear_2 j0 n)
def f_Mark_clear (S : SS) (j0 : Nat) : Option SS := f_Mark_clear_2 j0 FU S 0
set_option maxHeartbeats 4000000 in
set_option maxRecDepth 100000 in
theorem g_Mark_clear (l : Launch) (D : va_G) (kc : Nat → ClassId) (b : Nat) (T S : SS) (j0 : Nat) (hj0 : j0 < 40) (hS : rng S) {Sr : SS} (h : f_Mark_clear S j0 = some Sr) : cV l yX3_clear cX3_clear 2 2 D kc b (jX b kc T) S [.ref (b + (14 + 4 * j0))] Sr := by
  refine g_beg_v (by decide) (Nat.le_of_ble_eq_true rfl) ?_
  intro p e s m args below meth c Q C ret hM ls hl
  obtain ⟨hx, hb, hml, hown, hts, hE, hbs⟩ := id C
  have hl : lv_has ls 2 [(0, .ref (b + (14 + 4 * j0)))] := hl
  unfold f_Mark_clear at h
  have B2 : ∀ (n : Nat), ∀ (S : SS) (H : Heap) (locs : List Loc) (ls : Array Slot) (x1_ : Int32) (v1_ : Int) (hx1_ : x1_.toInt = v1_), rng S → mS D b s 220 (jX b kc T S) H locs → lv_has ls 2 [(0, .ref (b + (14 + 4 * j0))), (1, .int x1_)] → f_Mark_clear_2 j0 n S v1_ = some Sr → W p l e (mR 2 0 0) s m args below meth c H locs 0 0 Q (F0 m 2 ls []) := by
    intro n
    induction n with
    | zero => intro S H locs ls x1_ v1_ hx1_ hS hM hl h; exact absurd (h : none = some _) (fun q => nomatch q)
    | succ n hkf2_ =>
      intro S H locs ls x1_ v1_ hx1_ hS hM hl h
      have h : f_Mark_clear_2_b j0 (f_Mark_clear_2 j0 n) S v1_ = some Sr := h
      unfold f_Mark_clear_2_b at h
      refine lv_iload_n hx hb dX3_clear_2 rfl (lv_at hl 1 rfl) ?_
      refine lv_aload_n hx hb dX3_clear_3 rfl (lv_at hl 0 rfl) ?_
      refine m_get fl_X3_9_X3 C hM (i := 14 + 4 * j0) (by omega) (e_mk b kc T S hj0) (v := .ref (b + (14 + 4 * j0 + 1))) rfl dX3_clear_4 ?_
      refine m_alen C hM (j := 14 + 4 * j0 + 1) (by omega) 1 (e_nm b kc T S hj0) rfl (v := 3) rfl dX3_clear_7 ?_
      refine g_icmp_ge (tgt := 24) hx hb hx1_ (show (3 : Int32).toInt = 3 by decide) h dX3_clear_8 (by decide) (fun h => ?_) (fun h => ?_)
      · refine lv_aload_n hx hb dX3_clear_24 rfl (lv_at hl 0 rfl) ?_
        refine m_get fl_X3_20_X3 C hM (i := 14 + 4 * j0) (by omega) (e_mk b kc T S hj0) (v := .ref (b + (14 + 4 * j0 + 2))) rfl dX3_clear_25 ?_
        obtain ⟨S1_z, cS1_z, h⟩ := w_ltE h
        refine g_callV (J := jX b kc T) (m_runV calV_X8_clear wd_773 (g_Sheet_clear l D kc b T S (14 + 4 * j0 + 2) (show shOk (14 + 4 * j0 + 2) by omega) hS cS1_z.symm) C hM (i := 14 + 4 * j0 + 2) (by omega) (e_sh b kc T S (show shOk (14 + 4 * j0 + 2) by omega)) rfl hl.1 rfl rfl (Nat.le_of_ble_eq_true rfl) dX3_clear_28 ⟨Nat.le_of_ble_eq_true rfl, Nat.le_of_ble_eq_true rfl⟩ ⟨Nat.le_of_ble_eq_true rfl, Nat.le_of_ble_eq_true rfl⟩) hM (fun H locs hM hS => ?_)
        refine lv_aload_n hx hb dX3_clear_31 rfl (lv_at hl 0 rfl) ?_
        refine lv_iconst (v := 0) hx hb dX3_clear_32 (by decide) ?_
        refine g_put fl_X3_27_X3 C hM (i := 14 + 4 * j0) (by omega) (e_mk b kc T S1_z hj0) rfl rfl (Nat.le_of_ble_eq_true rfl) (fs1 := [.ref (b + (14 + 4 * j0 + 1)), .ref (b + (14 + 4 * j0 + 2)), .int 0, .int (oi (gi S1_z (14 + 4 * j0) 3)), .int (oi (gi S1_z (14 + 4 * j0) 4)), .int (oi (gi S1_z (14 + 4 * j0) 5)), .int (oi (gi S1_z (14 + 4 * j0) 6)), .int (oi (gi S1_z (14 + 4 * j0) 7)), .int (oi (gi S1_z (14 + 4 * j0) 8)), .int (oi (gi S1_z (14 + 4 * j0) 9)), .int (oi (gi S1_z (14 + 4 * j0) 10)), .int (oi (gi S1_z (14 + 4 * j0) 11)), .int (oi (gi S1_z (14 + 4 * j0) 12))]) rfl (p_mk_2 hj0 (show (0 : Int32).toInt = 0 by decide)) (rng_si hS (i32_of (show (0 : Int32).toInt = 0 by decide))) h dX3_clear_33 (fun S3_z H locs h hM hS => ?_)
        refine lv_aload_n hx hb dX3_clear_36 rfl (lv_at hl 0 rfl) ?_
        refine lv_iconst (v := 0) hx hb dX3_clear_37 (by decide) ?_
        refine g_put fl_X3_31_X3 C hM (i := 14 + 4 * j0) (by omega) (e_mk b kc T S3_z hj0) rfl rfl (Nat.le_of_ble_eq_true rfl) (fs1 := [.ref (b + (14 + 4 * j0 + 1)), .ref (b + (14 + 4 * j0 + 2)), .int (oi (gi S3_z (14 + 4 * j0) 2)), .int 0, .int (oi (gi S3_z (14 + 4 * j0) 4)), .int (oi (gi S3_z (14 + 4 * j0) 5)), .int (oi (gi S3_z (14 + 4 * j0) 6)), .int (oi (gi S3_z (14 + 4 * j0) 7)), .int (oi (gi S3_z (14 + 4 * j0) 8)), .int (oi (gi S3_z (14 + 4 * j0) 9)), .int (oi (gi S3_z (14 + 4 * j0) 10)), .int (oi (gi S3_z (14 + 4 * j0) 11)), .int (oi (gi S3_z (14 + 4 * j0) 12))]) rfl (p_mk_3 hj0 (show (0 : Int32).toInt = 0 by decide)) (rng_si hS (i32_of (show (0 : Int32).toInt = 0 by decide))) h dX3_clear_38 (fun S4_z H locs h hM hS => ?_)
        refine lv_aload_n hx hb dX3_clear_41 rfl (lv_at hl 0 rfl) ?_
        refine lv_iconst (v := 0) hx hb dX3_clear_42 (by decide) ?_
        refine g_put fl_X3_34_X3 C hM (i := 14 + 4 * j0) (by omega) (e_mk b kc T S4_z hj0) (z_nar (show (0 : Int32).toInt = 0 by decide) (by decide)) (z_fit (show (0 : Int32).toInt = 0 by decide) (by decide)) (Nat.le_of_ble_eq_true rfl) (fs1 := [.ref (b + (14 + 4 * j0 + 1)), .ref (b + (14 + 4 * j0 + 2)), .int (oi (gi S4_z (14 + 4 * j0) 2)), .int (oi (gi S4_z (14 + 4 * j0) 3)), .int (oi (gi S4_z (14 + 4 * j0) 4)), .int (oi (gi S4_z (14 + 4 * j0) 5)), .int (oi (gi S4_z (14 + 4 * j0) 6)), .int 0, .int (oi (gi S4_z (14 + 4 * j0) 8)), .int (oi (gi S4_z (14 + 4 * j0) 9)), .int (oi (gi S4_z (14 + 4 * j0) 10)), .int (oi (gi S4_z (14 + 4 * j0) 11)), .int (oi (gi S4_z (14 + 4 * j0) 12))]) rfl (p_mk_7 hj0 (show (0 : Int32).toInt = 0 by decide)) (rng_si hS (i32_of (show (0 : Int32).toInt = 0 by decide))) h dX3_clear_43 (fun S5_z H locs h hM hS => ?_)
        refine lv_aload_n hx hb dX3_clear_46 rfl (lv_at hl 0 rfl) ?_
        refine lv_iconst (v := 0) hx hb dX3_clear_47 (by decide) ?_
        refine g_put fl_X3_38_X3 C hM (i := 14 + 4 * j0) (by omega) (e_mk b kc T S5_z hj0) (z_nar (show (0 : Int32).toInt = 0 by decide) (by decide)) (z_fit (show (0 : Int32).toInt = 0 by decide) (by decide)) (Nat.le_of_ble_eq_true rfl) (fs1 := [.ref (b + (14 + 4 * j0 + 1)), .ref (b + (14 + 4 * j0 + 2)), .int (oi (gi S5_z (14 + 4 * j0) 2)), .int (oi (gi S5_z (14 + 4 * j0) 3)), .int (oi (gi S5_z (14 + 4 * j0) 4)), .int (oi (gi S5_z (14 + 4 * j0) 5)), .int (oi (gi S5_z (14 + 4 * j0) 6)), .int (oi (gi S5_z (14 + 4 * j0) 7)), .int 0, .int (oi (gi S5_z (14 + 4 * j0) 9)), .int (oi (gi S5_z (14 + 4 * j0) 10)), .int (oi (gi S5_z (14 + 4 * j0) 11)), .int (oi (gi S5_z (14 + 4 * j0) 12))]) rfl (p_mk_8 hj0 (show (0 : Int32).toInt = 0 by decide)) (rng_si hS (i32_of (show (0 : Int32).toInt = 0 by decide))) h dX3_clear_48 (fun S6_z H locs h hM hS => ?_)
        refine lv_aload_n hx hb dX3_clear_51 rfl (lv_at hl 0 rfl) ?_
        refine lv_iconst (v := 0) hx hb dX3_clear_52 (by decide) ?_
        refine g_put fl_X3_41_X3 C hM (i := 14 + 4 * j0) (by omega) (e_mk b kc T S6_z hj0) (z_nar (show (0 : Int32).toInt = 0 by decide) (by decide)) (z_fit (show (0 : Int32).toInt = 0 by decide) (by decide)) (Nat.le_of_ble_eq_true rfl) (fs1 := [.ref (b + (14 + 4 * j0 + 1)), .ref (b + (14 + 4 * j0 + 2)), .int (oi (gi S6_z (14 + 4 * j0) 2)), .int (oi (gi S6_z (14 + 4 * j0) 3)), .int (oi (gi S6_z (14 + 4 * j0) 4)), .int (oi (gi S6_z (14 + 4 * j0) 5)), .int (oi (gi S6_z (14 + 4 * j0) 6)), .int (oi (gi S6_z (14 + 4 * j0) 7)), .int (oi (gi S6_z (14 + 4 * j0) 8)), .int 0, .int (oi (gi S6_z (14 + 4 * j0) 10)), .int (oi (gi S6_z (14 + 4 * j0) 11)), .int (oi (gi S6_z (14 + 4 * j0) 12))]) rfl (p_mk_9 hj0 (show (0 : Int32).toInt = 0 by decide)) (rng_si hS (i32_of (show (0 : Int32).toInt = 0 by decide))) h dX3_clear_53 (fun S7_z H locs h hM hS => ?_)
        refine lv_aload_n hx hb dX3_clear_56 rfl (lv_at hl 0 rfl) ?_
        refine lv_iconst (v := (-1)) hx hb dX3_clear_57 (by decide) ?_
        refine g_put fl_X3_44_X3 C hM (i := 14 + 4 * j0) (by omega) (e_mk b kc T S7_z hj0) rfl rfl (Nat.le_of_ble_eq_true rfl) (fs1 := [.ref (b + (14 + 4 * j0 + 1)), .ref (b + (14 + 4 * j0 + 2)), .int (oi (gi S7_z (14 + 4 * j0) 2)), .int (oi (gi S7_z (14 + 4 * j0) 3)), .int (oi (gi S7_z (14 + 4 * j0) 4)), .int (oi (gi S7_z (14 + 4 * j0) 5)), .int (oi (gi S7_z (14 + 4 * j0) 6)), .int (oi (gi S7_z (14 + 4 * j0) 7)), .int (oi (gi S7_z (14 + 4 * j0) 8)), .int (oi (gi S7_z (14 + 4 * j0) 9)), .int (-1), .int (oi (gi S7_z (14 + 4 * j0) 11)), .int (oi (gi S7_z (14 + 4 * j0) 12))]) rfl (p_mk_10 hj0 (show ((-1) : Int32).toInt = (-1) by decide)) (rng_si hS (i32_of (show ((-1) : Int32).toInt = (-1) by decide))) h dX3_clear_58 (fun S8_z H locs h hM hS => ?_)
        refine lv_aload_n hx hb dX3_clear_61 rfl (lv_at hl 0 rfl) ?_
        refine lv_iconst (v := 0) hx hb dX3_clear_62 (by decide) ?_
        refine g_put fl_X3_47_X3 C hM (i := 14 + 4 * j0) (by omega) (e_mk b kc T S8_z hj0) rfl rfl (Nat.le_of_ble_eq_true rfl) (fs1 := [.ref (b + (14 + 4 * j0 + 1)), .ref (b + (14 + 4 * j0 + 2)), .int (oi (gi S8_z (14 + 4 * j0) 2)), .int (oi (gi S8_z (14 + 4 * j0) 3)), .int (oi (gi S8_z (14 + 4 * j0) 4)), .int (oi (gi S8_z (14 + 4 * j0) 5)), .int (oi (gi S8_z (14 + 4 * j0) 6)), .int (oi (gi S8_z (14 + 4 * j0) 7)), .int (oi (gi S8_z (14 + 4 * j0) 8)), .int (oi (gi S8_z (14 + 4 * j0) 9)), .int (oi (gi S8_z (14 + 4 * j0) 10)), .int 0, .int (oi (gi S8_z (14 + 4 * j0) 12))]) rfl (p_mk_11 hj0 (show (0 : Int32).toInt = 0 by decide)) (rng_si hS (i32_of (show (0 : Int32).toInt = 0 by decide))) h dX3_clear_63 (fun S9_z H locs h hM hS => ?_)
        refine lv_aload_n hx hb dX3_clear_66 rfl (lv_at hl 0 rfl) ?_
        refine lv_iconst (v := (-1)) hx hb dX3_clear_67 (by decide) ?_
        refine g_put fl_X3_50_X3 C hM (i := 14 + 4 * j0) (by omega) (e_mk b kc T S9_z hj0) rfl rfl (Nat.le_of_ble_eq_true rfl) (fs1 := [.ref (b + (14 + 4 * j0 + 1)), .ref (b + (14 + 4 * j0 + 2)), .int (oi (gi S9_z (14 + 4 * j0) 2)), .int (oi (gi S9_z (14 + 4 * j0) 3)), .int (oi (gi S9_z (14 + 4 * j0) 4)), .int (oi (gi S9_z (14 + 4 * j0) 5)), .int (oi (gi S9_z (14 + 4 * j0) 6)), .int (oi (gi S9_z (14 + 4 * j0) 7)), .int (oi (gi S9_z (14 + 4 * j0) 8)), .int (oi (gi S9_z (14 + 4 * j0) 9)), .int (oi (gi S9_z (14 + 4 * j0) 10)), .int (oi (gi S9_z (14 + 4 * j0) 11)), .int (-1)]) rfl (p_mk_12 hj0 (show ((-1) : Int32).toInt = (-1) by decide)) (rng_si hS (i32_of (show ((-1) : Int32).toInt = (-1) by decide))) h dX3_clear_68 (fun S10_z H locs h hM hS => ?_)
        exact ret S10_z _ _ _ _ (Option.some.inj h) hM hS dX3_clear_71
      · refine lv_aload_n hx hb dX3_clear_11 rfl (lv_at hl 0 rfl) ?_
        refine m_get fl_X3_9_X3 C hM (i := 14 + 4 * j0) (by omega) (e_mk b kc T S hj0) (v := .ref (b + (14 + 4 * j0 + 1))) rfl dX3_clear_12 ?_
        refine lv_iload_n hx hb dX3_clear_15 rfl (lv_at hl 1 rfl) ?_
        refine lv_iconst (v := (-1)) hx hb dX3_clear_16 (by decide) ?_
        refine g_iast C hM (j := 14 + 4 * j0 + 1) (by omega) (jK_X b kc T (by omega)) (a_nm b kc hj0) hS hx1_ (show ((-1) : Int32).toInt = (-1) by decide) (B := 3) rfl h dX3_clear_17 (fun S11_z H locs h hM hS => ?_)
        refine g_iinc (y := 1) hx hb hx1_ (by decide) (by decide) h dX3_clear_18 hl (k := 1) rfl (by decide) (fun z12_z ls bz12_z h hl => ?_)
        have hl : lv_has ls 2 [(1, .int z12_z), (0, .ref (b + (14 + 4 * j0)))] := hl
        refine lv_goto (tgt := 2) hx hb dX3_clear_21 (by decide) ?_
        exact hkf2_ S11_z _ _ _ z12_z (v1_ + 1) bz12_z hS hM (lv_sub hl [1, 0] rfl) h
  refine lv_iconst (v := 0) hx hb dX3_clear_0 (by decide) ?_
  refine lv_istore_n (lv' := [(1, .int 0), (0, .ref (b + (14 + 4 * j0)))]) hx hb dX3_clear_1 rfl hl (by decide) rfl (fun ls hl => ?_)
  exact B2 FU S _ _ _ 0 0 (show (0 : Int32).toInt = 0 by decide) hS hM (lv_sub hl [1, 0] rfl) h

def f_Mark_number (S : SS) (j0 : Nat) (v1 : Int) : Option Int := (if v1 < 0 then some (-1) else (if v1 < 3 then w_chk (0 ≤ v1 ∧ v1 < 3) (some (gi S (14 + 4 * j0 + 1) (v1).toNat)) else some (-1)))
set_option maxHeartbeats 4000000 in
set_option maxRecDepth 100000 in
theorem g_Mark_number (l : Launch) (D : va_G) (kc : Nat → ClassId) (b : Nat) (T S : SS) (j0 : Nat) (hj0 : j0 < 40) (x1 : Int32) (v1 : Int) (hx1 : x1.toInt = v1) (hS : rng S) {vr : Int} (h : f_Mark_number S j0 v1 = some vr) : cI l yX3_number cX3_number 2 .int 1 D kc b (jX b kc T) S [.ref (b + (14 + 4 * j0)), .int x1] vr S := by
  refine g_beg_i (by decide) (Nat.le_of_ble_eq_true rfl) ?_
  intro p e s m args below meth c Q C ret hM ls hl
  obtain ⟨hx, hb, hml, hown, hts, hE, hbs⟩ := id C
  have hl : lv_has ls 2 [(0, .ref (b + (14 + 4 * j0))), (1, .int x1)] := hl
  unfold f_Mark_number at h
  refine lv_iload_n hx hb dX3_number_0 rfl (lv_at hl 1 rfl) ?_
  refine g_if_lt (tgt := 13) hx hb hx1 h dX3_number_1 (by decide) (fun h => ?_) (fun h => ?_)
  · refine lv_iconst (v := (-1)) hx hb dX3_number_13 (by decide) ?_
    refine lv_goto (tgt := 23) hx hb dX3_number_14 (by decide) ?_
    exact ret S _ _ _ _ (-1) ((show ((-1) : Int32).toInt = (-1) by decide).trans (Option.some.inj h)) rfl hM hS dX3_number_23
  · refine lv_iload_n hx hb dX3_number_4 rfl (lv_at hl 1 rfl) ?_
    refine lv_aload_n hx hb dX3_number_5 rfl (lv_at hl 0 rfl) ?_
    refine m_get fl_X3_9_X3 C hM (i := 14 + 4 * j0) (by omega) (e_mk b kc T S hj0) (v := .ref (b + (14 + 4 * j0 + 1))) rfl dX3_number_6 ?_
    refine m_alen C hM (j := 14 + 4 * j0 + 1) (by omega) 1 (e_nm b kc T S hj0) rfl (v := 3) rfl dX3_number_9 ?_
    refine g_icmp_lt (tgt := 17) hx hb hx1 (show (3 : Int32).toInt = 3 by decide) h dX3_number_10 (by decide) (fun h => ?_) (fun h => ?_)
    · refine lv_aload_n hx hb dX3_number_17 rfl (lv_at hl 0 rfl) ?_
      refine m_get fl_X3_9_X3 C hM (i := 14 + 4 * j0) (by omega) (e_mk b kc T S hj0) (v := .ref (b + (14 + 4 * j0 + 1))) rfl dX3_number_18 ?_
      refine lv_iload_n hx hb dX3_number_21 rfl (lv_at hl 1 rfl) ?_
      refine g_iald C hM (j := 14 + 4 * j0 + 1) (by omega) (jK_X b kc T (by omega)) (a_nm b kc hj0) hS hx1 (B := 3) rfl h dX3_number_22 (fun z1_z bz1_z h => ?_)
      exact ret S _ _ _ _ z1_z (bz1_z.trans (Option.some.inj h)) rfl hM hS dX3_number_23
    · refine lv_iconst (v := (-1)) hx hb dX3_number_13 (by decide) ?_
      refine lv_goto (tgt := 23) hx hb dX3_number_14 (by decide) ?_
      exact ret S _ _ _ _ (-1) ((show ((-1) : Int32).toInt = (-1) by decide).trans (Option.some.inj h)) rfl hM hS dX3_number_23

def f_Mark_setNumber (S : SS) (j0 : Nat) (v1 : Int) (v2 : Int) : Option SS := (if v1 < 0 then some S else (if 3 ≤ v1 then some S else w_chk (0 ≤ v1 ∧ v1 < 3) (w_lt (si S (14 + 4 * j0 + 1) (v1).toNat v2) (fun S1_z => some S1_z))))
set_option maxHeartbeats 4000000 in
set_option maxRecDepth 100000 in
theorem g_Mark_setNumber (l : Launch) (D : va_G) (kc : Nat → ClassId) (b : Nat) (T S : SS) (j0 : Nat) (hj0 : j0 < 40) (x1 : Int32) (v1 : Int) (hx1 : x1.toInt = v1) (x2 : Int32) (v2 : Int) (hx2 : x2.toInt = v2) (hS : rng S) {Sr : SS} (h : f_Mark_setNumber S j0 v1 v2 = some Sr) : cV l yX3_setNumber cX3_setNumber 3 1 D kc b (jX b kc T) S [.ref (b + (14 + 4 * j0)), .int x1, .int x2] Sr := by
  refine g_beg_v (by decide) (Nat.le_of_ble_eq_true rfl) ?_
  intro p e s m args below meth c Q C ret hM ls hl
  obtain ⟨hx, hb, hml, hown, hts, hE, hbs⟩ := id C
  have hl : lv_has ls 3 [(0, .ref (b + (14 + 4 * j0))), (1, .int x1), (2, .int x2)] := hl
  unfold f_Mark_setNumber at h
  refine lv_iload_n hx hb dX3_setNumber_0 rfl (lv_at hl 1 rfl) ?_
  refine g_if_lt (tgt := 20) hx hb hx1 h dX3_setNumber_1 (by decide) (fun h => ?_) (fun h => ?_)
  · exact ret S _ _ _ _ (Option.some.inj h) hM hS dX3_setNumber_20
  · refine lv_iload_n hx hb dX3_setNumber_4 rfl (lv_at hl 1 rfl) ?_
    refine lv_aload_n hx hb dX3_setNumber_5 rfl (lv_at hl 0 rfl) ?_
    refine m_get fl_X3_9_X3 C hM (i := 14 + 4 * j0) (by omega) (e_mk b kc T S hj0) (v := .ref (b + (14 + 4 * j0 + 1))) rfl dX3_setNumber_6 ?_
    refine m_alen C hM (j := 14 + 4 * j0 + 1) (by omega) 1 (e_nm b kc T S hj0) rfl (v := 3) rfl dX3_setNumber_9 ?_
    refine g_icmp_ge (tgt := 20) hx hb hx1 (show (3 : Int32).toInt = 3 by decide) h dX3_setNumber_10 (by decide) (fun h => ?_) (fun h => ?_)
    · exact ret S _ _ _ _ (Option.some.inj h) hM hS dX3_setNumber_20
    · refine lv_aload_n hx hb dX3_setNumber_13 rfl (lv_at hl 0 rfl) ?_
      refine m_get fl_X3_9_X3 C hM (i := 14 + 4 * j0) (by omega) (e_mk b kc T S hj0) (v := .ref (b + (14 + 4 * j0 + 1))) rfl dX3_setNumber_14 ?_
      refine lv_iload_n hx hb dX3_setNumber_17 rfl (lv_at hl 1 rfl) ?_
      refine lv_iload_n hx hb dX3_setNumber_18 rfl (lv_at hl 2 rfl) ?_
      refine g_iast C hM (j := 14 + 4 * j0 + 1) (by omega) (jK_X b kc T (by omega)) (a_nm b kc hj0) hS hx1 hx2 (B := 3) rfl h dX3_setNumber_19 (fun S1_z H locs h hM hS => ?_)
      exact ret S1_z _ _ _ _ (Option.some.inj h) hM hS dX3_setNumber_20

def f_Mark_place_104 (j0 : Nat) (S : SS) (vt0_ : Int) : Option SS := w_b1 (f_Mark_number S j0 vt0_) (fun r1_z => w_lt (si S (14 + 4 * j0) 6 r1_z) (fun S3_z => some S3_z))
def f_Mark_place_89 (j0 : Nat) (S : SS) : Option SS := (if gi S (14 + 4 * j0) 2 = 1 then f_Mark_place_104 j0 S 0 else f_Mark_place_104 j0 S 2)
def f_Mark_place_65 (j0 : Nat) (S : SS) (vt0_ : Int) : Option SS := w_lt (si S (14 + 4 * j0) 5 vt0_) (fun S1_z => w_lt (si S1_z (14 + 4 * j0) 6 (-1)) (fun S2_z => (if gi S2_z (14 + 4 * j0) 2 = 1 then f_Mark_place_89 j0 S2_z  else (if gi S2_z (14 + 4 * j0) 2 = 4 then f_Mark_place_89 j0 S2_z  else some S2_z))))
def f_Mark_place_58 (j0 : Nat) (S : SS) (vt0_ : Int) : Option SS := w_b1 (f_Mark_number S j0 vt0_) (fun r1_z => f_Mark_place_65 j0 S r1_z)
def f_Mark_place_36 (j0 : Nat) (S : SS) (v1_ : Int) (vt0_ : Int) : Option SS := w_lt (si S (14 + 4 * j0) 4 vt0_) (fun S1_z => (if v1_ = 0 then f_Mark_place_65 j0 S1_z (-1) else (if gi S1_z (14 + 4 * j0) 2 = 3 then f_Mark_place_58 j0 S1_z 2 else f_Mark_place_58 j0 S1_z 1)))
def f_Mark_place_21 (j0 : Nat) (S : SS) (vt0_ : Int) : Option SS := (if vt0_ = 0 then f_Mark_place_36 j0 S vt0_ 0 else w_b1 (f_Mark_number S j0 0) (fun r1_z => f_Mark_place_36 j0 S vt0_ r1_z))
def f_Mark_place_20 (j0 : Nat) (S : SS) : Option SS := f_Mark_place_21 j0 S 0
def f_Mark_place (S : SS) (j0 : Nat) : Option SS := (if gi S (14 + 4 * j0) 2 = 1 then f_Mark_place_20 j0 S  else (if gi S (14 + 4 * j0) 2 = 5 then f_Mark_place_20 j0 S  else f_Mark_place_21 j0 S 1))
set_option maxHeartbeats 4000000 in
set_option maxRecDepth 100000 in
theorem g_Mark_place (l : Launch) (D : va_G) (kc : Nat → ClassId) (b : Nat) (T S : SS) (j0 : Nat) (hj0 : j0 < 40) (hS : rng S) {Sr : SS} (h : f_Mark_place S j0 = some Sr) : cV l yX3_place cX3_place 2 2 D kc b (jX b kc T) S [.ref (b + (14 + 4 * j0))] Sr := by
  refine g_beg_v (by decide) (Nat.le_of_ble_eq_true rfl) ?_
  intro p e s m args below meth c Q C ret hM ls hl
  obtain ⟨hx, hb, hml, hown, hts, hE, hbs⟩ := id C
  have hl : lv_has ls 2 [(0, .ref (b + (14 + 4 * j0)))] := hl
  unfold f_Mark_place at h
  have B104 : ∀ (S : SS) (H : Heap) (locs : List Loc) (ls : Array Slot) (xt0_ : Int32) (vt0_ : Int) (hxt0_ : xt0_.toInt = vt0_), rng S → mS D b s 220 (jX b kc T S) H locs → lv_has ls 2 [] → f_Mark_place_104 j0 S vt0_ = some Sr → W p l e (mR 2 0 0) s m args below meth c H locs 0 0 Q (F0 m 104 ls [.int xt0_, .ref (b + (14 + 4 * j0)), .ref (b + (14 + 4 * j0))]) := by
    intro S H locs ls xt0_ vt0_ hxt0_ hS hM hl h
    unfold f_Mark_place_104 at h
    obtain ⟨r1_z, cr1_z, h⟩ := w_b1E h
    refine g_callI (J := jX b kc T) (m_runV calV_X3_number wd_642 (g_Mark_number l D kc b T S j0 hj0 xt0_ vt0_ hxt0_ hS cr1_z) C hM (i := 14 + 4 * j0) (by omega) (e_mk b kc T S hj0) rfl hl.1 rfl rfl (Nat.le_of_ble_eq_true rfl) dX3_place_104 ⟨Nat.le_of_ble_eq_true rfl, Nat.le_of_ble_eq_true rfl⟩ ⟨Nat.le_of_ble_eq_true rfl, Nat.le_of_ble_eq_true rfl⟩) hM (fun z2_z H locs bz2_z hM hS => ?_)
    refine g_put fl_X3_63_X3 C hM (i := 14 + 4 * j0) (by omega) (e_mk b kc T S hj0) rfl rfl (Nat.le_of_ble_eq_true rfl) (fs1 := [.ref (b + (14 + 4 * j0 + 1)), .ref (b + (14 + 4 * j0 + 2)), .int (oi (gi S (14 + 4 * j0) 2)), .int (oi (gi S (14 + 4 * j0) 3)), .int (oi (gi S (14 + 4 * j0) 4)), .int (oi (gi S (14 + 4 * j0) 5)), .int z2_z, .int (oi (gi S (14 + 4 * j0) 7)), .int (oi (gi S (14 + 4 * j0) 8)), .int (oi (gi S (14 + 4 * j0) 9)), .int (oi (gi S (14 + 4 * j0) 10)), .int (oi (gi S (14 + 4 * j0) 11)), .int (oi (gi S (14 + 4 * j0) 12))]) rfl (p_mk_6 hj0 bz2_z) (rng_si hS (i32_of bz2_z)) h dX3_place_107 (fun S3_z H locs h hM hS => ?_)
    exact ret S3_z _ _ _ _ (Option.some.inj h) hM hS dX3_place_110
  have B89 : ∀ (S : SS) (H : Heap) (locs : List Loc) (ls : Array Slot), rng S → mS D b s 220 (jX b kc T S) H locs → lv_has ls 2 [(0, .ref (b + (14 + 4 * j0)))] → f_Mark_place_89 j0 S = some Sr → W p l e (mR 2 0 0) s m args below meth c H locs 0 0 Q (F0 m 89 ls []) := by
    intro S H locs ls hS hM hl h
    unfold f_Mark_place_89 at h
    refine lv_aload_n hx hb dX3_place_89 rfl (lv_at hl 0 rfl) ?_
    refine lv_aload_n hx hb dX3_place_90 rfl (lv_at hl 0 rfl) ?_
    refine lv_aload_n hx hb dX3_place_91 rfl (lv_at hl 0 rfl) ?_
    refine g_get fl_X3_27_X3 C hM (i := 14 + 4 * j0) (r := 14 + 4 * j0) (by omega) (e_mk b kc T S hj0) rfl hS dX3_place_92 (fun z1_z bz1_z => ?_)
    refine lv_iconst (v := 1) hx hb dX3_place_95 (by decide) ?_
    refine g_icmp_ne (tgt := 103) hx hb bz1_z (show (1 : Int32).toInt = 1 by decide) h dX3_place_96 (by decide) (fun h => ?_) (fun h => ?_)
    · refine lv_iconst (v := 2) hx hb dX3_place_103 (by decide) ?_
      exact B104 S _ _ _ 2 2 (show (2 : Int32).toInt = 2 by decide) hS hM (lv_sub hl [] rfl) h
    · refine lv_iconst (v := 0) hx hb dX3_place_99 (by decide) ?_
      refine lv_goto (tgt := 104) hx hb dX3_place_100 (by decide) ?_
      exact B104 S _ _ _ 0 0 (show (0 : Int32).toInt = 0 by decide) hS hM (lv_sub hl [] rfl) h
  have B65 : ∀ (S : SS) (H : Heap) (locs : List Loc) (ls : Array Slot) (xt0_ : Int32) (vt0_ : Int) (hxt0_ : xt0_.toInt = vt0_), rng S → mS D b s 220 (jX b kc T S) H locs → lv_has ls 2 [(0, .ref (b + (14 + 4 * j0)))] → f_Mark_place_65 j0 S vt0_ = some Sr → W p l e (mR 2 0 0) s m args below meth c H locs 0 0 Q (F0 m 65 ls [.int xt0_, .ref (b + (14 + 4 * j0))]) := by
    intro S H locs ls xt0_ vt0_ hxt0_ hS hM hl h
    unfold f_Mark_place_65 at h
    refine g_put fl_X3_60_X3 C hM (i := 14 + 4 * j0) (by omega) (e_mk b kc T S hj0) rfl rfl (Nat.le_of_ble_eq_true rfl) (fs1 := [.ref (b + (14 + 4 * j0 + 1)), .ref (b + (14 + 4 * j0 + 2)), .int (oi (gi S (14 + 4 * j0) 2)), .int (oi (gi S (14 + 4 * j0) 3)), .int (oi (gi S (14 + 4 * j0) 4)), .int xt0_, .int (oi (gi S (14 + 4 * j0) 6)), .int (oi (gi S (14 + 4 * j0) 7)), .int (oi (gi S (14 + 4 * j0) 8)), .int (oi (gi S (14 + 4 * j0) 9)), .int (oi (gi S (14 + 4 * j0) 10)), .int (oi (gi S (14 + 4 * j0) 11)), .int (oi (gi S (14 + 4 * j0) 12))]) rfl (p_mk_5 hj0 hxt0_) (rng_si hS (i32_of hxt0_)) h dX3_place_65 (fun S1_z H locs h hM hS => ?_)
    refine lv_aload_n hx hb dX3_place_68 rfl (lv_at hl 0 rfl) ?_
    refine lv_iconst (v := (-1)) hx hb dX3_place_69 (by decide) ?_
    refine g_put fl_X3_63_X3 C hM (i := 14 + 4 * j0) (by omega) (e_mk b kc T S1_z hj0) rfl rfl (Nat.le_of_ble_eq_true rfl) (fs1 := [.ref (b + (14 + 4 * j0 + 1)), .ref (b + (14 + 4 * j0 + 2)), .int (oi (gi S1_z (14 + 4 * j0) 2)), .int (oi (gi S1_z (14 + 4 * j0) 3)), .int (oi (gi S1_z (14 + 4 * j0) 4)), .int (oi (gi S1_z (14 + 4 * j0) 5)), .int (-1), .int (oi (gi S1_z (14 + 4 * j0) 7)), .int (oi (gi S1_z (14 + 4 * j0) 8)), .int (oi (gi S1_z (14 + 4 * j0) 9)), .int (oi (gi S1_z (14 + 4 * j0) 10)), .int (oi (gi S1_z (14 + 4 * j0) 11)), .int (oi (gi S1_z (14 + 4 * j0) 12))]) rfl (p_mk_6 hj0 (show ((-1) : Int32).toInt = (-1) by decide)) (rng_si hS (i32_of (show ((-1) : Int32).toInt = (-1) by decide))) h dX3_place_70 (fun S2_z H locs h hM hS => ?_)
    refine lv_aload_n hx hb dX3_place_73 rfl (lv_at hl 0 rfl) ?_
    refine g_get fl_X3_27_X3 C hM (i := 14 + 4 * j0) (r := 14 + 4 * j0) (by omega) (e_mk b kc T S2_z hj0) rfl hS dX3_place_74 (fun z3_z bz3_z => ?_)
    refine lv_iconst (v := 1) hx hb dX3_place_77 (by decide) ?_
    refine g_icmp_eq (tgt := 89) hx hb bz3_z (show (1 : Int32).toInt = 1 by decide) h dX3_place_78 (by decide) (fun h => ?_) (fun h => ?_)
    · exact B89 S2_z _ _ _ hS hM (lv_sub hl [0] rfl) h
    · refine lv_aload_n hx hb dX3_place_81 rfl (lv_at hl 0 rfl) ?_
      refine g_get fl_X3_27_X3 C hM (i := 14 + 4 * j0) (r := 14 + 4 * j0) (by omega) (e_mk b kc T S2_z hj0) rfl hS dX3_place_82 (fun z4_z bz4_z => ?_)
      refine lv_iconst (v := 4) hx hb dX3_place_85 (by decide) ?_
      refine g_icmp_ne (tgt := 110) hx hb bz4_z (show (4 : Int32).toInt = 4 by decide) h dX3_place_86 (by decide) (fun h => ?_) (fun h => ?_)
      · exact ret S2_z _ _ _ _ (Option.some.inj h) hM hS dX3_place_110
      · exact B89 S2_z _ _ _ hS hM (lv_sub hl [0] rfl) h
  have B58 : ∀ (S : SS) (H : Heap) (locs : List Loc) (ls : Array Slot) (xt0_ : Int32) (vt0_ : Int) (hxt0_ : xt0_.toInt = vt0_), rng S → mS D b s 220 (jX b kc T S) H locs → lv_has ls 2 [(0, .ref (b + (14 + 4 * j0)))] → f_Mark_place_58 j0 S vt0_ = some Sr → W p l e (mR 2 0 0) s m args below meth c H locs 0 0 Q (F0 m 58 ls [.int xt0_, .ref (b + (14 + 4 * j0)), .ref (b + (14 + 4 * j0))]) := by
    intro S H locs ls xt0_ vt0_ hxt0_ hS hM hl h
    unfold f_Mark_place_58 at h
    obtain ⟨r1_z, cr1_z, h⟩ := w_b1E h
    refine g_callI (J := jX b kc T) (m_runV calV_X3_number wd_642 (g_Mark_number l D kc b T S j0 hj0 xt0_ vt0_ hxt0_ hS cr1_z) C hM (i := 14 + 4 * j0) (by omega) (e_mk b kc T S hj0) rfl hl.1 rfl rfl (Nat.le_of_ble_eq_true rfl) dX3_place_58 ⟨Nat.le_of_ble_eq_true rfl, Nat.le_of_ble_eq_true rfl⟩ ⟨Nat.le_of_ble_eq_true rfl, Nat.le_of_ble_eq_true rfl⟩) hM (fun z2_z H locs bz2_z hM hS => ?_)
    refine lv_goto (tgt := 65) hx hb dX3_place_61 (by decide) ?_
    exact B65 S _ _ _ z2_z r1_z bz2_z hS hM (lv_sub hl [0] rfl) h
  have B36 : ∀ (S : SS) (H : Heap) (locs : List Loc) (ls : Array Slot) (x1_ : Int32) (v1_ : Int) (hx1_ : x1_.toInt = v1_) (xt0_ : Int32) (vt0_ : Int) (hxt0_ : xt0_.toInt = vt0_), rng S → mS D b s 220 (jX b kc T S) H locs → lv_has ls 2 [(0, .ref (b + (14 + 4 * j0))), (1, .int x1_)] → f_Mark_place_36 j0 S v1_ vt0_ = some Sr → W p l e (mR 2 0 0) s m args below meth c H locs 0 0 Q (F0 m 36 ls [.int xt0_, .ref (b + (14 + 4 * j0))]) := by
    intro S H locs ls x1_ v1_ hx1_ xt0_ vt0_ hxt0_ hS hM hl h
    unfold f_Mark_place_36 at h
    refine g_put fl_X3_57_X3 C hM (i := 14 + 4 * j0) (by omega) (e_mk b kc T S hj0) rfl rfl (Nat.le_of_ble_eq_true rfl) (fs1 := [.ref (b + (14 + 4 * j0 + 1)), .ref (b + (14 + 4 * j0 + 2)), .int (oi (gi S (14 + 4 * j0) 2)), .int (oi (gi S (14 + 4 * j0) 3)), .int xt0_, .int (oi (gi S (14 + 4 * j0) 5)), .int (oi (gi S (14 + 4 * j0) 6)), .int (oi (gi S (14 + 4 * j0) 7)), .int (oi (gi S (14 + 4 * j0) 8)), .int (oi (gi S (14 + 4 * j0) 9)), .int (oi (gi S (14 + 4 * j0) 10)), .int (oi (gi S (14 + 4 * j0) 11)), .int (oi (gi S (14 + 4 * j0) 12))]) rfl (p_mk_4 hj0 hxt0_) (rng_si hS (i32_of hxt0_)) h dX3_place_36 (fun S1_z H locs h hM hS => ?_)
    refine lv_aload_n hx hb dX3_place_39 rfl (lv_at hl 0 rfl) ?_
    refine lv_iload_n hx hb dX3_place_40 rfl (lv_at hl 1 rfl) ?_
    refine g_if_eq (tgt := 64) hx hb hx1_ h dX3_place_41 (by decide) (fun h => ?_) (fun h => ?_)
    · refine lv_iconst (v := (-1)) hx hb dX3_place_64 (by decide) ?_
      exact B65 S1_z _ _ _ (-1) (-1) (show ((-1) : Int32).toInt = (-1) by decide) hS hM (lv_sub hl [0] rfl) h
    · refine lv_aload_n hx hb dX3_place_44 rfl (lv_at hl 0 rfl) ?_
      refine lv_aload_n hx hb dX3_place_45 rfl (lv_at hl 0 rfl) ?_
      refine g_get fl_X3_27_X3 C hM (i := 14 + 4 * j0) (r := 14 + 4 * j0) (by omega) (e_mk b kc T S1_z hj0) rfl hS dX3_place_46 (fun z2_z bz2_z => ?_)
      refine lv_iconst (v := 3) hx hb dX3_place_49 (by decide) ?_
      refine g_icmp_ne (tgt := 57) hx hb bz2_z (show (3 : Int32).toInt = 3 by decide) h dX3_place_50 (by decide) (fun h => ?_) (fun h => ?_)
      · refine lv_iconst (v := 1) hx hb dX3_place_57 (by decide) ?_
        exact B58 S1_z _ _ _ 1 1 (show (1 : Int32).toInt = 1 by decide) hS hM (lv_sub hl [0] rfl) h
      · refine lv_iconst (v := 2) hx hb dX3_place_53 (by decide) ?_
        refine lv_goto (tgt := 58) hx hb dX3_place_54 (by decide) ?_
        exact B58 S1_z _ _ _ 2 2 (show (2 : Int32).toInt = 2 by decide) hS hM (lv_sub hl [0] rfl) h
  have B21 : ∀ (S : SS) (H : Heap) (locs : List Loc) (ls : Array Slot) (xt0_ : Int32) (vt0_ : Int) (hxt0_ : xt0_.toInt = vt0_), rng S → mS D b s 220 (jX b kc T S) H locs → lv_has ls 2 [(0, .ref (b + (14 + 4 * j0)))] → f_Mark_place_21 j0 S vt0_ = some Sr → W p l e (mR 2 0 0) s m args below meth c H locs 0 0 Q (F0 m 21 ls [.int xt0_]) := by
    intro S H locs ls xt0_ vt0_ hxt0_ hS hM hl h
    unfold f_Mark_place_21 at h
    refine lv_istore_n (lv' := [(1, .int xt0_), (0, .ref (b + (14 + 4 * j0)))]) hx hb dX3_place_21 rfl hl (by decide) rfl (fun ls hl => ?_)
    refine lv_aload_n hx hb dX3_place_22 rfl (lv_at hl 1 rfl) ?_
    refine lv_iload_n hx hb dX3_place_23 rfl (lv_at hl 0 rfl) ?_
    refine g_if_eq (tgt := 35) hx hb hxt0_ h dX3_place_24 (by decide) (fun h => ?_) (fun h => ?_)
    · refine lv_iconst (v := 0) hx hb dX3_place_35 (by decide) ?_
      exact B36 S _ _ _ xt0_ vt0_ hxt0_ 0 0 (show (0 : Int32).toInt = 0 by decide) hS hM (lv_sub hl [1, 0] rfl) h
    · refine lv_aload_n hx hb dX3_place_27 rfl (lv_at hl 1 rfl) ?_
      refine lv_iconst (v := 0) hx hb dX3_place_28 (by decide) ?_
      obtain ⟨r1_z, cr1_z, h⟩ := w_b1E h
      refine g_callI (J := jX b kc T) (m_runV calV_X3_number wd_642 (g_Mark_number l D kc b T S j0 hj0 0 0 (show (0 : Int32).toInt = 0 by decide) hS cr1_z) C hM (i := 14 + 4 * j0) (by omega) (e_mk b kc T S hj0) rfl hl.1 rfl rfl (Nat.le_of_ble_eq_true rfl) dX3_place_29 ⟨Nat.le_of_ble_eq_true rfl, Nat.le_of_ble_eq_true rfl⟩ ⟨Nat.le_of_ble_eq_true rfl, Nat.le_of_ble_eq_true rfl⟩) hM (fun z2_z H locs bz2_z hM hS => ?_)
      refine lv_goto (tgt := 36) hx hb dX3_place_32 (by decide) ?_
      exact B36 S _ _ _ xt0_ vt0_ hxt0_ z2_z r1_z bz2_z hS hM (lv_sub hl [1, 0] rfl) h
  have B20 : ∀ (S : SS) (H : Heap) (locs : List Loc) (ls : Array Slot), rng S → mS D b s 220 (jX b kc T S) H locs → lv_has ls 2 [(0, .ref (b + (14 + 4 * j0)))] → f_Mark_place_20 j0 S = some Sr → W p l e (mR 2 0 0) s m args below meth c H locs 0 0 Q (F0 m 20 ls []) := by
    intro S H locs ls hS hM hl h
    unfold f_Mark_place_20 at h
    refine lv_iconst (v := 0) hx hb dX3_place_20 (by decide) ?_
    exact B21 S _ _ _ 0 0 (show (0 : Int32).toInt = 0 by decide) hS hM (lv_sub hl [0] rfl) h
  refine lv_aload_n hx hb dX3_place_0 rfl (lv_at hl 0 rfl) ?_
  refine g_get fl_X3_27_X3 C hM (i := 14 + 4 * j0) (r := 14 + 4 * j0) (by omega) (e_mk b kc T S hj0) rfl hS dX3_place_1 (fun z1_z bz1_z => ?_)
  refine lv_iconst (v := 1) hx hb dX3_place_4 (by decide) ?_
  refine g_icmp_eq (tgt := 20) hx hb bz1_z (show (1 : Int32).toInt = 1 by decide) h dX3_place_5 (by decide) (fun h => ?_) (fun h => ?_)
  · exact B20 S _ _ _ hS hM (lv_sub hl [0] rfl) h
  · refine lv_aload_n hx hb dX3_place_8 rfl (lv_at hl 0 rfl) ?_
    refine g_get fl_X3_27_X3 C hM (i := 14 + 4 * j0) (r := 14 + 4 * j0) (by omega) (e_mk b kc T S hj0) rfl hS dX3_place_9 (fun z2_z bz2_z => ?_)
    refine lv_iconst (v := 5) hx hb dX3_place_12 (by decide) ?_
    refine g_icmp_eq (tgt := 20) hx hb bz2_z (show (5 : Int32).toInt = 5 by decide) h dX3_place_13 (by decide) (fun h => ?_) (fun h => ?_)
    · exact B20 S _ _ _ hS hM (lv_sub hl [0] rfl) h
    · refine lv_iconst (v := 1) hx hb dX3_place_16 (by decide) ?_
      refine lv_goto (tgt := 21) hx hb dX3_place_17 (by decide) ?_
      exact B21 S _ _ _ 1 1 (show (1 : Int32).toInt = 1 by decide) hS hM (lv_sub hl [0] rfl) h

def f_Mark_fitsInside_26 (S : SS) (j0 : Nat) (v1 : Int) (v2 : Int) : Int := (if gi S (14 + 4 * j0) 5 < gi S (14 + 4 * j0) 4 then 1 else (if gi S (14 + 4 * j0) 4 < v1 then 0 else (if v2 < gi S (14 + 4 * j0) 5 then 0 else 1)))
def f_Mark_fitsInside (S : SS) (j0 : Nat) (v1 : Int) (v2 : Int) : Int := (if gi S (14 + 4 * j0) 6 = (-1) then f_Mark_fitsInside_26 S j0 v1 v2  else (if gi S (14 + 4 * j0) 6 ≤ v1 then 0 else (if gi S (14 + 4 * j0) 6 ≤ v2 then f_Mark_fitsInside_26 S j0 v1 v2  else 0)))
set_option maxHeartbeats 4000000 in
set_option maxRecDepth 100000 in
theorem g_Mark_fitsInside (l : Launch) (D : va_G) (kc : Nat → ClassId) (b : Nat) (T S : SS) (j0 : Nat) (hj0 : j0 < 40) (x1 : Int32) (v1 : Int) (hx1 : x1.toInt = v1) (x2 : Int32) (v2 : Int) (hx2 : x2.toInt = v2) (hS : rng S) {vr : Int} (h : f_Mark_fitsInside S j0 v1 v2 = vr) : cI l yX3_fitsInside cX3_fitsInside 3 .boolean 1 D kc b (jX b kc T) S [.ref (b + (14 + 4 * j0)), .int x1, .int x2] vr S := by
  refine g_beg_z (by decide) (Nat.le_of_ble_eq_true rfl) ?_
  intro p e s m args below meth c Q C ret hM ls hl
  obtain ⟨hx, hb, hml, hown, hts, hE, hbs⟩ := id C
  have hl : lv_has ls 3 [(0, .ref (b + (14 + 4 * j0))), (1, .int x1), (2, .int x2)] := hl
  unfold f_Mark_fitsInside at h
  have B26 : ∀ (H : Heap) (locs : List Loc) (ls : Array Slot), rng S → mS D b s 220 (jX b kc T S) H locs → lv_has ls 3 [(0, .ref (b + (14 + 4 * j0))), (1, .int x1), (2, .int x2)] → f_Mark_fitsInside_26 S j0 v1 v2 = vr → W p l e (mR 1 0 0) s m args below meth c H locs 0 0 Q (F0 m 26 ls []) := by
    intro H locs ls hS hM hl h
    unfold f_Mark_fitsInside_26 at h
    refine lv_aload_n hx hb dX3_fitsInside_26 rfl (lv_at hl 0 rfl) ?_
    refine g_get fl_X3_60_X3 C hM (i := 14 + 4 * j0) (r := 14 + 4 * j0) (by omega) (e_mk b kc T S hj0) rfl hS dX3_fitsInside_27 (fun z1_z bz1_z => ?_)
    refine lv_aload_n hx hb dX3_fitsInside_30 rfl (lv_at hl 0 rfl) ?_
    refine g_get fl_X3_57_X3 C hM (i := 14 + 4 * j0) (r := 14 + 4 * j0) (by omega) (e_mk b kc T S hj0) rfl hS dX3_fitsInside_31 (fun z2_z bz2_z => ?_)
    refine g_icmp_lt (tgt := 53) hx hb bz1_z bz2_z h dX3_fitsInside_34 (by decide) (fun h => ?_) (fun h => ?_)
    · refine lv_iconst (v := 1) hx hb dX3_fitsInside_53 (by decide) ?_
      refine lv_goto (tgt := 58) hx hb dX3_fitsInside_54 (by decide) ?_
      exact ret S _ _ _ _ 1 ((show (1 : Int32).toInt = 1 by decide).trans h) (by rw [← h]; exact (by decide)) rfl hM hS dX3_fitsInside_58
    · refine lv_aload_n hx hb dX3_fitsInside_37 rfl (lv_at hl 0 rfl) ?_
      refine g_get fl_X3_57_X3 C hM (i := 14 + 4 * j0) (r := 14 + 4 * j0) (by omega) (e_mk b kc T S hj0) rfl hS dX3_fitsInside_38 (fun z3_z bz3_z => ?_)
      refine lv_iload_n hx hb dX3_fitsInside_41 rfl (lv_at hl 1 rfl) ?_
      refine g_icmp_lt (tgt := 57) hx hb bz3_z hx1 h dX3_fitsInside_42 (by decide) (fun h => ?_) (fun h => ?_)
      · refine lv_iconst (v := 0) hx hb dX3_fitsInside_57 (by decide) ?_
        exact ret S _ _ _ _ 0 ((show (0 : Int32).toInt = 0 by decide).trans h) (by rw [← h]; exact (by decide)) rfl hM hS dX3_fitsInside_58
      · refine lv_aload_n hx hb dX3_fitsInside_45 rfl (lv_at hl 0 rfl) ?_
        refine g_get fl_X3_60_X3 C hM (i := 14 + 4 * j0) (r := 14 + 4 * j0) (by omega) (e_mk b kc T S hj0) rfl hS dX3_fitsInside_46 (fun z4_z bz4_z => ?_)
        refine lv_iload_n hx hb dX3_fitsInside_49 rfl (lv_at hl 2 rfl) ?_
        refine g_icmp_gt (tgt := 57) hx hb bz4_z hx2 h dX3_fitsInside_50 (by decide) (fun h => ?_) (fun h => ?_)
        · refine lv_iconst (v := 0) hx hb dX3_fitsInside_57 (by decide) ?_
          exact ret S _ _ _ _ 0 ((show (0 : Int32).toInt = 0 by decide).trans h) (by rw [← h]; exact (by decide)) rfl hM hS dX3_fitsInside_58
        · refine lv_iconst (v := 1) hx hb dX3_fitsInside_53 (by decide) ?_
          refine lv_goto (tgt := 58) hx hb dX3_fitsInside_54 (by decide) ?_
          exact ret S _ _ _ _ 1 ((show (1 : Int32).toInt = 1 by decide).trans h) (by rw [← h]; exact (by decide)) rfl hM hS dX3_fitsInside_58
  refine lv_aload_n hx hb dX3_fitsInside_0 rfl (lv_at hl 0 rfl) ?_
  refine g_get fl_X3_63_X3 C hM (i := 14 + 4 * j0) (r := 14 + 4 * j0) (by omega) (e_mk b kc T S hj0) rfl hS dX3_fitsInside_1 (fun z1_z bz1_z => ?_)
  refine lv_iconst (v := (-1)) hx hb dX3_fitsInside_4 (by decide) ?_
  refine g_icmp_eq (tgt := 26) hx hb bz1_z (show ((-1) : Int32).toInt = (-1) by decide) h dX3_fitsInside_5 (by decide) (fun h => ?_) (fun h => ?_)
  · exact B26 _ _ _ hS hM (lv_sub hl [0, 1, 2] rfl) h
  · refine lv_aload_n hx hb dX3_fitsInside_8 rfl (lv_at hl 0 rfl) ?_
    refine g_get fl_X3_63_X3 C hM (i := 14 + 4 * j0) (r := 14 + 4 * j0) (by omega) (e_mk b kc T S hj0) rfl hS dX3_fitsInside_9 (fun z2_z bz2_z => ?_)
    refine lv_iload_n hx hb dX3_fitsInside_12 rfl (lv_at hl 1 rfl) ?_
    refine g_icmp_le (tgt := 24) hx hb bz2_z hx1 h dX3_fitsInside_13 (by decide) (fun h => ?_) (fun h => ?_)
    · refine lv_iconst (v := 0) hx hb dX3_fitsInside_24 (by decide) ?_
      exact ret S _ _ _ _ 0 ((show (0 : Int32).toInt = 0 by decide).trans h) (by rw [← h]; exact (by decide)) rfl hM hS dX3_fitsInside_25
    · refine lv_aload_n hx hb dX3_fitsInside_16 rfl (lv_at hl 0 rfl) ?_
      refine g_get fl_X3_63_X3 C hM (i := 14 + 4 * j0) (r := 14 + 4 * j0) (by omega) (e_mk b kc T S hj0) rfl hS dX3_fitsInside_17 (fun z3_z bz3_z => ?_)
      refine lv_iload_n hx hb dX3_fitsInside_20 rfl (lv_at hl 2 rfl) ?_
      refine g_icmp_le (tgt := 26) hx hb bz3_z hx2 h dX3_fitsInside_21 (by decide) (fun h => ?_) (fun h => ?_)
      · exact B26 _ _ _ hS hM (lv_sub hl [0, 1, 2] rfl) h
      · refine lv_iconst (v := 0) hx hb dX3_fitsInside_24 (by decide) ?_
        exact ret S _ _ _ _ 0 ((show (0 : Int32).toInt = 0 by decide).trans h) (by rw [← h]; exact (by decide)) rfl hM hS dX3_fitsInside_25

def f_Mark_isWithin (S : SS) (j0 : Nat) (j1 : Nat) : Option Int := (if gi S (14 + 4 * j1) 2 = 4 then w_chk (f_Mark_fitsInside S j0 (gi S (14 + 4 * j1) 4) (gi S (14 + 4 * j1) 5) = 0 ∨ f_Mark_fitsInside S j0 (gi S (14 + 4 * j1) 4) (gi S (14 + 4 * j1) 5) = 1) (some (f_Mark_fitsInside S j0 (gi S (14 + 4 * j1) 4) (gi S (14 + 4 * j1) 5))) else (if gi S (14 + 4 * j1) 2 = 3 then w_b1 (f_Mark_number S j1 1) (fun r3_z => w_chk (i32 (r3_z - 1)) ((if f_Mark_fitsInside S j0 (gi S (14 + 4 * j1) 4) (r3_z - 1) = 0 then (if f_Mark_fitsInside S j0 r3_z (gi S (14 + 4 * j1) 5) = 0 then some 0 else some 1) else some 1))) else some 0))
set_option maxHeartbeats 4000000 in
set_option maxRecDepth 100000 in
theorem g_Mark_isWithin (l : Launch) (D : va_G) (kc : Nat → ClassId) (b : Nat) (T S : SS) (j0 : Nat) (hj0 : j0 < 40) (j1 : Nat) (hj1 : j1 < 40) (hS : rng S) {vr : Int} (h : f_Mark_isWithin S j0 j1 = some vr) : cI l yX3_isWithin cX3_isWithin 3 .boolean 2 D kc b (jX b kc T) S [.ref (b + (14 + 4 * j0)), .ref (b + (14 + 4 * j1))] vr S := by
  refine g_beg_z (by decide) (Nat.le_of_ble_eq_true rfl) ?_
  intro p e s m args below meth c Q C ret hM ls hl
  obtain ⟨hx, hb, hml, hown, hts, hE, hbs⟩ := id C
  have hl : lv_has ls 3 [(0, .ref (b + (14 + 4 * j0))), (1, .ref (b + (14 + 4 * j1)))] := hl
  unfold f_Mark_isWithin at h
  refine lv_aload_n hx hb dX3_isWithin_0 rfl (lv_at hl 1 rfl) ?_
  refine g_get fl_X3_27_X3 C hM (i := 14 + 4 * j1) (r := 14 + 4 * j1) (by omega) (e_mk b kc T S hj1) rfl hS dX3_isWithin_1 (fun z1_z bz1_z => ?_)
  refine lv_iconst (v := 4) hx hb dX3_isWithin_4 (by decide) ?_
  refine g_icmp_ne (tgt := 21) hx hb bz1_z (show (4 : Int32).toInt = 4 by decide) h dX3_isWithin_5 (by decide) (fun h => ?_) (fun h => ?_)
  · refine lv_aload_n hx hb dX3_isWithin_21 rfl (lv_at hl 1 rfl) ?_
    refine g_get fl_X3_27_X3 C hM (i := 14 + 4 * j1) (r := 14 + 4 * j1) (by omega) (e_mk b kc T S hj1) rfl hS dX3_isWithin_22 (fun z2_z bz2_z => ?_)
    refine lv_iconst (v := 3) hx hb dX3_isWithin_25 (by decide) ?_
    refine g_icmp_eq (tgt := 31) hx hb bz2_z (show (3 : Int32).toInt = 3 by decide) h dX3_isWithin_26 (by decide) (fun h => ?_) (fun h => ?_)
    · refine lv_aload_n hx hb dX3_isWithin_31 rfl (lv_at hl 1 rfl) ?_
      refine lv_iconst (v := 1) hx hb dX3_isWithin_32 (by decide) ?_
      obtain ⟨r3_z, cr3_z, h⟩ := w_b1E h
      refine g_callI (J := jX b kc T) (m_runV calV_X3_number wd_642 (g_Mark_number l D kc b T S j1 hj1 1 1 (show (1 : Int32).toInt = 1 by decide) hS cr3_z) C hM (i := 14 + 4 * j1) (by omega) (e_mk b kc T S hj1) rfl hl.1 rfl rfl (Nat.le_of_ble_eq_true rfl) dX3_isWithin_33 ⟨Nat.le_of_ble_eq_true rfl, Nat.le_of_ble_eq_true rfl⟩ ⟨Nat.le_of_ble_eq_true rfl, Nat.le_of_ble_eq_true rfl⟩) hM (fun z4_z H locs bz4_z hM hS => ?_)
      refine lv_istore_n (lv' := [(2, .int z4_z), (0, .ref (b + (14 + 4 * j0))), (1, .ref (b + (14 + 4 * j1)))]) hx hb dX3_isWithin_36 rfl hl (by decide) rfl (fun ls hl => ?_)
      refine lv_aload_n hx hb dX3_isWithin_37 rfl (lv_at hl 1 rfl) ?_
      refine lv_aload_n hx hb dX3_isWithin_38 rfl (lv_at hl 2 rfl) ?_
      refine g_get fl_X3_57_X3 C hM (i := 14 + 4 * j1) (r := 14 + 4 * j1) (by omega) (e_mk b kc T S hj1) rfl hS dX3_isWithin_39 (fun z5_z bz5_z => ?_)
      refine lv_iload_n hx hb dX3_isWithin_42 rfl (lv_at hl 0 rfl) ?_
      refine lv_iconst (v := 1) hx hb dX3_isWithin_43 (by decide) ?_
      refine g_isub hx hb bz4_z (show (1 : Int32).toInt = 1 by decide) h dX3_isWithin_44 (fun z6_z bz6_z h => ?_)
      refine g_callI (J := jX b kc T) (m_runV calV_X3_fitsInside wd_638 (g_Mark_fitsInside l D kc b T S j0 hj0 z5_z (gi S (14 + 4 * j1) 4) bz5_z z6_z (r3_z - 1) bz6_z hS rfl) C hM (i := 14 + 4 * j0) (by omega) (e_mk b kc T S hj0) rfl hl.1 rfl rfl (Nat.le_of_ble_eq_true rfl) dX3_isWithin_45 ⟨Nat.le_of_ble_eq_true rfl, Nat.le_of_ble_eq_true rfl⟩ ⟨Nat.le_of_ble_eq_true rfl, Nat.le_of_ble_eq_true rfl⟩) hM (fun z7_z H locs bz7_z hM hS => ?_)
      refine g_if_ne (tgt := 63) hx hb bz7_z h dX3_isWithin_48 (by decide) (fun h => ?_) (fun h => ?_)
      · refine lv_iconst (v := 1) hx hb dX3_isWithin_63 (by decide) ?_
        refine lv_goto (tgt := 68) hx hb dX3_isWithin_64 (by decide) ?_
        exact ret S _ _ _ _ 1 ((show (1 : Int32).toInt = 1 by decide).trans (Option.some.inj h)) (by rw [← (Option.some.inj h)]; exact (by decide)) rfl hM hS dX3_isWithin_68
      · refine lv_aload_n hx hb dX3_isWithin_51 rfl (lv_at hl 1 rfl) ?_
        refine lv_iload_n hx hb dX3_isWithin_52 rfl (lv_at hl 0 rfl) ?_
        refine lv_aload_n hx hb dX3_isWithin_53 rfl (lv_at hl 2 rfl) ?_
        refine g_get fl_X3_60_X3 C hM (i := 14 + 4 * j1) (r := 14 + 4 * j1) (by omega) (e_mk b kc T S hj1) rfl hS dX3_isWithin_54 (fun z8_z bz8_z => ?_)
        refine g_callI (J := jX b kc T) (m_runV calV_X3_fitsInside wd_638 (g_Mark_fitsInside l D kc b T S j0 hj0 z4_z r3_z bz4_z z8_z (gi S (14 + 4 * j1) 5) bz8_z hS rfl) C hM (i := 14 + 4 * j0) (by omega) (e_mk b kc T S hj0) rfl hl.1 rfl rfl (Nat.le_of_ble_eq_true rfl) dX3_isWithin_57 ⟨Nat.le_of_ble_eq_true rfl, Nat.le_of_ble_eq_true rfl⟩ ⟨Nat.le_of_ble_eq_true rfl, Nat.le_of_ble_eq_true rfl⟩) hM (fun z9_z H locs bz9_z hM hS => ?_)
        refine g_if_eq (tgt := 67) hx hb bz9_z h dX3_isWithin_60 (by decide) (fun h => ?_) (fun h => ?_)
        · refine lv_iconst (v := 0) hx hb dX3_isWithin_67 (by decide) ?_
          exact ret S _ _ _ _ 0 ((show (0 : Int32).toInt = 0 by decide).trans (Option.some.inj h)) (by rw [← (Option.some.inj h)]; exact (by decide)) rfl hM hS dX3_isWithin_68
        · refine lv_iconst (v := 1) hx hb dX3_isWithin_63 (by decide) ?_
          refine lv_goto (tgt := 68) hx hb dX3_isWithin_64 (by decide) ?_
          exact ret S _ _ _ _ 1 ((show (1 : Int32).toInt = 1 by decide).trans (Option.some.inj h)) (by rw [← (Option.some.inj h)]; exact (by decide)) rfl hM hS dX3_isWithin_68
    · refine lv_iconst (v := 0) hx hb dX3_isWithin_29 (by decide) ?_
      exact ret S _ _ _ _ 0 ((show (0 : Int32).toInt = 0 by decide).trans (Option.some.inj h)) (by rw [← (Option.some.inj h)]; exact (by decide)) rfl hM hS dX3_isWithin_30
  · refine lv_aload_n hx hb dX3_isWithin_8 rfl (lv_at hl 0 rfl) ?_
    refine lv_aload_n hx hb dX3_isWithin_9 rfl (lv_at hl 1 rfl) ?_
    refine g_get fl_X3_57_X3 C hM (i := 14 + 4 * j1) (r := 14 + 4 * j1) (by omega) (e_mk b kc T S hj1) rfl hS dX3_isWithin_10 (fun z10_z bz10_z => ?_)
    refine lv_aload_n hx hb dX3_isWithin_13 rfl (lv_at hl 1 rfl) ?_
    refine g_get fl_X3_60_X3 C hM (i := 14 + 4 * j1) (r := 14 + 4 * j1) (by omega) (e_mk b kc T S hj1) rfl hS dX3_isWithin_14 (fun z11_z bz11_z => ?_)
    refine g_callI (J := jX b kc T) (m_runV calV_X3_fitsInside wd_638 (g_Mark_fitsInside l D kc b T S j0 hj0 z10_z (gi S (14 + 4 * j1) 4) bz10_z z11_z (gi S (14 + 4 * j1) 5) bz11_z hS rfl) C hM (i := 14 + 4 * j0) (by omega) (e_mk b kc T S hj0) rfl hl.1 rfl rfl (Nat.le_of_ble_eq_true rfl) dX3_isWithin_17 ⟨Nat.le_of_ble_eq_true rfl, Nat.le_of_ble_eq_true rfl⟩ ⟨Nat.le_of_ble_eq_true rfl, Nat.le_of_ble_eq_true rfl⟩) hM (fun z12_z H locs bz12_z hM hS => ?_)
    obtain ⟨c13_z, h⟩ := w_chkE h
    exact ret S _ _ _ _ z12_z (bz12_z.trans (Option.some.inj h)) (by rw [← (Option.some.inj h)]; exact c13_z) rfl hM hS dX3_isWithin_20

def f_Mark_meets_62 (S : SS) (j0 : Nat) (j1 : Nat) : Option Int := (if gi S (14 + 4 * j1) 6 ≤ gi S (14 + 4 * j0) 4 then some 0 else (if gi S (14 + 4 * j0) 5 < gi S (14 + 4 * j1) 6 then some 0 else some 1))
def f_Mark_meets_40 (S : SS) (j0 : Nat) (j1 : Nat) : Option Int := (if gi S (14 + 4 * j0) 6 ≤ gi S (14 + 4 * j1) 4 then f_Mark_meets_62 S j0 j1  else (if gi S (14 + 4 * j0) 6 ≤ gi S (14 + 4 * j1) 5 then some 1 else f_Mark_meets_62 S j0 j1 ))
def f_Mark_meets (S : SS) (j0 : Nat) (j1 : Nat) : Option Int := w_b1 (f_Mark_isWithin S j0 j1) (fun r1_z => (if r1_z = 0 then w_b1 (f_Mark_isWithin S j1 j0) (fun r3_z => (if r3_z = 0 then (if gi S (14 + 4 * j1) 5 < gi S (14 + 4 * j0) 4 then f_Mark_meets_40 S j0 j1  else (if gi S (14 + 4 * j1) 4 ≤ gi S (14 + 4 * j0) 5 then some 1 else f_Mark_meets_40 S j0 j1 )) else some 0)) else some 0))
set_option maxHeartbeats 4000000 in
set_option maxRecDepth 100000 in
theorem g_Mark_meets (l : Launch) (D : va_G) (kc : Nat → ClassId) (b : Nat) (T S : SS) (j0 : Nat) (hj0 : j0 < 40) (j1 : Nat) (hj1 : j1 < 40) (hS : rng S) {vr : Int} (h : f_Mark_meets S j0 j1 = some vr) : cI l yX3_meets cX3_meets 2 .boolean 3 D kc b (jX b kc T) S [.ref (b + (14 + 4 * j0)), .ref (b + (14 + 4 * j1))] vr S := by
  refine g_beg_z (by decide) (Nat.le_of_ble_eq_true rfl) ?_
  intro p e s m args below meth c Q C ret hM ls hl
  obtain ⟨hx, hb, hml, hown, hts, hE, hbs⟩ := id C
  have hl : lv_has ls 2 [(0, .ref (b + (14 + 4 * j0))), (1, .ref (b + (14 + 4 * j1)))] := hl
  unfold f_Mark_meets at h
  have B62 : ∀ (H : Heap) (locs : List Loc) (ls : Array Slot), rng S → mS D b s 220 (jX b kc T S) H locs → lv_has ls 2 [(0, .ref (b + (14 + 4 * j0))), (1, .ref (b + (14 + 4 * j1)))] → f_Mark_meets_62 S j0 j1 = some vr → W p l e (mR 3 0 0) s m args below meth c H locs 0 0 Q (F0 m 62 ls []) := by
    intro H locs ls hS hM hl h
    unfold f_Mark_meets_62 at h
    refine lv_aload_n hx hb dX3_meets_62 rfl (lv_at hl 1 rfl) ?_
    refine g_get fl_X3_63_X3 C hM (i := 14 + 4 * j1) (r := 14 + 4 * j1) (by omega) (e_mk b kc T S hj1) rfl hS dX3_meets_63 (fun z1_z bz1_z => ?_)
    refine lv_aload_n hx hb dX3_meets_66 rfl (lv_at hl 0 rfl) ?_
    refine g_get fl_X3_57_X3 C hM (i := 14 + 4 * j0) (r := 14 + 4 * j0) (by omega) (e_mk b kc T S hj0) rfl hS dX3_meets_67 (fun z2_z bz2_z => ?_)
    refine g_icmp_le (tgt := 88) hx hb bz1_z bz2_z h dX3_meets_70 (by decide) (fun h => ?_) (fun h => ?_)
    · refine lv_iconst (v := 0) hx hb dX3_meets_88 (by decide) ?_
      exact ret S _ _ _ _ 0 ((show (0 : Int32).toInt = 0 by decide).trans (Option.some.inj h)) (by rw [← (Option.some.inj h)]; exact (by decide)) rfl hM hS dX3_meets_89
    · refine lv_aload_n hx hb dX3_meets_73 rfl (lv_at hl 1 rfl) ?_
      refine g_get fl_X3_63_X3 C hM (i := 14 + 4 * j1) (r := 14 + 4 * j1) (by omega) (e_mk b kc T S hj1) rfl hS dX3_meets_74 (fun z3_z bz3_z => ?_)
      refine lv_aload_n hx hb dX3_meets_77 rfl (lv_at hl 0 rfl) ?_
      refine g_get fl_X3_60_X3 C hM (i := 14 + 4 * j0) (r := 14 + 4 * j0) (by omega) (e_mk b kc T S hj0) rfl hS dX3_meets_78 (fun z4_z bz4_z => ?_)
      refine g_icmp_gt (tgt := 88) hx hb bz3_z bz4_z h dX3_meets_81 (by decide) (fun h => ?_) (fun h => ?_)
      · refine lv_iconst (v := 0) hx hb dX3_meets_88 (by decide) ?_
        exact ret S _ _ _ _ 0 ((show (0 : Int32).toInt = 0 by decide).trans (Option.some.inj h)) (by rw [← (Option.some.inj h)]; exact (by decide)) rfl hM hS dX3_meets_89
      · refine lv_iconst (v := 1) hx hb dX3_meets_84 (by decide) ?_
        refine lv_goto (tgt := 89) hx hb dX3_meets_85 (by decide) ?_
        exact ret S _ _ _ _ 1 ((show (1 : Int32).toInt = 1 by decide).trans (Option.some.inj h)) (by rw [← (Option.some.inj h)]; exact (by decide)) rfl hM hS dX3_meets_89
  have B40 : ∀ (H : Heap) (locs : List Loc) (ls : Array Slot), rng S → mS D b s 220 (jX b kc T S) H locs → lv_has ls 2 [(0, .ref (b + (14 + 4 * j0))), (1, .ref (b + (14 + 4 * j1)))] → f_Mark_meets_40 S j0 j1 = some vr → W p l e (mR 3 0 0) s m args below meth c H locs 0 0 Q (F0 m 40 ls []) := by
    intro H locs ls hS hM hl h
    unfold f_Mark_meets_40 at h
    refine lv_aload_n hx hb dX3_meets_40 rfl (lv_at hl 0 rfl) ?_
    refine g_get fl_X3_63_X3 C hM (i := 14 + 4 * j0) (r := 14 + 4 * j0) (by omega) (e_mk b kc T S hj0) rfl hS dX3_meets_41 (fun z1_z bz1_z => ?_)
    refine lv_aload_n hx hb dX3_meets_44 rfl (lv_at hl 1 rfl) ?_
    refine g_get fl_X3_57_X3 C hM (i := 14 + 4 * j1) (r := 14 + 4 * j1) (by omega) (e_mk b kc T S hj1) rfl hS dX3_meets_45 (fun z2_z bz2_z => ?_)
    refine g_icmp_le (tgt := 62) hx hb bz1_z bz2_z h dX3_meets_48 (by decide) (fun h => ?_) (fun h => ?_)
    · exact B62 _ _ _ hS hM (lv_sub hl [0, 1] rfl) h
    · refine lv_aload_n hx hb dX3_meets_51 rfl (lv_at hl 0 rfl) ?_
      refine g_get fl_X3_63_X3 C hM (i := 14 + 4 * j0) (r := 14 + 4 * j0) (by omega) (e_mk b kc T S hj0) rfl hS dX3_meets_52 (fun z3_z bz3_z => ?_)
      refine lv_aload_n hx hb dX3_meets_55 rfl (lv_at hl 1 rfl) ?_
      refine g_get fl_X3_60_X3 C hM (i := 14 + 4 * j1) (r := 14 + 4 * j1) (by omega) (e_mk b kc T S hj1) rfl hS dX3_meets_56 (fun z4_z bz4_z => ?_)
      refine g_icmp_le (tgt := 84) hx hb bz3_z bz4_z h dX3_meets_59 (by decide) (fun h => ?_) (fun h => ?_)
      · refine lv_iconst (v := 1) hx hb dX3_meets_84 (by decide) ?_
        refine lv_goto (tgt := 89) hx hb dX3_meets_85 (by decide) ?_
        exact ret S _ _ _ _ 1 ((show (1 : Int32).toInt = 1 by decide).trans (Option.some.inj h)) (by rw [← (Option.some.inj h)]; exact (by decide)) rfl hM hS dX3_meets_89
      · exact B62 _ _ _ hS hM (lv_sub hl [0, 1] rfl) h
  refine lv_aload_n hx hb dX3_meets_0 rfl (lv_at hl 0 rfl) ?_
  refine lv_aload_n hx hb dX3_meets_1 rfl (lv_at hl 1 rfl) ?_
  obtain ⟨r1_z, cr1_z, h⟩ := w_b1E h
  refine g_callI (J := jX b kc T) (m_runV calV_X3_isWithin wd_634 (g_Mark_isWithin l D kc b T S j0 hj0 j1 hj1 hS cr1_z) C hM (i := 14 + 4 * j0) (by omega) (e_mk b kc T S hj0) rfl hl.1 rfl rfl (Nat.le_of_ble_eq_true rfl) dX3_meets_2 ⟨Nat.le_of_ble_eq_true rfl, Nat.le_of_ble_eq_true rfl⟩ ⟨Nat.le_of_ble_eq_true rfl, Nat.le_of_ble_eq_true rfl⟩) hM (fun z2_z H locs bz2_z hM hS => ?_)
  refine g_if_ne (tgt := 16) hx hb bz2_z h dX3_meets_5 (by decide) (fun h => ?_) (fun h => ?_)
  · refine lv_iconst (v := 0) hx hb dX3_meets_16 (by decide) ?_
    exact ret S _ _ _ _ 0 ((show (0 : Int32).toInt = 0 by decide).trans (Option.some.inj h)) (by rw [← (Option.some.inj h)]; exact (by decide)) rfl hM hS dX3_meets_17
  · refine lv_aload_n hx hb dX3_meets_8 rfl (lv_at hl 1 rfl) ?_
    refine lv_aload_n hx hb dX3_meets_9 rfl (lv_at hl 0 rfl) ?_
    obtain ⟨r3_z, cr3_z, h⟩ := w_b1E h
    refine g_callI (J := jX b kc T) (m_runV calV_X3_isWithin wd_634 (g_Mark_isWithin l D kc b T S j1 hj1 j0 hj0 hS cr3_z) C hM (i := 14 + 4 * j1) (by omega) (e_mk b kc T S hj1) rfl hl.1 rfl rfl (Nat.le_of_ble_eq_true rfl) dX3_meets_10 ⟨Nat.le_of_ble_eq_true rfl, Nat.le_of_ble_eq_true rfl⟩ ⟨Nat.le_of_ble_eq_true rfl, Nat.le_of_ble_eq_true rfl⟩) hM (fun z4_z H locs bz4_z hM hS => ?_)
    refine g_if_eq (tgt := 18) hx hb bz4_z h dX3_meets_13 (by decide) (fun h => ?_) (fun h => ?_)
    · refine lv_aload_n hx hb dX3_meets_18 rfl (lv_at hl 0 rfl) ?_
      refine g_get fl_X3_57_X3 C hM (i := 14 + 4 * j0) (r := 14 + 4 * j0) (by omega) (e_mk b kc T S hj0) rfl hS dX3_meets_19 (fun z5_z bz5_z => ?_)
      refine lv_aload_n hx hb dX3_meets_22 rfl (lv_at hl 1 rfl) ?_
      refine g_get fl_X3_60_X3 C hM (i := 14 + 4 * j1) (r := 14 + 4 * j1) (by omega) (e_mk b kc T S hj1) rfl hS dX3_meets_23 (fun z6_z bz6_z => ?_)
      refine g_icmp_gt (tgt := 40) hx hb bz5_z bz6_z h dX3_meets_26 (by decide) (fun h => ?_) (fun h => ?_)
      · exact B40 _ _ _ hS hM (lv_sub hl [0, 1] rfl) h
      · refine lv_aload_n hx hb dX3_meets_29 rfl (lv_at hl 1 rfl) ?_
        refine g_get fl_X3_57_X3 C hM (i := 14 + 4 * j1) (r := 14 + 4 * j1) (by omega) (e_mk b kc T S hj1) rfl hS dX3_meets_30 (fun z7_z bz7_z => ?_)
        refine lv_aload_n hx hb dX3_meets_33 rfl (lv_at hl 0 rfl) ?_
        refine g_get fl_X3_60_X3 C hM (i := 14 + 4 * j0) (r := 14 + 4 * j0) (by omega) (e_mk b kc T S hj0) rfl hS dX3_meets_34 (fun z8_z bz8_z => ?_)
        refine g_icmp_le (tgt := 84) hx hb bz7_z bz8_z h dX3_meets_37 (by decide) (fun h => ?_) (fun h => ?_)
        · refine lv_iconst (v := 1) hx hb dX3_meets_84 (by decide) ?_
          refine lv_goto (tgt := 89) hx hb dX3_meets_85 (by decide) ?_
          exact ret S _ _ _ _ 1 ((show (1 : Int32).toInt = 1 by decide).trans (Option.some.inj h)) (by rw [← (Option.some.inj h)]; exact (by decide)) rfl hM hS dX3_meets_89
        · exact B40 _ _ _ hS hM (lv_sub hl [0, 1] rfl) h
    · refine lv_iconst (v := 0) hx hb dX3_meets_16 (by decide) ?_
      exact ret S _ _ _ _ 0 ((show (0 : Int32).toInt = 0 by decide).trans (Option.some.inj h)) (by rw [← (Option.some.inj h)]; exact (by decide)) rfl hM hS dX3_meets_17

def f_Mark_voidByStet (S : SS) (j0 : Nat) (v1 : Int) : SS := (if gi S (14 + 4 * j0) 8 = 0 then w_lt (si S (14 + 4 * j0) 8 1) (fun S2_z => w_lt (si S2_z (14 + 4 * j0) 10 v1) (fun S3_z => S3_z)) else S)
set_option maxHeartbeats 4000000 in
set_option maxRecDepth 100000 in
theorem g_Mark_voidByStet (l : Launch) (D : va_G) (kc : Nat → ClassId) (b : Nat) (T S : SS) (j0 : Nat) (hj0 : j0 < 40) (x1 : Int32) (v1 : Int) (hx1 : x1.toInt = v1) (hS : rng S) {Sr : SS} (h : f_Mark_voidByStet S j0 v1 = Sr) : cV l yX3_voidByStet cX3_voidByStet 2 1 D kc b (jX b kc T) S [.ref (b + (14 + 4 * j0)), .int x1] Sr := by
  refine g_beg_v (by decide) (Nat.le_of_ble_eq_true rfl) ?_
  intro p e s m args below meth c Q C ret hM ls hl
  obtain ⟨hx, hb, hml, hown, hts, hE, hbs⟩ := id C
  have hl : lv_has ls 2 [(0, .ref (b + (14 + 4 * j0))), (1, .int x1)] := hl
  unfold f_Mark_voidByStet at h
  refine lv_aload_n hx hb dX3_voidByStet_0 rfl (lv_at hl 0 rfl) ?_
  refine g_get fl_X3_38_X3 C hM (i := 14 + 4 * j0) (r := 14 + 4 * j0) (by omega) (e_mk b kc T S hj0) rfl hS dX3_voidByStet_1 (fun z1_z bz1_z => ?_)
  refine g_if_ne (tgt := 17) hx hb bz1_z h dX3_voidByStet_4 (by decide) (fun h => ?_) (fun h => ?_)
  · exact ret S _ _ _ _ h hM hS dX3_voidByStet_17
  · refine lv_aload_n hx hb dX3_voidByStet_7 rfl (lv_at hl 0 rfl) ?_
    refine lv_iconst (v := 1) hx hb dX3_voidByStet_8 (by decide) ?_
    refine g_put fl_X3_38_X3 C hM (i := 14 + 4 * j0) (by omega) (e_mk b kc T S hj0) (z_nar (show (1 : Int32).toInt = 1 by decide) (by decide)) (z_fit (show (1 : Int32).toInt = 1 by decide) (by decide)) (Nat.le_of_ble_eq_true rfl) (fs1 := [.ref (b + (14 + 4 * j0 + 1)), .ref (b + (14 + 4 * j0 + 2)), .int (oi (gi S (14 + 4 * j0) 2)), .int (oi (gi S (14 + 4 * j0) 3)), .int (oi (gi S (14 + 4 * j0) 4)), .int (oi (gi S (14 + 4 * j0) 5)), .int (oi (gi S (14 + 4 * j0) 6)), .int (oi (gi S (14 + 4 * j0) 7)), .int 1, .int (oi (gi S (14 + 4 * j0) 9)), .int (oi (gi S (14 + 4 * j0) 10)), .int (oi (gi S (14 + 4 * j0) 11)), .int (oi (gi S (14 + 4 * j0) 12))]) rfl (p_mk_8 hj0 (show (1 : Int32).toInt = 1 by decide)) (rng_si hS (i32_of (show (1 : Int32).toInt = 1 by decide))) h dX3_voidByStet_9 (fun S2_z H locs h hM hS => ?_)
    refine lv_aload_n hx hb dX3_voidByStet_12 rfl (lv_at hl 0 rfl) ?_
    refine lv_iload_n hx hb dX3_voidByStet_13 rfl (lv_at hl 1 rfl) ?_
    refine g_put fl_X3_44_X3 C hM (i := 14 + 4 * j0) (by omega) (e_mk b kc T S2_z hj0) rfl rfl (Nat.le_of_ble_eq_true rfl) (fs1 := [.ref (b + (14 + 4 * j0 + 1)), .ref (b + (14 + 4 * j0 + 2)), .int (oi (gi S2_z (14 + 4 * j0) 2)), .int (oi (gi S2_z (14 + 4 * j0) 3)), .int (oi (gi S2_z (14 + 4 * j0) 4)), .int (oi (gi S2_z (14 + 4 * j0) 5)), .int (oi (gi S2_z (14 + 4 * j0) 6)), .int (oi (gi S2_z (14 + 4 * j0) 7)), .int (oi (gi S2_z (14 + 4 * j0) 8)), .int (oi (gi S2_z (14 + 4 * j0) 9)), .int x1, .int (oi (gi S2_z (14 + 4 * j0) 11)), .int (oi (gi S2_z (14 + 4 * j0) 12))]) rfl (p_mk_10 hj0 hx1) (rng_si hS (i32_of hx1)) h dX3_voidByStet_14 (fun S3_z H locs h hM hS => ?_)
    exact ret S3_z _ _ _ _ h hM hS dX3_voidByStet_17

def f_Mark_asks (S : SS) (j0 : Nat) : Int := (if gi S (14 + 4 * j0) 2 = 5 then 0 else (if gi S (14 + 4 * j0) 8 = 0 then (if gi S (14 + 4 * j0) 7 = 0 then 1 else 0) else 0))
set_option maxHeartbeats 4000000 in
set_option maxRecDepth 100000 in
theorem g_Mark_asks (l : Launch) (D : va_G) (kc : Nat → ClassId) (b : Nat) (T S : SS) (j0 : Nat) (hj0 : j0 < 40) (hS : rng S) {vr : Int} (h : f_Mark_asks S j0 = vr) : cI l yX3_asks cX3_asks 1 .boolean 1 D kc b (jX b kc T) S [.ref (b + (14 + 4 * j0))] vr S := by
  refine g_beg_z (by decide) (Nat.le_of_ble_eq_true rfl) ?_
  intro p e s m args below meth c Q C ret hM ls hl
  obtain ⟨hx, hb, hml, hown, hts, hE, hbs⟩ := id C
  have hl : lv_has ls 1 [(0, .ref (b + (14 + 4 * j0)))] := hl
  unfold f_Mark_asks at h
  refine lv_aload_n hx hb dX3_asks_0 rfl (lv_at hl 0 rfl) ?_
  refine g_get fl_X3_27_X3 C hM (i := 14 + 4 * j0) (r := 14 + 4 * j0) (by omega) (e_mk b kc T S hj0) rfl hS dX3_asks_1 (fun z1_z bz1_z => ?_)
  refine lv_iconst (v := 5) hx hb dX3_asks_4 (by decide) ?_
  refine g_icmp_eq (tgt := 26) hx hb bz1_z (show (5 : Int32).toInt = 5 by decide) h dX3_asks_5 (by decide) (fun h => ?_) (fun h => ?_)
  · refine lv_iconst (v := 0) hx hb dX3_asks_26 (by decide) ?_
    exact ret S _ _ _ _ 0 ((show (0 : Int32).toInt = 0 by decide).trans h) (by rw [← h]; exact (by decide)) rfl hM hS dX3_asks_27
  · refine lv_aload_n hx hb dX3_asks_8 rfl (lv_at hl 0 rfl) ?_
    refine g_get fl_X3_38_X3 C hM (i := 14 + 4 * j0) (r := 14 + 4 * j0) (by omega) (e_mk b kc T S hj0) rfl hS dX3_asks_9 (fun z2_z bz2_z => ?_)
    refine g_if_ne (tgt := 26) hx hb bz2_z h dX3_asks_12 (by decide) (fun h => ?_) (fun h => ?_)
    · refine lv_iconst (v := 0) hx hb dX3_asks_26 (by decide) ?_
      exact ret S _ _ _ _ 0 ((show (0 : Int32).toInt = 0 by decide).trans h) (by rw [← h]; exact (by decide)) rfl hM hS dX3_asks_27
    · refine lv_aload_n hx hb dX3_asks_15 rfl (lv_at hl 0 rfl) ?_
      refine g_get fl_X3_34_X3 C hM (i := 14 + 4 * j0) (r := 14 + 4 * j0) (by omega) (e_mk b kc T S hj0) rfl hS dX3_asks_16 (fun z3_z bz3_z => ?_)
      refine g_if_ne (tgt := 26) hx hb bz3_z h dX3_asks_19 (by decide) (fun h => ?_) (fun h => ?_)
      · refine lv_iconst (v := 0) hx hb dX3_asks_26 (by decide) ?_
        exact ret S _ _ _ _ 0 ((show (0 : Int32).toInt = 0 by decide).trans h) (by rw [← h]; exact (by decide)) rfl hM hS dX3_asks_27
      · refine lv_iconst (v := 1) hx hb dX3_asks_22 (by decide) ?_
        refine lv_goto (tgt := 27) hx hb dX3_asks_23 (by decide) ?_
        exact ret S _ _ _ _ 1 ((show (1 : Int32).toInt = 1 by decide).trans h) (by rw [← h]; exact (by decide)) rfl hM hS dX3_asks_27

def f_Mark_undecidedStatus (S : SS) (j0 : Nat) : Int := (if gi S (14 + 4 * j0) 2 = 5 then 4 else (if gi S (14 + 4 * j0) 8 = 0 then (if gi S (14 + 4 * j0) 7 = 0 then 1 else 3) else 2))
set_option maxHeartbeats 4000000 in
set_option maxRecDepth 100000 in
theorem g_Mark_undecidedStatus (l : Launch) (D : va_G) (kc : Nat → ClassId) (b : Nat) (T S : SS) (j0 : Nat) (hj0 : j0 < 40) (hS : rng S) {vr : Int} (h : f_Mark_undecidedStatus S j0 = vr) : cI l yX3_undecidedStatus cX3_undecidedStatus 1 .int 1 D kc b (jX b kc T) S [.ref (b + (14 + 4 * j0))] vr S := by
  refine g_beg_i (by decide) (Nat.le_of_ble_eq_true rfl) ?_
  intro p e s m args below meth c Q C ret hM ls hl
  obtain ⟨hx, hb, hml, hown, hts, hE, hbs⟩ := id C
  have hl : lv_has ls 1 [(0, .ref (b + (14 + 4 * j0)))] := hl
  unfold f_Mark_undecidedStatus at h
  refine lv_aload_n hx hb dX3_undecidedStatus_0 rfl (lv_at hl 0 rfl) ?_
  refine g_get fl_X3_27_X3 C hM (i := 14 + 4 * j0) (r := 14 + 4 * j0) (by omega) (e_mk b kc T S hj0) rfl hS dX3_undecidedStatus_1 (fun z1_z bz1_z => ?_)
  refine lv_iconst (v := 5) hx hb dX3_undecidedStatus_4 (by decide) ?_
  refine g_icmp_ne (tgt := 10) hx hb bz1_z (show (5 : Int32).toInt = 5 by decide) h dX3_undecidedStatus_5 (by decide) (fun h => ?_) (fun h => ?_)
  · refine lv_aload_n hx hb dX3_undecidedStatus_10 rfl (lv_at hl 0 rfl) ?_
    refine g_get fl_X3_38_X3 C hM (i := 14 + 4 * j0) (r := 14 + 4 * j0) (by omega) (e_mk b kc T S hj0) rfl hS dX3_undecidedStatus_11 (fun z2_z bz2_z => ?_)
    refine g_if_eq (tgt := 19) hx hb bz2_z h dX3_undecidedStatus_14 (by decide) (fun h => ?_) (fun h => ?_)
    · refine lv_aload_n hx hb dX3_undecidedStatus_19 rfl (lv_at hl 0 rfl) ?_
      refine g_get fl_X3_34_X3 C hM (i := 14 + 4 * j0) (r := 14 + 4 * j0) (by omega) (e_mk b kc T S hj0) rfl hS dX3_undecidedStatus_20 (fun z3_z bz3_z => ?_)
      refine g_if_eq (tgt := 30) hx hb bz3_z h dX3_undecidedStatus_23 (by decide) (fun h => ?_) (fun h => ?_)
      · refine lv_iconst (v := 1) hx hb dX3_undecidedStatus_30 (by decide) ?_
        exact ret S _ _ _ _ 1 ((show (1 : Int32).toInt = 1 by decide).trans h) rfl hM hS dX3_undecidedStatus_31
      · refine lv_iconst (v := 3) hx hb dX3_undecidedStatus_26 (by decide) ?_
        refine lv_goto (tgt := 31) hx hb dX3_undecidedStatus_27 (by decide) ?_
        exact ret S _ _ _ _ 3 ((show (3 : Int32).toInt = 3 by decide).trans h) rfl hM hS dX3_undecidedStatus_31
    · refine lv_iconst (v := 2) hx hb dX3_undecidedStatus_17 (by decide) ?_
      exact ret S _ _ _ _ 2 ((show (2 : Int32).toInt = 2 by decide).trans h) rfl hM hS dX3_undecidedStatus_18
  · refine lv_iconst (v := 4) hx hb dX3_undecidedStatus_8 (by decide) ?_
    exact ret S _ _ _ _ 4 ((show (4 : Int32).toInt = 4 by decide).trans h) rfl hM hS dX3_undecidedStatus_9

def f_Mark_causer (S : SS) (j0 : Nat) : Int := (if gi S (14 + 4 * j0) 11 = 1 then gi S (14 + 4 * j0) 12 else (if gi S (14 + 4 * j0) 11 = 2 then gi S (14 + 4 * j0) 10 else (-1)))
set_option maxHeartbeats 4000000 in
set_option maxRecDepth 100000 in
theorem g_Mark_causer (l : Launch) (D : va_G) (kc : Nat → ClassId) (b : Nat) (T S : SS) (j0 : Nat) (hj0 : j0 < 40) (hS : rng S) {vr : Int} (h : f_Mark_causer S j0 = vr) : cI l yX3_causer cX3_causer 1 .int 1 D kc b (jX b kc T) S [.ref (b + (14 + 4 * j0))] vr S := by
  refine g_beg_i (by decide) (Nat.le_of_ble_eq_true rfl) ?_
  intro p e s m args below meth c Q C ret hM ls hl
  obtain ⟨hx, hb, hml, hown, hts, hE, hbs⟩ := id C
  have hl : lv_has ls 1 [(0, .ref (b + (14 + 4 * j0)))] := hl
  unfold f_Mark_causer at h
  refine lv_aload_n hx hb dX3_causer_0 rfl (lv_at hl 0 rfl) ?_
  refine g_get fl_X3_47_X3 C hM (i := 14 + 4 * j0) (r := 14 + 4 * j0) (by omega) (e_mk b kc T S hj0) rfl hS dX3_causer_1 (fun z1_z bz1_z => ?_)
  refine lv_iconst (v := 1) hx hb dX3_causer_4 (by decide) ?_
  refine g_icmp_ne (tgt := 13) hx hb bz1_z (show (1 : Int32).toInt = 1 by decide) h dX3_causer_5 (by decide) (fun h => ?_) (fun h => ?_)
  · refine lv_aload_n hx hb dX3_causer_13 rfl (lv_at hl 0 rfl) ?_
    refine g_get fl_X3_47_X3 C hM (i := 14 + 4 * j0) (r := 14 + 4 * j0) (by omega) (e_mk b kc T S hj0) rfl hS dX3_causer_14 (fun z2_z bz2_z => ?_)
    refine lv_iconst (v := 2) hx hb dX3_causer_17 (by decide) ?_
    refine g_icmp_ne (tgt := 28) hx hb bz2_z (show (2 : Int32).toInt = 2 by decide) h dX3_causer_18 (by decide) (fun h => ?_) (fun h => ?_)
    · refine lv_iconst (v := (-1)) hx hb dX3_causer_28 (by decide) ?_
      exact ret S _ _ _ _ (-1) ((show ((-1) : Int32).toInt = (-1) by decide).trans h) rfl hM hS dX3_causer_29
    · refine lv_aload_n hx hb dX3_causer_21 rfl (lv_at hl 0 rfl) ?_
      refine g_get fl_X3_44_X3 C hM (i := 14 + 4 * j0) (r := 14 + 4 * j0) (by omega) (e_mk b kc T S hj0) rfl hS dX3_causer_22 (fun z3_z bz3_z => ?_)
      refine lv_goto (tgt := 29) hx hb dX3_causer_25 (by decide) ?_
      exact ret S _ _ _ _ z3_z (bz3_z.trans h) rfl hM hS dX3_causer_29
  · refine lv_aload_n hx hb dX3_causer_8 rfl (lv_at hl 0 rfl) ?_
    refine g_get fl_X3_50_X3 C hM (i := 14 + 4 * j0) (r := 14 + 4 * j0) (by omega) (e_mk b kc T S hj0) rfl hS dX3_causer_9 (fun z4_z bz4_z => ?_)
    exact ret S _ _ _ _ z4_z (bz4_z.trans h) rfl hM hS dX3_causer_12

def f_Mark_tell (S : SS) (j0 : Nat) (v1 : Int) : Option Int := (if v1 = 0 then some (gi S (14 + 4 * j0) 2) else (if v1 = 1 then some (gi S (14 + 4 * j0) 3) else (if v1 = 2 then w_chk (i32 (v1 - 2)) (w_b1 (f_Mark_number S j0 (v1 - 2)) (fun r7_z => some r7_z)) else (if v1 = 3 then w_chk (i32 (v1 - 2)) (w_b1 (f_Mark_number S j0 (v1 - 2)) (fun r11_z => some r11_z)) else (if v1 = 4 then w_chk (i32 (v1 - 2)) (w_b1 (f_Mark_number S j0 (v1 - 2)) (fun r15_z => some r15_z)) else (if v1 = 5 then some (gi S (14 + 4 * j0 + 2) 1) else (if v1 = 6 then some (gi S (14 + 4 * j0) 11) else (if v1 = 7 then some (f_Mark_causer S j0) else (if v1 = 8 then (if gi S (14 + 4 * j0) 9 = 0 then some 0 else some 1) else some (-9))))))))))
set_option maxHeartbeats 4000000 in
set_option maxRecDepth 100000 in
theorem g_Mark_tell (l : Launch) (D : va_G) (kc : Nat → ClassId) (b : Nat) (T S : SS) (j0 : Nat) (hj0 : j0 < 40) (x1 : Int32) (v1 : Int) (hx1 : x1.toInt = v1) (hS : rng S) {vr : Int} (h : f_Mark_tell S j0 v1 = some vr) : cI l yX3_tell cX3_tell 2 .int 2 D kc b (jX b kc T) S [.ref (b + (14 + 4 * j0)), .int x1] vr S := by
  refine g_beg_i (by decide) (Nat.le_of_ble_eq_true rfl) ?_
  intro p e s m args below meth c Q C ret hM ls hl
  obtain ⟨hx, hb, hml, hown, hts, hE, hbs⟩ := id C
  have hl : lv_has ls 2 [(0, .ref (b + (14 + 4 * j0))), (1, .int x1)] := hl
  unfold f_Mark_tell at h
  refine lv_iload_n hx hb dX3_tell_0 rfl (lv_at hl 1 rfl) ?_
  by_cases c1_z : v1 = 0
  · replace h := w_it c1_z h
    refine lv_tableIn (tgt := 52) hx hb dX3_tell_1 (by rw [hx1, c1_z]; decide) (by rw [hx1, c1_z]; decide) (by rw [hx1, c1_z]; rfl) (by decide) ?_
    refine lv_aload_n hx hb dX3_tell_52 rfl (lv_at hl 0 rfl) ?_
    refine g_get fl_X3_27_X3 C hM (i := 14 + 4 * j0) (r := 14 + 4 * j0) (by omega) (e_mk b kc T S hj0) rfl hS dX3_tell_53 (fun z2_z bz2_z => ?_)
    exact ret S _ _ _ _ z2_z (bz2_z.trans (Option.some.inj h)) rfl hM hS dX3_tell_56
  replace h := w_if c1_z h
  by_cases c3_z : v1 = 1
  · replace h := w_it c3_z h
    refine lv_tableIn (tgt := 57) hx hb dX3_tell_1 (by rw [hx1, c3_z]; decide) (by rw [hx1, c3_z]; decide) (by rw [hx1, c3_z]; rfl) (by decide) ?_
    refine lv_aload_n hx hb dX3_tell_57 rfl (lv_at hl 0 rfl) ?_
    refine g_get fl_X3_31_X3 C hM (i := 14 + 4 * j0) (r := 14 + 4 * j0) (by omega) (e_mk b kc T S hj0) rfl hS dX3_tell_58 (fun z4_z bz4_z => ?_)
    exact ret S _ _ _ _ z4_z (bz4_z.trans (Option.some.inj h)) rfl hM hS dX3_tell_61
  replace h := w_if c3_z h
  by_cases c5_z : v1 = 2
  · replace h := w_it c5_z h
    refine lv_tableIn (tgt := 62) hx hb dX3_tell_1 (by rw [hx1, c5_z]; decide) (by rw [hx1, c5_z]; decide) (by rw [hx1, c5_z]; rfl) (by decide) ?_
    refine lv_aload_n hx hb dX3_tell_62 rfl (lv_at hl 0 rfl) ?_
    refine lv_iload_n hx hb dX3_tell_63 rfl (lv_at hl 1 rfl) ?_
    refine lv_iconst (v := 2) hx hb dX3_tell_64 (by decide) ?_
    refine g_isub hx hb hx1 (show (2 : Int32).toInt = 2 by decide) h dX3_tell_65 (fun z6_z bz6_z h => ?_)
    obtain ⟨r7_z, cr7_z, h⟩ := w_b1E h
    refine g_callI (J := jX b kc T) (m_runV calV_X3_number wd_642 (g_Mark_number l D kc b T S j0 hj0 z6_z (v1 - 2) bz6_z hS cr7_z) C hM (i := 14 + 4 * j0) (by omega) (e_mk b kc T S hj0) rfl hl.1 rfl rfl (Nat.le_of_ble_eq_true rfl) dX3_tell_66 ⟨Nat.le_of_ble_eq_true rfl, Nat.le_of_ble_eq_true rfl⟩ ⟨Nat.le_of_ble_eq_true rfl, Nat.le_of_ble_eq_true rfl⟩) hM (fun z8_z H locs bz8_z hM hS => ?_)
    exact ret S _ _ _ _ z8_z (bz8_z.trans (Option.some.inj h)) rfl hM hS dX3_tell_69
  replace h := w_if c5_z h
  by_cases c9_z : v1 = 3
  · replace h := w_it c9_z h
    refine lv_tableIn (tgt := 62) hx hb dX3_tell_1 (by rw [hx1, c9_z]; decide) (by rw [hx1, c9_z]; decide) (by rw [hx1, c9_z]; rfl) (by decide) ?_
    refine lv_aload_n hx hb dX3_tell_62 rfl (lv_at hl 0 rfl) ?_
    refine lv_iload_n hx hb dX3_tell_63 rfl (lv_at hl 1 rfl) ?_
    refine lv_iconst (v := 2) hx hb dX3_tell_64 (by decide) ?_
    refine g_isub hx hb hx1 (show (2 : Int32).toInt = 2 by decide) h dX3_tell_65 (fun z10_z bz10_z h => ?_)
    obtain ⟨r11_z, cr11_z, h⟩ := w_b1E h
    refine g_callI (J := jX b kc T) (m_runV calV_X3_number wd_642 (g_Mark_number l D kc b T S j0 hj0 z10_z (v1 - 2) bz10_z hS cr11_z) C hM (i := 14 + 4 * j0) (by omega) (e_mk b kc T S hj0) rfl hl.1 rfl rfl (Nat.le_of_ble_eq_true rfl) dX3_tell_66 ⟨Nat.le_of_ble_eq_true rfl, Nat.le_of_ble_eq_true rfl⟩ ⟨Nat.le_of_ble_eq_true rfl, Nat.le_of_ble_eq_true rfl⟩) hM (fun z12_z H locs bz12_z hM hS => ?_)
    exact ret S _ _ _ _ z12_z (bz12_z.trans (Option.some.inj h)) rfl hM hS dX3_tell_69
  replace h := w_if c9_z h
  by_cases c13_z : v1 = 4
  · replace h := w_it c13_z h
    refine lv_tableIn (tgt := 62) hx hb dX3_tell_1 (by rw [hx1, c13_z]; decide) (by rw [hx1, c13_z]; decide) (by rw [hx1, c13_z]; rfl) (by decide) ?_
    refine lv_aload_n hx hb dX3_tell_62 rfl (lv_at hl 0 rfl) ?_
    refine lv_iload_n hx hb dX3_tell_63 rfl (lv_at hl 1 rfl) ?_
    refine lv_iconst (v := 2) hx hb dX3_tell_64 (by decide) ?_
    refine g_isub hx hb hx1 (show (2 : Int32).toInt = 2 by decide) h dX3_tell_65 (fun z14_z bz14_z h => ?_)
    obtain ⟨r15_z, cr15_z, h⟩ := w_b1E h
    refine g_callI (J := jX b kc T) (m_runV calV_X3_number wd_642 (g_Mark_number l D kc b T S j0 hj0 z14_z (v1 - 2) bz14_z hS cr15_z) C hM (i := 14 + 4 * j0) (by omega) (e_mk b kc T S hj0) rfl hl.1 rfl rfl (Nat.le_of_ble_eq_true rfl) dX3_tell_66 ⟨Nat.le_of_ble_eq_true rfl, Nat.le_of_ble_eq_true rfl⟩ ⟨Nat.le_of_ble_eq_true rfl, Nat.le_of_ble_eq_true rfl⟩) hM (fun z16_z H locs bz16_z hM hS => ?_)
    exact ret S _ _ _ _ z16_z (bz16_z.trans (Option.some.inj h)) rfl hM hS dX3_tell_69
  replace h := w_if c13_z h
  by_cases c17_z : v1 = 5
  · replace h := w_it c17_z h
    refine lv_tableIn (tgt := 70) hx hb dX3_tell_1 (by rw [hx1, c17_z]; decide) (by rw [hx1, c17_z]; decide) (by rw [hx1, c17_z]; rfl) (by decide) ?_
    refine lv_aload_n hx hb dX3_tell_70 rfl (lv_at hl 0 rfl) ?_
    refine m_get fl_X3_20_X3 C hM (i := 14 + 4 * j0) (by omega) (e_mk b kc T S hj0) (v := .ref (b + (14 + 4 * j0 + 2))) rfl dX3_tell_71 ?_
    refine g_getN fl_X3_74_X8 C hM (i := 14 + 4 * j0 + 2) (r := 14 + 4 * j0 + 2) (by omega) (e_sh b kc T S (show shOk (14 + 4 * j0 + 2) by omega)) rfl hS dX3_tell_74 (fun z18_z bz18_z => ?_)
    exact ret S _ _ _ _ z18_z (bz18_z.trans (Option.some.inj h)) rfl hM hS dX3_tell_77
  replace h := w_if c17_z h
  by_cases c19_z : v1 = 6
  · replace h := w_it c19_z h
    refine lv_tableIn (tgt := 78) hx hb dX3_tell_1 (by rw [hx1, c19_z]; decide) (by rw [hx1, c19_z]; decide) (by rw [hx1, c19_z]; rfl) (by decide) ?_
    refine lv_aload_n hx hb dX3_tell_78 rfl (lv_at hl 0 rfl) ?_
    refine g_get fl_X3_47_X3 C hM (i := 14 + 4 * j0) (r := 14 + 4 * j0) (by omega) (e_mk b kc T S hj0) rfl hS dX3_tell_79 (fun z20_z bz20_z => ?_)
    exact ret S _ _ _ _ z20_z (bz20_z.trans (Option.some.inj h)) rfl hM hS dX3_tell_82
  replace h := w_if c19_z h
  by_cases c21_z : v1 = 7
  · replace h := w_it c21_z h
    refine lv_tableIn (tgt := 83) hx hb dX3_tell_1 (by rw [hx1, c21_z]; decide) (by rw [hx1, c21_z]; decide) (by rw [hx1, c21_z]; rfl) (by decide) ?_
    refine lv_aload_n hx hb dX3_tell_83 rfl (lv_at hl 0 rfl) ?_
    refine g_callI (J := jX b kc T) (m_runV calV_X3_causer wd_859 (g_Mark_causer l D kc b T S j0 hj0 hS rfl) C hM (i := 14 + 4 * j0) (by omega) (e_mk b kc T S hj0) rfl hl.1 rfl rfl (Nat.le_of_ble_eq_true rfl) dX3_tell_84 ⟨Nat.le_of_ble_eq_true rfl, Nat.le_of_ble_eq_true rfl⟩ ⟨Nat.le_of_ble_eq_true rfl, Nat.le_of_ble_eq_true rfl⟩) hM (fun z22_z H locs bz22_z hM hS => ?_)
    exact ret S _ _ _ _ z22_z (bz22_z.trans (Option.some.inj h)) rfl hM hS dX3_tell_87
  replace h := w_if c21_z h
  by_cases c23_z : v1 = 8
  · replace h := w_it c23_z h
    refine lv_tableIn (tgt := 88) hx hb dX3_tell_1 (by rw [hx1, c23_z]; decide) (by rw [hx1, c23_z]; decide) (by rw [hx1, c23_z]; rfl) (by decide) ?_
    refine lv_aload_n hx hb dX3_tell_88 rfl (lv_at hl 0 rfl) ?_
    refine g_get fl_X3_41_X3 C hM (i := 14 + 4 * j0) (r := 14 + 4 * j0) (by omega) (e_mk b kc T S hj0) rfl hS dX3_tell_89 (fun z24_z bz24_z => ?_)
    refine g_if_eq (tgt := 99) hx hb bz24_z h dX3_tell_92 (by decide) (fun h => ?_) (fun h => ?_)
    · refine lv_iconst (v := 0) hx hb dX3_tell_99 (by decide) ?_
      exact ret S _ _ _ _ 0 ((show (0 : Int32).toInt = 0 by decide).trans (Option.some.inj h)) rfl hM hS dX3_tell_100
    · refine lv_iconst (v := 1) hx hb dX3_tell_95 (by decide) ?_
      refine lv_goto (tgt := 100) hx hb dX3_tell_96 (by decide) ?_
      exact ret S _ _ _ _ 1 ((show (1 : Int32).toInt = 1 by decide).trans (Option.some.inj h)) rfl hM hS dX3_tell_100
  replace h := w_if c23_z h
  refine lv_tableOut (tgt := 101) hx hb dX3_tell_1 (by rw [hx1]; omega) (by decide) ?_
  refine lv_bipush (v := (-9)) hx hb dX3_tell_101 (by decide) ?_
  exact ret S _ _ _ _ (-9) ((show ((-9) : Int32).toInt = (-9) by decide).trans (Option.some.inj h)) rfl hM hS dX3_tell_103

def f_Mark_tellWord (S : SS) (j0 : Nat) (v1 : Int) : Option Int := (if v1 < 0 then some (-9) else (if v1 < gi S (14 + 4 * j0 + 2) 1 then w_b1 (f_Sheet_wordAt S (14 + 4 * j0 + 2) v1) (fun w2_z => some (l2i w2_z)) else some (-9)))
set_option maxHeartbeats 4000000 in
set_option maxRecDepth 100000 in
theorem g_Mark_tellWord (l : Launch) (D : va_G) (kc : Nat → ClassId) (b : Nat) (T S : SS) (j0 : Nat) (hj0 : j0 < 40) (x1 : Int32) (v1 : Int) (hx1 : x1.toInt = v1) (hS : rng S) {vr : Int} (h : f_Mark_tellWord S j0 v1 = some vr) : cI l yX3_tellWord cX3_tellWord 2 .int 2 D kc b (jX b kc T) S [.ref (b + (14 + 4 * j0)), .int x1] vr S := by
  refine g_beg_i (by decide) (Nat.le_of_ble_eq_true rfl) ?_
  intro p e s m args below meth c Q C ret hM ls hl
  obtain ⟨hx, hb, hml, hown, hts, hE, hbs⟩ := id C
  have hl : lv_has ls 2 [(0, .ref (b + (14 + 4 * j0))), (1, .int x1)] := hl
  unfold f_Mark_tellWord at h
  refine lv_iload_n hx hb dX3_tellWord_0 rfl (lv_at hl 1 rfl) ?_
  refine g_if_lt (tgt := 15) hx hb hx1 h dX3_tellWord_1 (by decide) (fun h => ?_) (fun h => ?_)
  · refine lv_bipush (v := (-9)) hx hb dX3_tellWord_15 (by decide) ?_
    refine lv_goto (tgt := 29) hx hb dX3_tellWord_17 (by decide) ?_
    exact ret S _ _ _ _ (-9) ((show ((-9) : Int32).toInt = (-9) by decide).trans (Option.some.inj h)) rfl hM hS dX3_tellWord_29
  · refine lv_iload_n hx hb dX3_tellWord_4 rfl (lv_at hl 1 rfl) ?_
    refine lv_aload_n hx hb dX3_tellWord_5 rfl (lv_at hl 0 rfl) ?_
    refine m_get fl_X3_20_X3 C hM (i := 14 + 4 * j0) (by omega) (e_mk b kc T S hj0) (v := .ref (b + (14 + 4 * j0 + 2))) rfl dX3_tellWord_6 ?_
    refine g_getN fl_X3_74_X8 C hM (i := 14 + 4 * j0 + 2) (r := 14 + 4 * j0 + 2) (by omega) (e_sh b kc T S (show shOk (14 + 4 * j0 + 2) by omega)) rfl hS dX3_tellWord_9 (fun z1_z bz1_z => ?_)
    refine g_icmp_lt (tgt := 20) hx hb hx1 bz1_z h dX3_tellWord_12 (by decide) (fun h => ?_) (fun h => ?_)
    · refine lv_aload_n hx hb dX3_tellWord_20 rfl (lv_at hl 0 rfl) ?_
      refine m_get fl_X3_20_X3 C hM (i := 14 + 4 * j0) (by omega) (e_mk b kc T S hj0) (v := .ref (b + (14 + 4 * j0 + 2))) rfl dX3_tellWord_21 ?_
      refine lv_iload_n hx hb dX3_tellWord_24 rfl (lv_at hl 1 rfl) ?_
      obtain ⟨w2_z, cw2_z, h⟩ := w_b1E h
      refine g_callL (J := jX b kc T) (m_runV calV_X8_wordAt wd_867 (g_Sheet_wordAt l D kc b T S (14 + 4 * j0 + 2) (show shOk (14 + 4 * j0 + 2) by omega) x1 v1 hx1 hS cw2_z) C hM (i := 14 + 4 * j0 + 2) (by omega) (e_sh b kc T S (show shOk (14 + 4 * j0 + 2) by omega)) rfl hl.1 rfl rfl (Nat.le_of_ble_eq_true rfl) dX3_tellWord_25 ⟨Nat.le_of_ble_eq_true rfl, Nat.le_of_ble_eq_true rfl⟩ ⟨Nat.le_of_ble_eq_true rfl, Nat.le_of_ble_eq_true rfl⟩) hM (fun z3_z H locs bz3_z hM hS => ?_)
      have ez3_z := bz3_z.symm
      subst ez3_z
      refine g_l2i hx hb dX3_tellWord_28 (fun z4_z bz4_z => ?_)
      exact ret S _ _ _ _ z4_z (bz4_z.trans (Option.some.inj h)) rfl hM hS dX3_tellWord_29
    · refine lv_bipush (v := (-9)) hx hb dX3_tellWord_15 (by decide) ?_
      refine lv_goto (tgt := 29) hx hb dX3_tellWord_17 (by decide) ?_
      exact ret S _ _ _ _ (-9) ((show ((-9) : Int32).toInt = (-9) by decide).trans (Option.some.inj h)) rfl hM hS dX3_tellWord_29

def f_Pile_blank (S : SS) : Option (Option Nat × SS) := w_chk (i32 ((gi S 10 3) + (gi S 10 4))) (w_b1 (f_Pile_markAt S ((gi S 10 3) + (gi S 10 4))) (fun o4_z => w_on o4_z (some (none, S)) (fun j6_z => w_chk (j6_z < 40) (w_b1 (f_Mark_clear S j6_z) (fun S7_z => some (some j6_z, S7_z))))))
set_option maxHeartbeats 4000000 in
set_option maxRecDepth 100000 in
theorem g_Pile_blank (l : Launch) (D : va_G) (kc : Nat → ClassId) (b : Nat) (T S : SS) (hS : rng S) {vr : Option Nat} {Sr : SS} (h : f_Pile_blank S = some (vr, Sr)) : cQ l yX5_blank cX5_blank 2 (.object "MarkedProof$Mark") 3 D kc b (jX b kc T) S [.ref (b + 10)] (om b vr) Sr := by
  refine g_beg_q (by decide) (Nat.le_of_ble_eq_true rfl) ?_
  intro p e s m args below meth c Q C ret hM ls hl
  obtain ⟨hx, hb, hml, hown, hts, hE, hbs⟩ := id C
  have hl : lv_has ls 2 [(0, .ref (b + 10))] := hl
  unfold f_Pile_blank at h
  refine lv_aload_n hx hb dX5_blank_0 rfl (lv_at hl 0 rfl) ?_
  refine lv_aload_n hx hb dX5_blank_1 rfl (lv_at hl 0 rfl) ?_
  refine g_get fl_X5_25_X5 C hM (i := 10) (r := 10) (by omega) (e_10 b kc T S) rfl hS dX5_blank_2 (fun z1_z bz1_z => ?_)
  refine lv_aload_n hx hb dX5_blank_5 rfl (lv_at hl 0 rfl) ?_
  refine g_get fl_X5_29_X5 C hM (i := 10) (r := 10) (by omega) (e_10 b kc T S) rfl hS dX5_blank_6 (fun z2_z bz2_z => ?_)
  refine g_iadd hx hb bz1_z bz2_z h dX5_blank_9 (fun z3_z bz3_z h => ?_)
  obtain ⟨o4_z, co4_z, h⟩ := w_b1E h
  refine g_callQ (J := jX b kc T) (m_runV calV_X5_markAt wd_610 (g_Pile_markAt l D kc b T S z3_z ((gi S 10 3) + (gi S 10 4)) bz3_z hS co4_z) C hM (i := 10) (by omega) (e_10 b kc T S) rfl hl.1 rfl rfl (Nat.le_of_ble_eq_true rfl) dX5_blank_10 ⟨Nat.le_of_ble_eq_true rfl, Nat.le_of_ble_eq_true rfl⟩ ⟨Nat.le_of_ble_eq_true rfl, Nat.le_of_ble_eq_true rfl⟩) hM (fun z5_z H locs bz5_z hM hS => ?_)
  subst bz5_z
  refine lv_astore_nq (lv' := [(1, va_rf (om b o4_z)), (0, .ref (b + 10))]) hx hb dX5_blank_13 rfl hl (by decide) rfl (fun ls hl => ?_)
  refine lv_aload_nq hx hb dX5_blank_14 rfl (lv_at hl 0 rfl) ?_
  cases o4_z with
  | none =>
    replace h := w_onN h
    have hl : lv_has ls 2 [(1, .null), (0, .ref (b + 10))] := hl
    refine lv_ifnullN (tgt := 22) hx hb dX5_blank_15 (by decide) ?_
    refine lv_aload_nN hx hb dX5_blank_22 rfl (lv_at hl 0 rfl) ?_
    exact ret S _ _ _ _ (om b none) (by rw [(r_1 h)]) (r_2 h) hM hS dX5_blank_23
  | some j6_z =>
    obtain ⟨hj6_z, h⟩ := w_chkE (w_onS h)
    have hl : lv_has ls 2 [(1, .ref (b + (14 + 4 * j6_z))), (0, .ref (b + 10))] := hl
    refine lv_ifnull hx hb dX5_blank_15 ?_
    refine lv_aload_n hx hb dX5_blank_18 rfl (lv_at hl 0 rfl) ?_
    obtain ⟨S7_z, cS7_z, h⟩ := w_b1E h
    refine g_callV (J := jX b kc T) (m_runV calV_X3_clear wd_769 (g_Mark_clear l D kc b T S j6_z hj6_z hS cS7_z) C hM (i := 14 + 4 * j6_z) (by omega) (e_mk b kc T S hj6_z) rfl hl.1 rfl rfl (Nat.le_of_ble_eq_true rfl) dX5_blank_19 ⟨Nat.le_of_ble_eq_true rfl, Nat.le_of_ble_eq_true rfl⟩ ⟨Nat.le_of_ble_eq_true rfl, Nat.le_of_ble_eq_true rfl⟩) hM (fun H locs hM hS => ?_)
    refine lv_aload_n hx hb dX5_blank_22 rfl (lv_at hl 0 rfl) ?_
    exact ret S7_z _ _ _ _ (om b (some j6_z)) (by rw [(r_1 h)]) (r_2 h) hM hS dX5_blank_23

def f_Pile_canBeStet_22 (S : SS) (v1 : Int) (ot0_ : Option Nat) : Option Int := w_on ot0_ (some 0) (fun j1_z => w_chk (j1_z < 40) ((if gi S (14 + 4 * j1_z) 2 = 5 then some 0 else some 1)))
def f_Pile_canBeStet (S : SS) (v1 : Int) : Option Int := w_chk (i32 ((gi S 10 3) + (gi S 10 4))) ((if v1 < (gi S 10 3) + (gi S 10 4) then w_b1 (f_Pile_markAt S v1) (fun o4_z => f_Pile_canBeStet_22 S v1 o4_z) else f_Pile_canBeStet_22 S v1 none))
set_option maxHeartbeats 4000000 in
set_option maxRecDepth 100000 in
theorem g_Pile_canBeStet (l : Launch) (D : va_G) (kc : Nat → ClassId) (b : Nat) (T S : SS) (x1 : Int32) (v1 : Int) (hx1 : x1.toInt = v1) (hS : rng S) {vr : Int} (h : f_Pile_canBeStet S v1 = some vr) : cI l yX5_canBeStet cX5_canBeStet 3 .boolean 2 D kc b (jX b kc T) S [.ref (b + 10), .int x1] vr S := by
  refine g_beg_z (by decide) (Nat.le_of_ble_eq_true rfl) ?_
  intro p e s m args below meth c Q C ret hM ls hl
  obtain ⟨hx, hb, hml, hown, hts, hE, hbs⟩ := id C
  have hl : lv_has ls 3 [(0, .ref (b + 10)), (1, .int x1)] := hl
  unfold f_Pile_canBeStet at h
  have B22 : ∀ (H : Heap) (locs : List Loc) (ls : Array Slot) (ot0_ : Option Nat), rng S → mS D b s 220 (jX b kc T S) H locs → lv_has ls 3 [] → f_Pile_canBeStet_22 S v1 ot0_ = some vr → W p l e (mR 2 0 0) s m args below meth c H locs 0 0 Q (F0 m 22 ls [va_rf (om b ot0_)]) := by
    intro H locs ls ot0_ hS hM hl h
    unfold f_Pile_canBeStet_22 at h
    refine lv_astore_nq (lv' := [(2, va_rf (om b ot0_))]) hx hb dX5_canBeStet_22 rfl hl (by decide) rfl (fun ls hl => ?_)
    refine lv_aload_nq hx hb dX5_canBeStet_23 rfl (lv_at hl 0 rfl) ?_
    cases ot0_ with
    | none =>
      replace h := w_onN h
      have hl : lv_has ls 3 [(2, .null)] := hl
      refine lv_ifnullN (tgt := 39) hx hb dX5_canBeStet_24 (by decide) ?_
      refine lv_iconst (v := 0) hx hb dX5_canBeStet_39 (by decide) ?_
      exact ret S _ _ _ _ 0 ((show (0 : Int32).toInt = 0 by decide).trans (Option.some.inj h)) (by rw [← (Option.some.inj h)]; exact (by decide)) rfl hM hS dX5_canBeStet_40
    | some j1_z =>
      obtain ⟨hj1_z, h⟩ := w_chkE (w_onS h)
      have hl : lv_has ls 3 [(2, .ref (b + (14 + 4 * j1_z)))] := hl
      refine lv_ifnull hx hb dX5_canBeStet_24 ?_
      refine lv_aload_n hx hb dX5_canBeStet_27 rfl (lv_at hl 0 rfl) ?_
      refine g_getN fl_X5_42_X3 C hM (i := 14 + 4 * j1_z) (r := 14 + 4 * j1_z) (by omega) (e_mk b kc T S hj1_z) rfl hS dX5_canBeStet_28 (fun z2_z bz2_z => ?_)
      refine lv_iconst (v := 5) hx hb dX5_canBeStet_31 (by decide) ?_
      refine g_icmp_eq (tgt := 39) hx hb bz2_z (show (5 : Int32).toInt = 5 by decide) h dX5_canBeStet_32 (by decide) (fun h => ?_) (fun h => ?_)
      · refine lv_iconst (v := 0) hx hb dX5_canBeStet_39 (by decide) ?_
        exact ret S _ _ _ _ 0 ((show (0 : Int32).toInt = 0 by decide).trans (Option.some.inj h)) (by rw [← (Option.some.inj h)]; exact (by decide)) rfl hM hS dX5_canBeStet_40
      · refine lv_iconst (v := 1) hx hb dX5_canBeStet_35 (by decide) ?_
        refine lv_goto (tgt := 40) hx hb dX5_canBeStet_36 (by decide) ?_
        exact ret S _ _ _ _ 1 ((show (1 : Int32).toInt = 1 by decide).trans (Option.some.inj h)) (by rw [← (Option.some.inj h)]; exact (by decide)) rfl hM hS dX5_canBeStet_40
  refine lv_iload_n hx hb dX5_canBeStet_0 rfl (lv_at hl 1 rfl) ?_
  refine lv_aload_n hx hb dX5_canBeStet_1 rfl (lv_at hl 0 rfl) ?_
  refine g_get fl_X5_25_X5 C hM (i := 10) (r := 10) (by omega) (e_10 b kc T S) rfl hS dX5_canBeStet_2 (fun z1_z bz1_z => ?_)
  refine lv_aload_n hx hb dX5_canBeStet_5 rfl (lv_at hl 0 rfl) ?_
  refine g_get fl_X5_29_X5 C hM (i := 10) (r := 10) (by omega) (e_10 b kc T S) rfl hS dX5_canBeStet_6 (fun z2_z bz2_z => ?_)
  refine g_iadd hx hb bz1_z bz2_z h dX5_canBeStet_9 (fun z3_z bz3_z h => ?_)
  refine g_icmp_lt (tgt := 17) hx hb hx1 bz3_z h dX5_canBeStet_10 (by decide) (fun h => ?_) (fun h => ?_)
  · refine lv_aload_n hx hb dX5_canBeStet_17 rfl (lv_at hl 0 rfl) ?_
    refine lv_iload_n hx hb dX5_canBeStet_18 rfl (lv_at hl 1 rfl) ?_
    obtain ⟨o4_z, co4_z, h⟩ := w_b1E h
    refine g_callQ (J := jX b kc T) (m_runV calV_X5_markAt wd_610 (g_Pile_markAt l D kc b T S x1 v1 hx1 hS co4_z) C hM (i := 10) (by omega) (e_10 b kc T S) rfl hl.1 rfl rfl (Nat.le_of_ble_eq_true rfl) dX5_canBeStet_19 ⟨Nat.le_of_ble_eq_true rfl, Nat.le_of_ble_eq_true rfl⟩ ⟨Nat.le_of_ble_eq_true rfl, Nat.le_of_ble_eq_true rfl⟩) hM (fun z5_z H locs bz5_z hM hS => ?_)
    subst bz5_z
    exact B22 _ _ _ o4_z hS hM (lv_sub hl [] rfl) h
  · refine lv_null hx hb dX5_canBeStet_13 ?_
    refine lv_goto (tgt := 22) hx hb dX5_canBeStet_14 (by decide) ?_
    exact B22 _ _ _ none hS hM (lv_sub hl [] rfl) h

def f_Pile_accept_81 (kf30_ : SS → Int → Int → Option (Int × SS)) (S : SS) (v1_ : Int) (v2_ : Int) : Option (Int × SS) := w_chk (i32 (v2_ + 1)) (kf30_ S v1_ (v2_ + 1))
def f_Pile_accept_30_b (kf30_ : SS → Int → Int → Option (Int × SS)) (S : SS) (v1_ : Int) (v2_ : Int) : Option (Int × SS) := (if gi S 10 3 ≤ v2_ then some (v1_, S) else w_b1 (f_Pile_find S v2_) (fun o2_z => w_on o2_z (f_Pile_accept_81 kf30_ S v1_ v2_) (fun j4_z => w_chk (j4_z < 40) ((if gi S (14 + 4 * j4_z) 2 = 5 then w_b1 (f_Mark_number S j4_z 0) (fun r6_z => w_b1 (f_Pile_find S r6_z) (fun o8_z => w_on o8_z (f_Pile_accept_81 kf30_ S v1_ v2_) (fun j10_z => w_chk (j10_z < 40) (w_lt (f_Mark_voidByStet S j10_z v2_) (fun S11_z => f_Pile_accept_81 kf30_ S11_z v1_ v2_))))) else f_Pile_accept_81 kf30_ S v1_ v2_)))))
def f_Pile_accept_30 : Nat → SS → Int → Int → Option (Int × SS)
  | 0 => fun _ _ _ => none
  | n + 1 => f_Pile_accept_30_b (f_Pile_accept_30 n)
def f_Pile_accept (S : SS) : Option (Int × SS) := w_chk (i32 ((gi S 10 3) + (gi S 10 4))) (w_lt (si S 10 3 ((gi S 10 3) + (gi S 10 4))) (fun S5_z => w_lt (si S5_z 10 4 0) (fun S6_z => w_chk (i32 ((gi S6_z 10 3) - (gi S 10 4))) (f_Pile_accept_30 FU S6_z (gi S 10 4) ((gi S6_z 10 3) - (gi S 10 4))))))
set_option maxHeartbeats 4000000 in
set_option maxRecDepth 100000 in
theorem g_Pile_accept (l : Launch) (D : va_G) (kc : Nat → ClassId) (b : Nat) (T S : SS) (hS : rng S) {vr : Int} {Sr : SS} (h : f_Pile_accept S = some (vr, Sr)) : cI l yX5_accept cX5_accept 5 .int 3 D kc b (jX b kc T) S [.ref (b + 10)] vr Sr := by
  refine g_beg_i (by decide) (Nat.le_of_ble_eq_true rfl) ?_
  intro p e s m args below meth c Q C ret hM ls hl
  obtain ⟨hx, hb, hml, hown, hts, hE, hbs⟩ := id C
  have hl : lv_has ls 5 [(0, .ref (b + 10))] := hl
  unfold f_Pile_accept at h
  have B81 : ∀ (kf30_ : SS → Int → Int → Option (Int × SS)) (hkf30_ : ∀ (S : SS) (H : Heap) (locs : List Loc) (ls : Array Slot) (x1_ : Int32) (v1_ : Int) (hx1_ : x1_.toInt = v1_) (x2_ : Int32) (v2_ : Int) (hx2_ : x2_.toInt = v2_), rng S → mS D b s 220 (jX b kc T S) H locs → lv_has ls 5 [(0, .ref (b + 10)), (1, .int x1_), (2, .int x2_)] → kf30_ S v1_ v2_ = some (vr, Sr) → W p l e (mR 3 0 0) s m args below meth c H locs 0 0 Q (F0 m 30 ls [])), ∀ (S : SS) (H : Heap) (locs : List Loc) (ls : Array Slot) (x1_ : Int32) (v1_ : Int) (hx1_ : x1_.toInt = v1_) (x2_ : Int32) (v2_ : Int) (hx2_ : x2_.toInt = v2_), rng S → mS D b s 220 (jX b kc T S) H locs → lv_has ls 5 [(0, .ref (b + 10)), (1, .int x1_), (2, .int x2_)] → f_Pile_accept_81 kf30_ S v1_ v2_ = some (vr, Sr) → W p l e (mR 3 0 0) s m args below meth c H locs 0 0 Q (F0 m 81 ls []) := by
    intro kf30_ hkf30_ S H locs ls x1_ v1_ hx1_ x2_ v2_ hx2_ hS hM hl h
    unfold f_Pile_accept_81 at h
    refine g_iinc (y := 1) hx hb hx2_ (by decide) (by decide) h dX5_accept_81 hl (k := 2) rfl (by decide) (fun z1_z ls bz1_z h hl => ?_)
    have hl : lv_has ls 5 [(2, .int z1_z), (0, .ref (b + 10)), (1, .int x1_)] := hl
    refine lv_goto (tgt := 30) hx hb dX5_accept_84 (by decide) ?_
    exact hkf30_ S _ _ _ x1_ v1_ hx1_ z1_z (v2_ + 1) bz1_z hS hM (lv_sub hl [1, 2, 0] rfl) h
  have B30 : ∀ (n : Nat), ∀ (S : SS) (H : Heap) (locs : List Loc) (ls : Array Slot) (x1_ : Int32) (v1_ : Int) (hx1_ : x1_.toInt = v1_) (x2_ : Int32) (v2_ : Int) (hx2_ : x2_.toInt = v2_), rng S → mS D b s 220 (jX b kc T S) H locs → lv_has ls 5 [(0, .ref (b + 10)), (1, .int x1_), (2, .int x2_)] → f_Pile_accept_30 n S v1_ v2_ = some (vr, Sr) → W p l e (mR 3 0 0) s m args below meth c H locs 0 0 Q (F0 m 30 ls []) := by
    intro n
    induction n with
    | zero => intro S H locs ls x1_ v1_ hx1_ x2_ v2_ hx2_ hS hM hl h; exact absurd (h : none = some _) (fun q => nomatch q)
    | succ n hkf30_ =>
      intro S H locs ls x1_ v1_ hx1_ x2_ v2_ hx2_ hS hM hl h
      have h : f_Pile_accept_30_b (f_Pile_accept_30 n) S v1_ v2_ = some (vr, Sr) := h
      unfold f_Pile_accept_30_b at h
      refine lv_iload_n hx hb dX5_accept_30 rfl (lv_at hl 2 rfl) ?_
      refine lv_aload_n hx hb dX5_accept_31 rfl (lv_at hl 0 rfl) ?_
      refine g_get fl_X5_25_X5 C hM (i := 10) (r := 10) (by omega) (e_10 b kc T S) rfl hS dX5_accept_32 (fun z1_z bz1_z => ?_)
      refine g_icmp_ge (tgt := 87) hx hb hx2_ bz1_z h dX5_accept_35 (by decide) (fun h => ?_) (fun h => ?_)
      · refine lv_iload_n hx hb dX5_accept_87 rfl (lv_at hl 1 rfl) ?_
        exact ret S _ _ _ _ x1_ (hx1_.trans (r_1 h)) (r_2 h) hM hS dX5_accept_88
      · refine lv_aload_n hx hb dX5_accept_38 rfl (lv_at hl 0 rfl) ?_
        refine lv_iload_n hx hb dX5_accept_39 rfl (lv_at hl 2 rfl) ?_
        obtain ⟨o2_z, co2_z, h⟩ := w_b1E h
        refine g_callQ (J := jX b kc T) (m_runV calV_X5_find wd_606 (g_Pile_find l D kc b T S x2_ v2_ hx2_ hS co2_z) C hM (i := 10) (by omega) (e_10 b kc T S) rfl hl.1 rfl rfl (Nat.le_of_ble_eq_true rfl) dX5_accept_40 ⟨Nat.le_of_ble_eq_true rfl, Nat.le_of_ble_eq_true rfl⟩ ⟨Nat.le_of_ble_eq_true rfl, Nat.le_of_ble_eq_true rfl⟩) hM (fun z3_z H locs bz3_z hM hS => ?_)
        subst bz3_z
        refine lv_astore_nq (lv' := [(3, va_rf (om b o2_z)), (0, .ref (b + 10)), (1, .int x1_), (2, .int x2_)]) hx hb dX5_accept_43 rfl hl (by decide) rfl (fun ls hl => ?_)
        refine lv_aload_nq hx hb dX5_accept_44 rfl (lv_at hl 0 rfl) ?_
        cases o2_z with
        | none =>
          replace h := w_onN h
          have hl : lv_has ls 5 [(3, .null), (0, .ref (b + 10)), (1, .int x1_), (2, .int x2_)] := hl
          refine lv_ifnullN (tgt := 81) hx hb dX5_accept_45 (by decide) ?_
          exact B81 (f_Pile_accept_30 n) hkf30_ S _ _ _ x1_ v1_ hx1_ x2_ v2_ hx2_ hS hM (lv_sub hl [1, 2, 3] rfl) h
        | some j4_z =>
          obtain ⟨hj4_z, h⟩ := w_chkE (w_onS h)
          have hl : lv_has ls 5 [(3, .ref (b + (14 + 4 * j4_z))), (0, .ref (b + 10)), (1, .int x1_), (2, .int x2_)] := hl
          refine lv_ifnull hx hb dX5_accept_45 ?_
          refine lv_aload_n hx hb dX5_accept_48 rfl (lv_at hl 0 rfl) ?_
          refine g_getN fl_X5_42_X3 C hM (i := 14 + 4 * j4_z) (r := 14 + 4 * j4_z) (by omega) (e_mk b kc T S hj4_z) rfl hS dX5_accept_49 (fun z5_z bz5_z => ?_)
          refine lv_iconst (v := 5) hx hb dX5_accept_52 (by decide) ?_
          refine g_icmp_eq (tgt := 59) hx hb bz5_z (show (5 : Int32).toInt = 5 by decide) h dX5_accept_53 (by decide) (fun h => ?_) (fun h => ?_)
          · refine lv_aload_n hx hb dX5_accept_59 rfl (lv_at hl 1 rfl) ?_
            refine lv_aload_n hx hb dX5_accept_60 rfl (lv_at hl 0 rfl) ?_
            refine lv_iconst (v := 0) hx hb dX5_accept_61 (by decide) ?_
            obtain ⟨r6_z, cr6_z, h⟩ := w_b1E h
            refine g_callI (J := jX b kc T) (m_runV calV_X3_number wd_832 (g_Mark_number l D kc b T S j4_z hj4_z 0 0 (show (0 : Int32).toInt = 0 by decide) hS cr6_z) C hM (i := 14 + 4 * j4_z) (by omega) (e_mk b kc T S hj4_z) rfl hl.1 rfl rfl (Nat.le_of_ble_eq_true rfl) dX5_accept_62 ⟨Nat.le_of_ble_eq_true rfl, Nat.le_of_ble_eq_true rfl⟩ ⟨Nat.le_of_ble_eq_true rfl, Nat.le_of_ble_eq_true rfl⟩) hM (fun z7_z H locs bz7_z hM hS => ?_)
            obtain ⟨o8_z, co8_z, h⟩ := w_b1E h
            refine g_callQ (J := jX b kc T) (m_runV calV_X5_find wd_606 (g_Pile_find l D kc b T S z7_z r6_z bz7_z hS co8_z) C hM (i := 10) (by omega) (e_10 b kc T S) rfl hl.1 rfl rfl (Nat.le_of_ble_eq_true rfl) dX5_accept_65 ⟨Nat.le_of_ble_eq_true rfl, Nat.le_of_ble_eq_true rfl⟩ ⟨Nat.le_of_ble_eq_true rfl, Nat.le_of_ble_eq_true rfl⟩) hM (fun z9_z H locs bz9_z hM hS => ?_)
            subst bz9_z
            refine lv_astoreq (lv' := [(4, va_rf (om b o8_z)), (3, .ref (b + (14 + 4 * j4_z))), (0, .ref (b + 10)), (1, .int x1_), (2, .int x2_)]) hx hb dX5_accept_68 hl (by decide) rfl (fun ls hl => ?_)
            refine lv_aloadq hx hb dX5_accept_70 (lv_at hl 0 rfl) ?_
            cases o8_z with
            | none =>
              replace h := w_onN h
              have hl : lv_has ls 5 [(4, .null), (3, .ref (b + (14 + 4 * j4_z))), (0, .ref (b + 10)), (1, .int x1_), (2, .int x2_)] := hl
              refine lv_ifnullN (tgt := 81) hx hb dX5_accept_72 (by decide) ?_
              exact B81 (f_Pile_accept_30 n) hkf30_ S _ _ _ x1_ v1_ hx1_ x2_ v2_ hx2_ hS hM (lv_sub hl [2, 3, 4] rfl) h
            | some j10_z =>
              obtain ⟨hj10_z, h⟩ := w_chkE (w_onS h)
              have hl : lv_has ls 5 [(4, .ref (b + (14 + 4 * j10_z))), (3, .ref (b + (14 + 4 * j4_z))), (0, .ref (b + 10)), (1, .int x1_), (2, .int x2_)] := hl
              refine lv_ifnull hx hb dX5_accept_72 ?_
              refine lv_aload hx hb dX5_accept_75 (lv_at hl 0 rfl) ?_
              refine lv_iload_n hx hb dX5_accept_77 rfl (lv_at hl 4 rfl) ?_
              obtain ⟨S11_z, cS11_z, h⟩ := w_ltE h
              refine g_callV (J := jX b kc T) (m_runV calV_X3_voidByStet wd_833 (g_Mark_voidByStet l D kc b T S j10_z hj10_z x2_ v2_ hx2_ hS cS11_z.symm) C hM (i := 14 + 4 * j10_z) (by omega) (e_mk b kc T S hj10_z) rfl hl.1 rfl rfl (Nat.le_of_ble_eq_true rfl) dX5_accept_78 ⟨Nat.le_of_ble_eq_true rfl, Nat.le_of_ble_eq_true rfl⟩ ⟨Nat.le_of_ble_eq_true rfl, Nat.le_of_ble_eq_true rfl⟩) hM (fun H locs hM hS => ?_)
              exact B81 (f_Pile_accept_30 n) hkf30_ S11_z _ _ _ x1_ v1_ hx1_ x2_ v2_ hx2_ hS hM (lv_sub hl [2, 3, 4] rfl) h
          · refine lv_goto (tgt := 81) hx hb dX5_accept_56 (by decide) ?_
            exact B81 (f_Pile_accept_30 n) hkf30_ S _ _ _ x1_ v1_ hx1_ x2_ v2_ hx2_ hS hM (lv_sub hl [1, 2, 3] rfl) h
  refine lv_aload_n hx hb dX5_accept_0 rfl (lv_at hl 0 rfl) ?_
  refine g_get fl_X5_29_X5 C hM (i := 10) (r := 10) (by omega) (e_10 b kc T S) rfl hS dX5_accept_1 (fun z1_z bz1_z => ?_)
  refine lv_istore_n (lv' := [(1, .int z1_z), (0, .ref (b + 10))]) hx hb dX5_accept_4 rfl hl (by decide) rfl (fun ls hl => ?_)
  refine lv_aload_n hx hb dX5_accept_5 rfl (lv_at hl 1 rfl) ?_
  refine lv_dup hx hb dX5_accept_6 rfl ?_
  refine g_get fl_X5_25_X5 C hM (i := 10) (r := 10) (by omega) (e_10 b kc T S) rfl hS dX5_accept_7 (fun z2_z bz2_z => ?_)
  refine lv_aload_n hx hb dX5_accept_10 rfl (lv_at hl 1 rfl) ?_
  refine g_get fl_X5_29_X5 C hM (i := 10) (r := 10) (by omega) (e_10 b kc T S) rfl hS dX5_accept_11 (fun z3_z bz3_z => ?_)
  refine g_iadd hx hb bz2_z bz3_z h dX5_accept_14 (fun z4_z bz4_z h => ?_)
  refine g_put fl_X5_25_X5 C hM (i := 10) (by omega) (e_10 b kc T S) rfl rfl (Nat.le_of_ble_eq_true rfl) (fs1 := [.ref (b + 11), .ref (b + 12), .ref (b + 13), .int z4_z, .int (oi (gi S 10 4)), .int (oi (gi S 10 5))]) rfl (p_10_3 bz4_z) (rng_si hS (i32_of bz4_z)) h dX5_accept_15 (fun S5_z H locs h hM hS => ?_)
  refine lv_aload_n hx hb dX5_accept_18 rfl (lv_at hl 1 rfl) ?_
  refine lv_iconst (v := 0) hx hb dX5_accept_19 (by decide) ?_
  refine g_put fl_X5_29_X5 C hM (i := 10) (by omega) (e_10 b kc T S5_z) rfl rfl (Nat.le_of_ble_eq_true rfl) (fs1 := [.ref (b + 11), .ref (b + 12), .ref (b + 13), .int (oi (gi S5_z 10 3)), .int 0, .int (oi (gi S5_z 10 5))]) rfl (p_10_4 (show (0 : Int32).toInt = 0 by decide)) (rng_si hS (i32_of (show (0 : Int32).toInt = 0 by decide))) h dX5_accept_20 (fun S6_z H locs h hM hS => ?_)
  refine lv_aload_n hx hb dX5_accept_23 rfl (lv_at hl 1 rfl) ?_
  refine g_get fl_X5_25_X5 C hM (i := 10) (r := 10) (by omega) (e_10 b kc T S6_z) rfl hS dX5_accept_24 (fun z7_z bz7_z => ?_)
  refine lv_iload_n hx hb dX5_accept_27 rfl (lv_at hl 0 rfl) ?_
  refine g_isub hx hb bz7_z bz1_z h dX5_accept_28 (fun z8_z bz8_z h => ?_)
  refine lv_istore_n (lv' := [(2, .int z8_z), (1, .int z1_z), (0, .ref (b + 10))]) hx hb dX5_accept_29 rfl hl (by decide) rfl (fun ls hl => ?_)
  exact B30 FU S6_z _ _ _ z1_z (gi S 10 4) bz1_z z8_z ((gi S6_z 10 3) - (gi S 10 4)) bz8_z hS hM (lv_sub hl [2, 1, 0] rfl) h

def f_Pile_firstDoneThatMeets_42 (S : SS) (j1 : Nat) (kf2_ : Int → Option Int) (v2_ : Int) : Option Int := w_chk (i32 (v2_ + 1)) (kf2_ (v2_ + 1))
def f_Pile_firstDoneThatMeets_2_b (S : SS) (j1 : Nat) (kf2_ : Int → Option Int) (v2_ : Int) : Option Int := (if gi S 10 3 ≤ v2_ then some (-1) else w_b1 (f_Pile_find S v2_) (fun o2_z => w_on o2_z (f_Pile_firstDoneThatMeets_42 S j1 kf2_ v2_) (fun j4_z => w_chk (j4_z < 40) ((if j4_z = j1 then f_Pile_firstDoneThatMeets_42 S j1 kf2_ v2_ else (if gi S (14 + 4 * j4_z) 11 = 0 then w_b1 (f_Mark_meets S j1 j4_z) (fun r6_z => (if r6_z = 0 then f_Pile_firstDoneThatMeets_42 S j1 kf2_ v2_ else some v2_)) else f_Pile_firstDoneThatMeets_42 S j1 kf2_ v2_))))))
def f_Pile_firstDoneThatMeets_2 (S : SS) (j1 : Nat) : Nat → Int → Option Int
  | 0 => fun _ => none
  | n + 1 => f_Pile_firstDoneThatMeets_2_b S j1 (f_Pile_firstDoneThatMeets_2 S j1 n)
def f_Pile_firstDoneThatMeets (S : SS) (j1 : Nat) : Option Int := f_Pile_firstDoneThatMeets_2 S j1 FU 0
set_option maxHeartbeats 4000000 in
set_option maxRecDepth 100000 in
theorem g_Pile_firstDoneThatMeets (l : Launch) (D : va_G) (kc : Nat → ClassId) (b : Nat) (T S : SS) (j1 : Nat) (hj1 : j1 < 40) (hS : rng S) {vr : Int} (h : f_Pile_firstDoneThatMeets S j1 = some vr) : cI l yX5_firstDoneThatMeets cX5_firstDoneThatMeets 4 .int 4 D kc b (jX b kc T) S [.ref (b + 10), .ref (b + (14 + 4 * j1))] vr S := by
  refine g_beg_i (by decide) (Nat.le_of_ble_eq_true rfl) ?_
  intro p e s m args below meth c Q C ret hM ls hl
  obtain ⟨hx, hb, hml, hown, hts, hE, hbs⟩ := id C
  have hl : lv_has ls 4 [(0, .ref (b + 10)), (1, .ref (b + (14 + 4 * j1)))] := hl
  unfold f_Pile_firstDoneThatMeets at h
  have B42 : ∀ (kf2_ : Int → Option Int) (hkf2_ : ∀ (H : Heap) (locs : List Loc) (ls : Array Slot) (x2_ : Int32) (v2_ : Int) (hx2_ : x2_.toInt = v2_), rng S → mS D b s 220 (jX b kc T S) H locs → lv_has ls 4 [(0, .ref (b + 10)), (1, .ref (b + (14 + 4 * j1))), (2, .int x2_)] → kf2_ v2_ = some vr → W p l e (mR 4 0 0) s m args below meth c H locs 0 0 Q (F0 m 2 ls [])), ∀ (H : Heap) (locs : List Loc) (ls : Array Slot) (x2_ : Int32) (v2_ : Int) (hx2_ : x2_.toInt = v2_), rng S → mS D b s 220 (jX b kc T S) H locs → lv_has ls 4 [(0, .ref (b + 10)), (1, .ref (b + (14 + 4 * j1))), (2, .int x2_)] → f_Pile_firstDoneThatMeets_42 S j1 kf2_ v2_ = some vr → W p l e (mR 4 0 0) s m args below meth c H locs 0 0 Q (F0 m 42 ls []) := by
    intro kf2_ hkf2_ H locs ls x2_ v2_ hx2_ hS hM hl h
    unfold f_Pile_firstDoneThatMeets_42 at h
    refine g_iinc (y := 1) hx hb hx2_ (by decide) (by decide) h dX5_firstDoneThatMeets_42 hl (k := 2) rfl (by decide) (fun z1_z ls bz1_z h hl => ?_)
    have hl : lv_has ls 4 [(2, .int z1_z), (0, .ref (b + 10)), (1, .ref (b + (14 + 4 * j1)))] := hl
    refine lv_goto (tgt := 2) hx hb dX5_firstDoneThatMeets_45 (by decide) ?_
    exact hkf2_ _ _ _ z1_z (v2_ + 1) bz1_z hS hM (lv_sub hl [1, 2, 0] rfl) h
  have B2 : ∀ (n : Nat), ∀ (H : Heap) (locs : List Loc) (ls : Array Slot) (x2_ : Int32) (v2_ : Int) (hx2_ : x2_.toInt = v2_), rng S → mS D b s 220 (jX b kc T S) H locs → lv_has ls 4 [(0, .ref (b + 10)), (1, .ref (b + (14 + 4 * j1))), (2, .int x2_)] → f_Pile_firstDoneThatMeets_2 S j1 n v2_ = some vr → W p l e (mR 4 0 0) s m args below meth c H locs 0 0 Q (F0 m 2 ls []) := by
    intro n
    induction n with
    | zero => intro H locs ls x2_ v2_ hx2_ hS hM hl h; exact absurd (h : none = some _) (fun q => nomatch q)
    | succ n hkf2_ =>
      intro H locs ls x2_ v2_ hx2_ hS hM hl h
      have h : f_Pile_firstDoneThatMeets_2_b S j1 (f_Pile_firstDoneThatMeets_2 S j1 n) v2_ = some vr := h
      unfold f_Pile_firstDoneThatMeets_2_b at h
      refine lv_iload_n hx hb dX5_firstDoneThatMeets_2 rfl (lv_at hl 2 rfl) ?_
      refine lv_aload_n hx hb dX5_firstDoneThatMeets_3 rfl (lv_at hl 0 rfl) ?_
      refine g_get fl_X5_25_X5 C hM (i := 10) (r := 10) (by omega) (e_10 b kc T S) rfl hS dX5_firstDoneThatMeets_4 (fun z1_z bz1_z => ?_)
      refine g_icmp_ge (tgt := 48) hx hb hx2_ bz1_z h dX5_firstDoneThatMeets_7 (by decide) (fun h => ?_) (fun h => ?_)
      · refine lv_iconst (v := (-1)) hx hb dX5_firstDoneThatMeets_48 (by decide) ?_
        exact ret S _ _ _ _ (-1) ((show ((-1) : Int32).toInt = (-1) by decide).trans (Option.some.inj h)) rfl hM hS dX5_firstDoneThatMeets_49
      · refine lv_aload_n hx hb dX5_firstDoneThatMeets_10 rfl (lv_at hl 0 rfl) ?_
        refine lv_iload_n hx hb dX5_firstDoneThatMeets_11 rfl (lv_at hl 2 rfl) ?_
        obtain ⟨o2_z, co2_z, h⟩ := w_b1E h
        refine g_callQ (J := jX b kc T) (m_runV calV_X5_find wd_606 (g_Pile_find l D kc b T S x2_ v2_ hx2_ hS co2_z) C hM (i := 10) (by omega) (e_10 b kc T S) rfl hl.1 rfl rfl (Nat.le_of_ble_eq_true rfl) dX5_firstDoneThatMeets_12 ⟨Nat.le_of_ble_eq_true rfl, Nat.le_of_ble_eq_true rfl⟩ ⟨Nat.le_of_ble_eq_true rfl, Nat.le_of_ble_eq_true rfl⟩) hM (fun z3_z H locs bz3_z hM hS => ?_)
        subst bz3_z
        refine lv_astore_nq (lv' := [(3, va_rf (om b o2_z)), (0, .ref (b + 10)), (1, .ref (b + (14 + 4 * j1))), (2, .int x2_)]) hx hb dX5_firstDoneThatMeets_15 rfl hl (by decide) rfl (fun ls hl => ?_)
        refine lv_aload_nq hx hb dX5_firstDoneThatMeets_16 rfl (lv_at hl 0 rfl) ?_
        cases o2_z with
        | none =>
          replace h := w_onN h
          have hl : lv_has ls 4 [(3, .null), (0, .ref (b + 10)), (1, .ref (b + (14 + 4 * j1))), (2, .int x2_)] := hl
          refine lv_ifnullN (tgt := 42) hx hb dX5_firstDoneThatMeets_17 (by decide) ?_
          exact B42 (f_Pile_firstDoneThatMeets_2 S j1 n) hkf2_ _ _ _ x2_ v2_ hx2_ hS hM (lv_sub hl [1, 2, 3] rfl) h
        | some j4_z =>
          obtain ⟨hj4_z, h⟩ := w_chkE (w_onS h)
          have hl : lv_has ls 4 [(3, .ref (b + (14 + 4 * j4_z))), (0, .ref (b + 10)), (1, .ref (b + (14 + 4 * j1))), (2, .int x2_)] := hl
          refine lv_ifnull hx hb dX5_firstDoneThatMeets_17 ?_
          refine lv_aload_n hx hb dX5_firstDoneThatMeets_20 rfl (lv_at hl 0 rfl) ?_
          refine lv_aload_n hx hb dX5_firstDoneThatMeets_21 rfl (lv_at hl 2 rfl) ?_
          refine g_acmp_eq (tgt := 42) (j := j4_z) (k := j1) hx hb h dX5_firstDoneThatMeets_22 (by decide) (fun h => ?_) (fun h => ?_)
          · exact B42 (f_Pile_firstDoneThatMeets_2 S j1 n) hkf2_ _ _ _ x2_ v2_ hx2_ hS hM (lv_sub hl [1, 2, 3] rfl) h
          · refine lv_aload_n hx hb dX5_firstDoneThatMeets_25 rfl (lv_at hl 0 rfl) ?_
            refine g_getN fl_X5_63_X3 C hM (i := 14 + 4 * j4_z) (r := 14 + 4 * j4_z) (by omega) (e_mk b kc T S hj4_z) rfl hS dX5_firstDoneThatMeets_26 (fun z5_z bz5_z => ?_)
            refine g_if_ne (tgt := 42) hx hb bz5_z h dX5_firstDoneThatMeets_29 (by decide) (fun h => ?_) (fun h => ?_)
            · exact B42 (f_Pile_firstDoneThatMeets_2 S j1 n) hkf2_ _ _ _ x2_ v2_ hx2_ hS hM (lv_sub hl [1, 2, 3] rfl) h
            · refine lv_aload_n hx hb dX5_firstDoneThatMeets_32 rfl (lv_at hl 2 rfl) ?_
              refine lv_aload_n hx hb dX5_firstDoneThatMeets_33 rfl (lv_at hl 0 rfl) ?_
              obtain ⟨r6_z, cr6_z, h⟩ := w_b1E h
              refine g_callI (J := jX b kc T) (m_runV calV_X3_meets wd_630 (g_Mark_meets l D kc b T S j1 hj1 j4_z hj4_z hS cr6_z) C hM (i := 14 + 4 * j1) (by omega) (e_mk b kc T S hj1) rfl hl.1 rfl rfl (Nat.le_of_ble_eq_true rfl) dX5_firstDoneThatMeets_34 ⟨Nat.le_of_ble_eq_true rfl, Nat.le_of_ble_eq_true rfl⟩ ⟨Nat.le_of_ble_eq_true rfl, Nat.le_of_ble_eq_true rfl⟩) hM (fun z7_z H locs bz7_z hM hS => ?_)
              refine g_if_eq (tgt := 42) hx hb bz7_z h dX5_firstDoneThatMeets_37 (by decide) (fun h => ?_) (fun h => ?_)
              · exact B42 (f_Pile_firstDoneThatMeets_2 S j1 n) hkf2_ _ _ _ x2_ v2_ hx2_ hS hM (lv_sub hl [1, 2, 3] rfl) h
              · refine lv_iload_n hx hb dX5_firstDoneThatMeets_40 rfl (lv_at hl 3 rfl) ?_
                exact ret S _ _ _ _ x2_ (hx2_.trans (Option.some.inj h)) rfl hM hS dX5_firstDoneThatMeets_41
  refine lv_iconst (v := 0) hx hb dX5_firstDoneThatMeets_0 (by decide) ?_
  refine lv_istore_n (lv' := [(2, .int 0), (0, .ref (b + 10)), (1, .ref (b + (14 + 4 * j1)))]) hx hb dX5_firstDoneThatMeets_1 rfl hl (by decide) rfl (fun ls hl => ?_)
  exact B2 FU _ _ _ 0 0 (show (0 : Int32).toInt = 0 by decide) hS hM (lv_sub hl [1, 2, 0] rfl) h

def f_Pile_listDone_64 (kf7_ : SS → Int → Option SS) (S : SS) (v1_ : Int) : Option SS := w_chk (i32 (v1_ + 1)) (kf7_ S (v1_ + 1))
def f_Pile_listDone_7_b (kf7_ : SS → Int → Option SS) (S : SS) (v1_ : Int) : Option SS := (if gi S 10 3 ≤ v1_ then some S else w_b1 (f_Pile_find S v1_) (fun o2_z => w_on o2_z (f_Pile_listDone_64 kf7_ S v1_) (fun j4_z => w_chk (j4_z < 40) ((if gi S (14 + 4 * j4_z) 11 = 0 then (if 40 ≤ gi S 10 5 then f_Pile_listDone_64 kf7_ S v1_ else w_chk (0 ≤ (gi S 10 5) ∧ (gi S 10 5) < 40) (w_lt (si S 13 (gi S 10 5).toNat v1_) (fun S8_z => w_chk (i32 ((gi S8_z 10 5) + 1)) (w_lt (si S8_z 10 5 ((gi S8_z 10 5) + 1)) (fun S11_z => f_Pile_listDone_64 kf7_ S11_z v1_))))) else f_Pile_listDone_64 kf7_ S v1_)))))
def f_Pile_listDone_7 : Nat → SS → Int → Option SS
  | 0 => fun _ _ => none
  | n + 1 => f_Pile_listDone_7_b (f_Pile_listDone_7 n)
def f_Pile_listDone (S : SS) : Option SS := w_lt (si S 10 5 0) (fun S1_z => f_Pile_listDone_7 FU S1_z 0)
set_option maxHeartbeats 4000000 in
set_option maxRecDepth 100000 in
theorem g_Pile_listDone (l : Launch) (D : va_G) (kc : Nat → ClassId) (b : Nat) (T S : SS) (hS : rng S) {Sr : SS} (h : f_Pile_listDone S = some Sr) : cV l yX5_listDone cX5_listDone 3 3 D kc b (jX b kc T) S [.ref (b + 10)] Sr := by
  refine g_beg_v (by decide) (Nat.le_of_ble_eq_true rfl) ?_
  intro p e s m args below meth c Q C ret hM ls hl
  obtain ⟨hx, hb, hml, hown, hts, hE, hbs⟩ := id C
  have hl : lv_has ls 3 [(0, .ref (b + 10))] := hl
  unfold f_Pile_listDone at h
  have B64 : ∀ (kf7_ : SS → Int → Option SS) (hkf7_ : ∀ (S : SS) (H : Heap) (locs : List Loc) (ls : Array Slot) (x1_ : Int32) (v1_ : Int) (hx1_ : x1_.toInt = v1_), rng S → mS D b s 220 (jX b kc T S) H locs → lv_has ls 3 [(0, .ref (b + 10)), (1, .int x1_)] → kf7_ S v1_ = some Sr → W p l e (mR 3 0 0) s m args below meth c H locs 0 0 Q (F0 m 7 ls [])), ∀ (S : SS) (H : Heap) (locs : List Loc) (ls : Array Slot) (x1_ : Int32) (v1_ : Int) (hx1_ : x1_.toInt = v1_), rng S → mS D b s 220 (jX b kc T S) H locs → lv_has ls 3 [(0, .ref (b + 10)), (1, .int x1_)] → f_Pile_listDone_64 kf7_ S v1_ = some Sr → W p l e (mR 3 0 0) s m args below meth c H locs 0 0 Q (F0 m 64 ls []) := by
    intro kf7_ hkf7_ S H locs ls x1_ v1_ hx1_ hS hM hl h
    unfold f_Pile_listDone_64 at h
    refine g_iinc (y := 1) hx hb hx1_ (by decide) (by decide) h dX5_listDone_64 hl (k := 1) rfl (by decide) (fun z1_z ls bz1_z h hl => ?_)
    have hl : lv_has ls 3 [(1, .int z1_z), (0, .ref (b + 10))] := hl
    refine lv_goto (tgt := 7) hx hb dX5_listDone_67 (by decide) ?_
    exact hkf7_ S _ _ _ z1_z (v1_ + 1) bz1_z hS hM (lv_sub hl [1, 0] rfl) h
  have B7 : ∀ (n : Nat), ∀ (S : SS) (H : Heap) (locs : List Loc) (ls : Array Slot) (x1_ : Int32) (v1_ : Int) (hx1_ : x1_.toInt = v1_), rng S → mS D b s 220 (jX b kc T S) H locs → lv_has ls 3 [(0, .ref (b + 10)), (1, .int x1_)] → f_Pile_listDone_7 n S v1_ = some Sr → W p l e (mR 3 0 0) s m args below meth c H locs 0 0 Q (F0 m 7 ls []) := by
    intro n
    induction n with
    | zero => intro S H locs ls x1_ v1_ hx1_ hS hM hl h; exact absurd (h : none = some _) (fun q => nomatch q)
    | succ n hkf7_ =>
      intro S H locs ls x1_ v1_ hx1_ hS hM hl h
      have h : f_Pile_listDone_7_b (f_Pile_listDone_7 n) S v1_ = some Sr := h
      unfold f_Pile_listDone_7_b at h
      refine lv_iload_n hx hb dX5_listDone_7 rfl (lv_at hl 1 rfl) ?_
      refine lv_aload_n hx hb dX5_listDone_8 rfl (lv_at hl 0 rfl) ?_
      refine g_get fl_X5_25_X5 C hM (i := 10) (r := 10) (by omega) (e_10 b kc T S) rfl hS dX5_listDone_9 (fun z1_z bz1_z => ?_)
      refine g_icmp_ge (tgt := 70) hx hb hx1_ bz1_z h dX5_listDone_12 (by decide) (fun h => ?_) (fun h => ?_)
      · exact ret S _ _ _ _ (Option.some.inj h) hM hS dX5_listDone_70
      · refine lv_aload_n hx hb dX5_listDone_15 rfl (lv_at hl 0 rfl) ?_
        refine lv_iload_n hx hb dX5_listDone_16 rfl (lv_at hl 1 rfl) ?_
        obtain ⟨o2_z, co2_z, h⟩ := w_b1E h
        refine g_callQ (J := jX b kc T) (m_runV calV_X5_find wd_606 (g_Pile_find l D kc b T S x1_ v1_ hx1_ hS co2_z) C hM (i := 10) (by omega) (e_10 b kc T S) rfl hl.1 rfl rfl (Nat.le_of_ble_eq_true rfl) dX5_listDone_17 ⟨Nat.le_of_ble_eq_true rfl, Nat.le_of_ble_eq_true rfl⟩ ⟨Nat.le_of_ble_eq_true rfl, Nat.le_of_ble_eq_true rfl⟩) hM (fun z3_z H locs bz3_z hM hS => ?_)
        subst bz3_z
        refine lv_astore_nq (lv' := [(2, va_rf (om b o2_z)), (0, .ref (b + 10)), (1, .int x1_)]) hx hb dX5_listDone_20 rfl hl (by decide) rfl (fun ls hl => ?_)
        refine lv_aload_nq hx hb dX5_listDone_21 rfl (lv_at hl 0 rfl) ?_
        cases o2_z with
        | none =>
          replace h := w_onN h
          have hl : lv_has ls 3 [(2, .null), (0, .ref (b + 10)), (1, .int x1_)] := hl
          refine lv_ifnullN (tgt := 64) hx hb dX5_listDone_22 (by decide) ?_
          exact B64 (f_Pile_listDone_7 n) hkf7_ S _ _ _ x1_ v1_ hx1_ hS hM (lv_sub hl [1, 2] rfl) h
        | some j4_z =>
          obtain ⟨hj4_z, h⟩ := w_chkE (w_onS h)
          have hl : lv_has ls 3 [(2, .ref (b + (14 + 4 * j4_z))), (0, .ref (b + 10)), (1, .int x1_)] := hl
          refine lv_ifnull hx hb dX5_listDone_22 ?_
          refine lv_aload_n hx hb dX5_listDone_25 rfl (lv_at hl 0 rfl) ?_
          refine g_getN fl_X5_63_X3 C hM (i := 14 + 4 * j4_z) (r := 14 + 4 * j4_z) (by omega) (e_mk b kc T S hj4_z) rfl hS dX5_listDone_26 (fun z5_z bz5_z => ?_)
          refine g_if_ne (tgt := 64) hx hb bz5_z h dX5_listDone_29 (by decide) (fun h => ?_) (fun h => ?_)
          · exact B64 (f_Pile_listDone_7 n) hkf7_ S _ _ _ x1_ v1_ hx1_ hS hM (lv_sub hl [1, 2] rfl) h
          · refine lv_aload_n hx hb dX5_listDone_32 rfl (lv_at hl 1 rfl) ?_
            refine g_get fl_X5_32_X5 C hM (i := 10) (r := 10) (by omega) (e_10 b kc T S) rfl hS dX5_listDone_33 (fun z6_z bz6_z => ?_)
            refine lv_aload_n hx hb dX5_listDone_36 rfl (lv_at hl 1 rfl) ?_
            refine m_get fl_X5_21_X5 C hM (i := 10) (by omega) (e_10 b kc T S) (v := .ref (b + 13)) rfl dX5_listDone_37 ?_
            refine m_alen C hM (j := 13) (by omega) 1 (e_13 b kc T S) rfl (v := 40) rfl dX5_listDone_40 ?_
            refine g_icmp_ge (tgt := 64) hx hb bz6_z (show (40 : Int32).toInt = 40 by decide) h dX5_listDone_41 (by decide) (fun h => ?_) (fun h => ?_)
            · exact B64 (f_Pile_listDone_7 n) hkf7_ S _ _ _ x1_ v1_ hx1_ hS hM (lv_sub hl [1, 2] rfl) h
            · refine lv_aload_n hx hb dX5_listDone_44 rfl (lv_at hl 1 rfl) ?_
              refine m_get fl_X5_21_X5 C hM (i := 10) (by omega) (e_10 b kc T S) (v := .ref (b + 13)) rfl dX5_listDone_45 ?_
              refine lv_aload_n hx hb dX5_listDone_48 rfl (lv_at hl 1 rfl) ?_
              refine g_get fl_X5_32_X5 C hM (i := 10) (r := 10) (by omega) (e_10 b kc T S) rfl hS dX5_listDone_49 (fun z7_z bz7_z => ?_)
              refine lv_iload_n hx hb dX5_listDone_52 rfl (lv_at hl 2 rfl) ?_
              refine g_iast C hM (j := 13) (by omega) (jK_X b kc T (by omega)) (a_13 b kc) hS bz7_z hx1_ (B := 40) rfl h dX5_listDone_53 (fun S8_z H locs h hM hS => ?_)
              refine lv_aload_n hx hb dX5_listDone_54 rfl (lv_at hl 1 rfl) ?_
              refine lv_dup hx hb dX5_listDone_55 rfl ?_
              refine g_get fl_X5_32_X5 C hM (i := 10) (r := 10) (by omega) (e_10 b kc T S8_z) rfl hS dX5_listDone_56 (fun z9_z bz9_z => ?_)
              refine lv_iconst (v := 1) hx hb dX5_listDone_59 (by decide) ?_
              refine g_iadd hx hb bz9_z (show (1 : Int32).toInt = 1 by decide) h dX5_listDone_60 (fun z10_z bz10_z h => ?_)
              refine g_put fl_X5_32_X5 C hM (i := 10) (by omega) (e_10 b kc T S8_z) rfl rfl (Nat.le_of_ble_eq_true rfl) (fs1 := [.ref (b + 11), .ref (b + 12), .ref (b + 13), .int (oi (gi S8_z 10 3)), .int (oi (gi S8_z 10 4)), .int z10_z]) rfl (p_10_5 bz10_z) (rng_si hS (i32_of bz10_z)) h dX5_listDone_61 (fun S11_z H locs h hM hS => ?_)
              exact B64 (f_Pile_listDone_7 n) hkf7_ S11_z _ _ _ x1_ v1_ hx1_ hS hM (lv_sub hl [1, 2] rfl) h
  refine lv_aload_n hx hb dX5_listDone_0 rfl (lv_at hl 0 rfl) ?_
  refine lv_iconst (v := 0) hx hb dX5_listDone_1 (by decide) ?_
  refine g_put fl_X5_32_X5 C hM (i := 10) (by omega) (e_10 b kc T S) rfl rfl (Nat.le_of_ble_eq_true rfl) (fs1 := [.ref (b + 11), .ref (b + 12), .ref (b + 13), .int (oi (gi S 10 3)), .int (oi (gi S 10 4)), .int 0]) rfl (p_10_5 (show (0 : Int32).toInt = 0 by decide)) (rng_si hS (i32_of (show (0 : Int32).toInt = 0 by decide))) h dX5_listDone_2 (fun S1_z H locs h hM hS => ?_)
  refine lv_iconst (v := 0) hx hb dX5_listDone_5 (by decide) ?_
  refine lv_istore_n (lv' := [(1, .int 0), (0, .ref (b + 10))]) hx hb dX5_listDone_6 rfl hl (by decide) rfl (fun ls hl => ?_)
  exact B7 FU S1_z _ _ _ 0 0 (show (0 : Int32).toInt = 0 by decide) hS hM (lv_sub hl [1, 0] rfl) h

def f_Pile_decide_33 (kf2_ : SS → Int → Option SS) (S : SS) (v1_ : Int) : Option SS := w_chk (i32 (v1_ + 1)) (kf2_ S (v1_ + 1))
def f_Pile_decide_112 (kf41_ : SS → Int → Option SS) (kf49_ : SS → Int → Int → Option SS) (S : SS) (v1_ : Int) (v2_ : Int) : Option SS := w_chk (i32 (v2_ + 1)) (kf49_ S v1_ (v2_ + 1))
def f_Pile_decide_109 (kf41_ : SS → Int → Option SS) (kf49_ : SS → Int → Int → Option SS) (S : SS) (v1_ : Int) (v2_ : Int) (vt0_ : Int) (jt1_ : Nat) : Option SS := w_lt (si S (14 + 4 * jt1_) 11 vt0_) (fun S1_z => f_Pile_decide_112 kf41_ kf49_ S1_z v1_ v2_)
def f_Pile_decide_49_b (kf41_ : SS → Int → Option SS) (kf49_ : SS → Int → Int → Option SS) (S : SS) (v1_ : Int) (v2_ : Int) : Option SS := (if gi S 10 3 ≤ v2_ then w_chk (i32 (v1_ + 1)) (kf41_ S (v1_ + 1)) else w_b1 (f_Pile_find S v2_) (fun o3_z => w_on o3_z (f_Pile_decide_112 kf41_ kf49_ S v1_ v2_) (fun j5_z => w_chk (j5_z < 40) ((if f_Mark_asks S j5_z = 0 then f_Pile_decide_112 kf41_ kf49_ S v1_ v2_ else w_b1 (f_Pile_rankOf S (gi S (14 + 4 * j5_z) 3)) (fun r8_z => (if r8_z = v1_ then w_b1 (f_Pile_firstDoneThatMeets S j5_z) (fun r10_z => w_lt (si S (14 + 4 * j5_z) 12 r10_z) (fun S12_z => (if gi S12_z (14 + 4 * j5_z) 12 = (-1) then f_Pile_decide_109 kf41_ kf49_ S12_z v1_ v2_ 0 j5_z else f_Pile_decide_109 kf41_ kf49_ S12_z v1_ v2_ 1 j5_z))) else f_Pile_decide_112 kf41_ kf49_ S v1_ v2_)))))))
def f_Pile_decide_49 (kf41_ : SS → Int → Option SS) : Nat → SS → Int → Int → Option SS
  | 0 => fun _ _ _ => none
  | n + 1 => f_Pile_decide_49_b kf41_ (f_Pile_decide_49 kf41_ n)
def f_Pile_decide_41_b (kf41_ : SS → Int → Option SS) (S : SS) (v1_ : Int) : Option SS := (if 9 < v1_ then w_b1 (f_Pile_listDone S) (fun S1_z => some S1_z) else f_Pile_decide_49 kf41_ FU S v1_ 0)
def f_Pile_decide_41 : Nat → SS → Int → Option SS
  | 0 => fun _ _ => none
  | n + 1 => f_Pile_decide_41_b (f_Pile_decide_41 n)
def f_Pile_decide_2_b (kf2_ : SS → Int → Option SS) (S : SS) (v1_ : Int) : Option SS := (if gi S 10 3 ≤ v1_ then f_Pile_decide_41 FU S 0 else w_b1 (f_Pile_find S v1_) (fun o2_z => w_on o2_z (f_Pile_decide_33 kf2_ S v1_) (fun j4_z => w_chk (j4_z < 40) (w_lt (si S (14 + 4 * j4_z) 12 (-1)) (fun S5_z => w_lt (si S5_z (14 + 4 * j4_z) 11 (f_Mark_undecidedStatus S5_z j4_z)) (fun S7_z => f_Pile_decide_33 kf2_ S7_z v1_))))))
def f_Pile_decide_2 : Nat → SS → Int → Option SS
  | 0 => fun _ _ => none
  | n + 1 => f_Pile_decide_2_b (f_Pile_decide_2 n)
def f_Pile_decide (S : SS) : Option SS := f_Pile_decide_2 FU S 0
set_option maxHeartbeats 4000000 in
set_option maxRecDepth 100000 in
theorem g_Pile_decide (l : Launch) (D : va_G) (kc : Nat → ClassId) (b : Nat) (T S : SS) (hS : rng S) {Sr : SS} (h : f_Pile_decide S = some Sr) : cV l yX5_decide cX5_decide 4 5 D kc b (jX b kc T) S [.ref (b + 10)] Sr := by
  refine g_beg_v (by decide) (Nat.le_of_ble_eq_true rfl) ?_
  intro p e s m args below meth c Q C ret hM ls hl
  obtain ⟨hx, hb, hml, hown, hts, hE, hbs⟩ := id C
  have hl : lv_has ls 4 [(0, .ref (b + 10))] := hl
  unfold f_Pile_decide at h
  have B33 : ∀ (kf2_ : SS → Int → Option SS) (hkf2_ : ∀ (S : SS) (H : Heap) (locs : List Loc) (ls : Array Slot) (x1_ : Int32) (v1_ : Int) (hx1_ : x1_.toInt = v1_), rng S → mS D b s 220 (jX b kc T S) H locs → lv_has ls 4 [(0, .ref (b + 10)), (1, .int x1_)] → kf2_ S v1_ = some Sr → W p l e (mR 5 0 0) s m args below meth c H locs 0 0 Q (F0 m 2 ls [])), ∀ (S : SS) (H : Heap) (locs : List Loc) (ls : Array Slot) (x1_ : Int32) (v1_ : Int) (hx1_ : x1_.toInt = v1_), rng S → mS D b s 220 (jX b kc T S) H locs → lv_has ls 4 [(0, .ref (b + 10)), (1, .int x1_)] → f_Pile_decide_33 kf2_ S v1_ = some Sr → W p l e (mR 5 0 0) s m args below meth c H locs 0 0 Q (F0 m 33 ls []) := by
    intro kf2_ hkf2_ S H locs ls x1_ v1_ hx1_ hS hM hl h
    unfold f_Pile_decide_33 at h
    refine g_iinc (y := 1) hx hb hx1_ (by decide) (by decide) h dX5_decide_33 hl (k := 1) rfl (by decide) (fun z1_z ls bz1_z h hl => ?_)
    have hl : lv_has ls 4 [(1, .int z1_z), (0, .ref (b + 10))] := hl
    refine lv_goto (tgt := 2) hx hb dX5_decide_36 (by decide) ?_
    exact hkf2_ S _ _ _ z1_z (v1_ + 1) bz1_z hS hM (lv_sub hl [1, 0] rfl) h
  have B112 : ∀ (kf41_ : SS → Int → Option SS) (hkf41_ : ∀ (S : SS) (H : Heap) (locs : List Loc) (ls : Array Slot) (x1_ : Int32) (v1_ : Int) (hx1_ : x1_.toInt = v1_), rng S → mS D b s 220 (jX b kc T S) H locs → lv_has ls 4 [(0, .ref (b + 10)), (1, .int x1_)] → kf41_ S v1_ = some Sr → W p l e (mR 5 0 0) s m args below meth c H locs 0 0 Q (F0 m 41 ls [])) (kf49_ : SS → Int → Int → Option SS) (hkf49_ : ∀ (S : SS) (H : Heap) (locs : List Loc) (ls : Array Slot) (x1_ : Int32) (v1_ : Int) (hx1_ : x1_.toInt = v1_) (x2_ : Int32) (v2_ : Int) (hx2_ : x2_.toInt = v2_), rng S → mS D b s 220 (jX b kc T S) H locs → lv_has ls 4 [(0, .ref (b + 10)), (1, .int x1_), (2, .int x2_)] → kf49_ S v1_ v2_ = some Sr → W p l e (mR 5 0 0) s m args below meth c H locs 0 0 Q (F0 m 49 ls [])), ∀ (S : SS) (H : Heap) (locs : List Loc) (ls : Array Slot) (x1_ : Int32) (v1_ : Int) (hx1_ : x1_.toInt = v1_) (x2_ : Int32) (v2_ : Int) (hx2_ : x2_.toInt = v2_), rng S → mS D b s 220 (jX b kc T S) H locs → lv_has ls 4 [(0, .ref (b + 10)), (1, .int x1_), (2, .int x2_)] → f_Pile_decide_112 kf41_ kf49_ S v1_ v2_ = some Sr → W p l e (mR 5 0 0) s m args below meth c H locs 0 0 Q (F0 m 112 ls []) := by
    intro kf41_ hkf41_ kf49_ hkf49_ S H locs ls x1_ v1_ hx1_ x2_ v2_ hx2_ hS hM hl h
    unfold f_Pile_decide_112 at h
    refine g_iinc (y := 1) hx hb hx2_ (by decide) (by decide) h dX5_decide_112 hl (k := 2) rfl (by decide) (fun z1_z ls bz1_z h hl => ?_)
    have hl : lv_has ls 4 [(2, .int z1_z), (0, .ref (b + 10)), (1, .int x1_)] := hl
    refine lv_goto (tgt := 49) hx hb dX5_decide_115 (by decide) ?_
    exact hkf49_ S _ _ _ x1_ v1_ hx1_ z1_z (v2_ + 1) bz1_z hS hM (lv_sub hl [1, 2, 0] rfl) h
  have B109 : ∀ (kf41_ : SS → Int → Option SS) (hkf41_ : ∀ (S : SS) (H : Heap) (locs : List Loc) (ls : Array Slot) (x1_ : Int32) (v1_ : Int) (hx1_ : x1_.toInt = v1_), rng S → mS D b s 220 (jX b kc T S) H locs → lv_has ls 4 [(0, .ref (b + 10)), (1, .int x1_)] → kf41_ S v1_ = some Sr → W p l e (mR 5 0 0) s m args below meth c H locs 0 0 Q (F0 m 41 ls [])) (kf49_ : SS → Int → Int → Option SS) (hkf49_ : ∀ (S : SS) (H : Heap) (locs : List Loc) (ls : Array Slot) (x1_ : Int32) (v1_ : Int) (hx1_ : x1_.toInt = v1_) (x2_ : Int32) (v2_ : Int) (hx2_ : x2_.toInt = v2_), rng S → mS D b s 220 (jX b kc T S) H locs → lv_has ls 4 [(0, .ref (b + 10)), (1, .int x1_), (2, .int x2_)] → kf49_ S v1_ v2_ = some Sr → W p l e (mR 5 0 0) s m args below meth c H locs 0 0 Q (F0 m 49 ls [])), ∀ (S : SS) (H : Heap) (locs : List Loc) (ls : Array Slot) (x1_ : Int32) (v1_ : Int) (hx1_ : x1_.toInt = v1_) (x2_ : Int32) (v2_ : Int) (hx2_ : x2_.toInt = v2_) (xt0_ : Int32) (vt0_ : Int) (hxt0_ : xt0_.toInt = vt0_) (jt1_ : Nat) (hjt1_ : jt1_ < 40), rng S → mS D b s 220 (jX b kc T S) H locs → lv_has ls 4 [(0, .ref (b + 10)), (1, .int x1_), (2, .int x2_)] → f_Pile_decide_109 kf41_ kf49_ S v1_ v2_ vt0_ jt1_ = some Sr → W p l e (mR 5 0 0) s m args below meth c H locs 0 0 Q (F0 m 109 ls [.int xt0_, .ref (b + (14 + 4 * jt1_))]) := by
    intro kf41_ hkf41_ kf49_ hkf49_ S H locs ls x1_ v1_ hx1_ x2_ v2_ hx2_ xt0_ vt0_ hxt0_ jt1_ hjt1_ hS hM hl h
    unfold f_Pile_decide_109 at h
    refine g_putN fl_X5_63_X3 C hM (i := 14 + 4 * jt1_) (by omega) (e_mk b kc T S hjt1_) rfl rfl (Nat.le_of_ble_eq_true rfl) (fs1 := [.ref (b + (14 + 4 * jt1_ + 1)), .ref (b + (14 + 4 * jt1_ + 2)), .int (oi (gi S (14 + 4 * jt1_) 2)), .int (oi (gi S (14 + 4 * jt1_) 3)), .int (oi (gi S (14 + 4 * jt1_) 4)), .int (oi (gi S (14 + 4 * jt1_) 5)), .int (oi (gi S (14 + 4 * jt1_) 6)), .int (oi (gi S (14 + 4 * jt1_) 7)), .int (oi (gi S (14 + 4 * jt1_) 8)), .int (oi (gi S (14 + 4 * jt1_) 9)), .int (oi (gi S (14 + 4 * jt1_) 10)), .int xt0_, .int (oi (gi S (14 + 4 * jt1_) 12))]) rfl (p_mk_11 hjt1_ hxt0_) (rng_si hS (i32_of hxt0_)) h dX5_decide_109 (fun S1_z H locs h hM hS => ?_)
    exact B112 kf41_ hkf41_ kf49_ hkf49_ S1_z _ _ _ x1_ v1_ hx1_ x2_ v2_ hx2_ hS hM (lv_sub hl [0, 1, 2] rfl) h
  have B49 : ∀ (kf41_ : SS → Int → Option SS) (hkf41_ : ∀ (S : SS) (H : Heap) (locs : List Loc) (ls : Array Slot) (x1_ : Int32) (v1_ : Int) (hx1_ : x1_.toInt = v1_), rng S → mS D b s 220 (jX b kc T S) H locs → lv_has ls 4 [(0, .ref (b + 10)), (1, .int x1_)] → kf41_ S v1_ = some Sr → W p l e (mR 5 0 0) s m args below meth c H locs 0 0 Q (F0 m 41 ls [])) (n : Nat), ∀ (S : SS) (H : Heap) (locs : List Loc) (ls : Array Slot) (x1_ : Int32) (v1_ : Int) (hx1_ : x1_.toInt = v1_) (x2_ : Int32) (v2_ : Int) (hx2_ : x2_.toInt = v2_), rng S → mS D b s 220 (jX b kc T S) H locs → lv_has ls 4 [(0, .ref (b + 10)), (1, .int x1_), (2, .int x2_)] → f_Pile_decide_49 kf41_ n S v1_ v2_ = some Sr → W p l e (mR 5 0 0) s m args below meth c H locs 0 0 Q (F0 m 49 ls []) := by
    intro kf41_ hkf41_ n
    induction n with
    | zero => intro S H locs ls x1_ v1_ hx1_ x2_ v2_ hx2_ hS hM hl h; exact absurd (h : none = some _) (fun q => nomatch q)
    | succ n hkf49_ =>
      intro S H locs ls x1_ v1_ hx1_ x2_ v2_ hx2_ hS hM hl h
      have h : f_Pile_decide_49_b kf41_ (f_Pile_decide_49 kf41_ n) S v1_ v2_ = some Sr := h
      unfold f_Pile_decide_49_b at h
      refine lv_iload_n hx hb dX5_decide_49 rfl (lv_at hl 2 rfl) ?_
      refine lv_aload_n hx hb dX5_decide_50 rfl (lv_at hl 0 rfl) ?_
      refine g_get fl_X5_25_X5 C hM (i := 10) (r := 10) (by omega) (e_10 b kc T S) rfl hS dX5_decide_51 (fun z1_z bz1_z => ?_)
      refine g_icmp_ge (tgt := 118) hx hb hx2_ bz1_z h dX5_decide_54 (by decide) (fun h => ?_) (fun h => ?_)
      · refine g_iinc (y := 1) hx hb hx1_ (by decide) (by decide) h dX5_decide_118 hl (k := 1) rfl (by decide) (fun z2_z ls bz2_z h hl => ?_)
        have hl : lv_has ls 4 [(1, .int z2_z), (0, .ref (b + 10)), (2, .int x2_)] := hl
        refine lv_goto (tgt := 41) hx hb dX5_decide_121 (by decide) ?_
        exact hkf41_ S _ _ _ z2_z (v1_ + 1) bz2_z hS hM (lv_sub hl [1, 0] rfl) h
      · refine lv_aload_n hx hb dX5_decide_57 rfl (lv_at hl 0 rfl) ?_
        refine lv_iload_n hx hb dX5_decide_58 rfl (lv_at hl 2 rfl) ?_
        obtain ⟨o3_z, co3_z, h⟩ := w_b1E h
        refine g_callQ (J := jX b kc T) (m_runV calV_X5_find wd_606 (g_Pile_find l D kc b T S x2_ v2_ hx2_ hS co3_z) C hM (i := 10) (by omega) (e_10 b kc T S) rfl hl.1 rfl rfl (Nat.le_of_ble_eq_true rfl) dX5_decide_59 ⟨Nat.le_of_ble_eq_true rfl, Nat.le_of_ble_eq_true rfl⟩ ⟨Nat.le_of_ble_eq_true rfl, Nat.le_of_ble_eq_true rfl⟩) hM (fun z4_z H locs bz4_z hM hS => ?_)
        subst bz4_z
        refine lv_astore_nq (lv' := [(3, va_rf (om b o3_z)), (0, .ref (b + 10)), (1, .int x1_), (2, .int x2_)]) hx hb dX5_decide_62 rfl hl (by decide) rfl (fun ls hl => ?_)
        refine lv_aload_nq hx hb dX5_decide_63 rfl (lv_at hl 0 rfl) ?_
        cases o3_z with
        | none =>
          replace h := w_onN h
          have hl : lv_has ls 4 [(3, .null), (0, .ref (b + 10)), (1, .int x1_), (2, .int x2_)] := hl
          refine lv_ifnullN (tgt := 112) hx hb dX5_decide_64 (by decide) ?_
          exact B112 kf41_ hkf41_ (f_Pile_decide_49 kf41_ n) hkf49_ S _ _ _ x1_ v1_ hx1_ x2_ v2_ hx2_ hS hM (lv_sub hl [1, 2, 3] rfl) h
        | some j5_z =>
          obtain ⟨hj5_z, h⟩ := w_chkE (w_onS h)
          have hl : lv_has ls 4 [(3, .ref (b + (14 + 4 * j5_z))), (0, .ref (b + 10)), (1, .int x1_), (2, .int x2_)] := hl
          refine lv_ifnull hx hb dX5_decide_64 ?_
          refine lv_aload_n hx hb dX5_decide_67 rfl (lv_at hl 0 rfl) ?_
          refine g_callI (J := jX b kc T) (m_runV calV_X3_asks wd_618 (g_Mark_asks l D kc b T S j5_z hj5_z hS rfl) C hM (i := 14 + 4 * j5_z) (by omega) (e_mk b kc T S hj5_z) rfl hl.1 rfl rfl (Nat.le_of_ble_eq_true rfl) dX5_decide_68 ⟨Nat.le_of_ble_eq_true rfl, Nat.le_of_ble_eq_true rfl⟩ ⟨Nat.le_of_ble_eq_true rfl, Nat.le_of_ble_eq_true rfl⟩) hM (fun z6_z H locs bz6_z hM hS => ?_)
          refine g_if_eq (tgt := 112) hx hb bz6_z h dX5_decide_71 (by decide) (fun h => ?_) (fun h => ?_)
          · exact B112 kf41_ hkf41_ (f_Pile_decide_49 kf41_ n) hkf49_ S _ _ _ x1_ v1_ hx1_ x2_ v2_ hx2_ hS hM (lv_sub hl [1, 2, 3] rfl) h
          · refine lv_aload_n hx hb dX5_decide_74 rfl (lv_at hl 1 rfl) ?_
            refine lv_aload_n hx hb dX5_decide_75 rfl (lv_at hl 0 rfl) ?_
            refine g_getN fl_X5_70_X3 C hM (i := 14 + 4 * j5_z) (r := 14 + 4 * j5_z) (by omega) (e_mk b kc T S hj5_z) rfl hS dX5_decide_76 (fun z7_z bz7_z => ?_)
            obtain ⟨r8_z, cr8_z, h⟩ := w_b1E h
            refine g_callI (J := jX b kc T) (m_runV calV_X5_rankOf wd_622 (g_Pile_rankOf l D kc b T S z7_z (gi S (14 + 4 * j5_z) 3) bz7_z hS cr8_z) C hM (i := 10) (by omega) (e_10 b kc T S) rfl hl.1 rfl rfl (Nat.le_of_ble_eq_true rfl) dX5_decide_79 ⟨Nat.le_of_ble_eq_true rfl, Nat.le_of_ble_eq_true rfl⟩ ⟨Nat.le_of_ble_eq_true rfl, Nat.le_of_ble_eq_true rfl⟩) hM (fun z9_z H locs bz9_z hM hS => ?_)
            refine lv_iload_n hx hb dX5_decide_82 rfl (lv_at hl 2 rfl) ?_
            refine g_icmp_ne (tgt := 112) hx hb bz9_z hx1_ h dX5_decide_83 (by decide) (fun h => ?_) (fun h => ?_)
            · exact B112 kf41_ hkf41_ (f_Pile_decide_49 kf41_ n) hkf49_ S _ _ _ x1_ v1_ hx1_ x2_ v2_ hx2_ hS hM (lv_sub hl [1, 2, 3] rfl) h
            · refine lv_aload_n hx hb dX5_decide_86 rfl (lv_at hl 0 rfl) ?_
              refine lv_aload_n hx hb dX5_decide_87 rfl (lv_at hl 1 rfl) ?_
              refine lv_aload_n hx hb dX5_decide_88 rfl (lv_at hl 0 rfl) ?_
              obtain ⟨r10_z, cr10_z, h⟩ := w_b1E h
              refine g_callI (J := jX b kc T) (m_runV calV_X5_firstDoneThatMeets wd_626 (g_Pile_firstDoneThatMeets l D kc b T S j5_z hj5_z hS cr10_z) C hM (i := 10) (by omega) (e_10 b kc T S) rfl hl.1 rfl rfl (Nat.le_of_ble_eq_true rfl) dX5_decide_89 ⟨Nat.le_of_ble_eq_true rfl, Nat.le_of_ble_eq_true rfl⟩ ⟨Nat.le_of_ble_eq_true rfl, Nat.le_of_ble_eq_true rfl⟩) hM (fun z11_z H locs bz11_z hM hS => ?_)
              refine g_putN fl_X5_56_X3 C hM (i := 14 + 4 * j5_z) (by omega) (e_mk b kc T S hj5_z) rfl rfl (Nat.le_of_ble_eq_true rfl) (fs1 := [.ref (b + (14 + 4 * j5_z + 1)), .ref (b + (14 + 4 * j5_z + 2)), .int (oi (gi S (14 + 4 * j5_z) 2)), .int (oi (gi S (14 + 4 * j5_z) 3)), .int (oi (gi S (14 + 4 * j5_z) 4)), .int (oi (gi S (14 + 4 * j5_z) 5)), .int (oi (gi S (14 + 4 * j5_z) 6)), .int (oi (gi S (14 + 4 * j5_z) 7)), .int (oi (gi S (14 + 4 * j5_z) 8)), .int (oi (gi S (14 + 4 * j5_z) 9)), .int (oi (gi S (14 + 4 * j5_z) 10)), .int (oi (gi S (14 + 4 * j5_z) 11)), .int z11_z]) rfl (p_mk_12 hj5_z bz11_z) (rng_si hS (i32_of bz11_z)) h dX5_decide_92 (fun S12_z H locs h hM hS => ?_)
              refine lv_aload_n hx hb dX5_decide_95 rfl (lv_at hl 0 rfl) ?_
              refine lv_aload_n hx hb dX5_decide_96 rfl (lv_at hl 0 rfl) ?_
              refine g_getN fl_X5_56_X3 C hM (i := 14 + 4 * j5_z) (r := 14 + 4 * j5_z) (by omega) (e_mk b kc T S12_z hj5_z) rfl hS dX5_decide_97 (fun z13_z bz13_z => ?_)
              refine lv_iconst (v := (-1)) hx hb dX5_decide_100 (by decide) ?_
              refine g_icmp_ne (tgt := 108) hx hb bz13_z (show ((-1) : Int32).toInt = (-1) by decide) h dX5_decide_101 (by decide) (fun h => ?_) (fun h => ?_)
              · refine lv_iconst (v := 1) hx hb dX5_decide_108 (by decide) ?_
                exact B109 kf41_ hkf41_ (f_Pile_decide_49 kf41_ n) hkf49_ S12_z _ _ _ x1_ v1_ hx1_ x2_ v2_ hx2_ 1 1 (show (1 : Int32).toInt = 1 by decide) j5_z hj5_z hS hM (lv_sub hl [1, 2, 3] rfl) h
              · refine lv_iconst (v := 0) hx hb dX5_decide_104 (by decide) ?_
                refine lv_goto (tgt := 109) hx hb dX5_decide_105 (by decide) ?_
                exact B109 kf41_ hkf41_ (f_Pile_decide_49 kf41_ n) hkf49_ S12_z _ _ _ x1_ v1_ hx1_ x2_ v2_ hx2_ 0 0 (show (0 : Int32).toInt = 0 by decide) j5_z hj5_z hS hM (lv_sub hl [1, 2, 3] rfl) h
  have B41 : ∀ (n : Nat), ∀ (S : SS) (H : Heap) (locs : List Loc) (ls : Array Slot) (x1_ : Int32) (v1_ : Int) (hx1_ : x1_.toInt = v1_), rng S → mS D b s 220 (jX b kc T S) H locs → lv_has ls 4 [(0, .ref (b + 10)), (1, .int x1_)] → f_Pile_decide_41 n S v1_ = some Sr → W p l e (mR 5 0 0) s m args below meth c H locs 0 0 Q (F0 m 41 ls []) := by
    intro n
    induction n with
    | zero => intro S H locs ls x1_ v1_ hx1_ hS hM hl h; exact absurd (h : none = some _) (fun q => nomatch q)
    | succ n hkf41_ =>
      intro S H locs ls x1_ v1_ hx1_ hS hM hl h
      have h : f_Pile_decide_41_b (f_Pile_decide_41 n) S v1_ = some Sr := h
      unfold f_Pile_decide_41_b at h
      refine lv_iload_n hx hb dX5_decide_41 rfl (lv_at hl 1 rfl) ?_
      refine lv_bipush (v := 9) hx hb dX5_decide_42 (by decide) ?_
      refine g_icmp_gt (tgt := 124) hx hb hx1_ (show (9 : Int32).toInt = 9 by decide) h dX5_decide_44 (by decide) (fun h => ?_) (fun h => ?_)
      · refine lv_aload_n hx hb dX5_decide_124 rfl (lv_at hl 0 rfl) ?_
        obtain ⟨S1_z, cS1_z, h⟩ := w_b1E h
        refine g_callV (J := jX b kc T) (m_runV calV_X5_listDone wd_646 (g_Pile_listDone l D kc b T S hS cS1_z) C hM (i := 10) (by omega) (e_10 b kc T S) rfl hl.1 rfl rfl (Nat.le_of_ble_eq_true rfl) dX5_decide_125 ⟨Nat.le_of_ble_eq_true rfl, Nat.le_of_ble_eq_true rfl⟩ ⟨Nat.le_of_ble_eq_true rfl, Nat.le_of_ble_eq_true rfl⟩) hM (fun H locs hM hS => ?_)
        exact ret S1_z _ _ _ _ (Option.some.inj h) hM hS dX5_decide_128
      · refine lv_iconst (v := 0) hx hb dX5_decide_47 (by decide) ?_
        refine lv_istore_n (lv' := [(2, .int 0), (0, .ref (b + 10)), (1, .int x1_)]) hx hb dX5_decide_48 rfl hl (by decide) rfl (fun ls hl => ?_)
        exact B49 (f_Pile_decide_41 n) hkf41_ FU S _ _ _ x1_ v1_ hx1_ 0 0 (show (0 : Int32).toInt = 0 by decide) hS hM (lv_sub hl [1, 2, 0] rfl) h
  have B2 : ∀ (n : Nat), ∀ (S : SS) (H : Heap) (locs : List Loc) (ls : Array Slot) (x1_ : Int32) (v1_ : Int) (hx1_ : x1_.toInt = v1_), rng S → mS D b s 220 (jX b kc T S) H locs → lv_has ls 4 [(0, .ref (b + 10)), (1, .int x1_)] → f_Pile_decide_2 n S v1_ = some Sr → W p l e (mR 5 0 0) s m args below meth c H locs 0 0 Q (F0 m 2 ls []) := by
    intro n
    induction n with
    | zero => intro S H locs ls x1_ v1_ hx1_ hS hM hl h; exact absurd (h : none = some _) (fun q => nomatch q)
    | succ n hkf2_ =>
      intro S H locs ls x1_ v1_ hx1_ hS hM hl h
      have h : f_Pile_decide_2_b (f_Pile_decide_2 n) S v1_ = some Sr := h
      unfold f_Pile_decide_2_b at h
      refine lv_iload_n hx hb dX5_decide_2 rfl (lv_at hl 1 rfl) ?_
      refine lv_aload_n hx hb dX5_decide_3 rfl (lv_at hl 0 rfl) ?_
      refine g_get fl_X5_25_X5 C hM (i := 10) (r := 10) (by omega) (e_10 b kc T S) rfl hS dX5_decide_4 (fun z1_z bz1_z => ?_)
      refine g_icmp_ge (tgt := 39) hx hb hx1_ bz1_z h dX5_decide_7 (by decide) (fun h => ?_) (fun h => ?_)
      · refine lv_iconst (v := 0) hx hb dX5_decide_39 (by decide) ?_
        refine lv_istore_n (lv' := [(1, .int 0), (0, .ref (b + 10))]) hx hb dX5_decide_40 rfl hl (by decide) rfl (fun ls hl => ?_)
        exact B41 FU S _ _ _ 0 0 (show (0 : Int32).toInt = 0 by decide) hS hM (lv_sub hl [1, 0] rfl) h
      · refine lv_aload_n hx hb dX5_decide_10 rfl (lv_at hl 0 rfl) ?_
        refine lv_iload_n hx hb dX5_decide_11 rfl (lv_at hl 1 rfl) ?_
        obtain ⟨o2_z, co2_z, h⟩ := w_b1E h
        refine g_callQ (J := jX b kc T) (m_runV calV_X5_find wd_606 (g_Pile_find l D kc b T S x1_ v1_ hx1_ hS co2_z) C hM (i := 10) (by omega) (e_10 b kc T S) rfl hl.1 rfl rfl (Nat.le_of_ble_eq_true rfl) dX5_decide_12 ⟨Nat.le_of_ble_eq_true rfl, Nat.le_of_ble_eq_true rfl⟩ ⟨Nat.le_of_ble_eq_true rfl, Nat.le_of_ble_eq_true rfl⟩) hM (fun z3_z H locs bz3_z hM hS => ?_)
        subst bz3_z
        refine lv_astore_nq (lv' := [(2, va_rf (om b o2_z)), (0, .ref (b + 10)), (1, .int x1_)]) hx hb dX5_decide_15 rfl hl (by decide) rfl (fun ls hl => ?_)
        refine lv_aload_nq hx hb dX5_decide_16 rfl (lv_at hl 0 rfl) ?_
        cases o2_z with
        | none =>
          replace h := w_onN h
          have hl : lv_has ls 4 [(2, .null), (0, .ref (b + 10)), (1, .int x1_)] := hl
          refine lv_ifnullN (tgt := 33) hx hb dX5_decide_17 (by decide) ?_
          exact B33 (f_Pile_decide_2 n) hkf2_ S _ _ _ x1_ v1_ hx1_ hS hM (lv_sub hl [1, 2] rfl) h
        | some j4_z =>
          obtain ⟨hj4_z, h⟩ := w_chkE (w_onS h)
          have hl : lv_has ls 4 [(2, .ref (b + (14 + 4 * j4_z))), (0, .ref (b + 10)), (1, .int x1_)] := hl
          refine lv_ifnull hx hb dX5_decide_17 ?_
          refine lv_aload_n hx hb dX5_decide_20 rfl (lv_at hl 0 rfl) ?_
          refine lv_iconst (v := (-1)) hx hb dX5_decide_21 (by decide) ?_
          refine g_putN fl_X5_56_X3 C hM (i := 14 + 4 * j4_z) (by omega) (e_mk b kc T S hj4_z) rfl rfl (Nat.le_of_ble_eq_true rfl) (fs1 := [.ref (b + (14 + 4 * j4_z + 1)), .ref (b + (14 + 4 * j4_z + 2)), .int (oi (gi S (14 + 4 * j4_z) 2)), .int (oi (gi S (14 + 4 * j4_z) 3)), .int (oi (gi S (14 + 4 * j4_z) 4)), .int (oi (gi S (14 + 4 * j4_z) 5)), .int (oi (gi S (14 + 4 * j4_z) 6)), .int (oi (gi S (14 + 4 * j4_z) 7)), .int (oi (gi S (14 + 4 * j4_z) 8)), .int (oi (gi S (14 + 4 * j4_z) 9)), .int (oi (gi S (14 + 4 * j4_z) 10)), .int (oi (gi S (14 + 4 * j4_z) 11)), .int (-1)]) rfl (p_mk_12 hj4_z (show ((-1) : Int32).toInt = (-1) by decide)) (rng_si hS (i32_of (show ((-1) : Int32).toInt = (-1) by decide))) h dX5_decide_22 (fun S5_z H locs h hM hS => ?_)
          refine lv_aload_n hx hb dX5_decide_25 rfl (lv_at hl 0 rfl) ?_
          refine lv_aload_n hx hb dX5_decide_26 rfl (lv_at hl 0 rfl) ?_
          refine g_callI (J := jX b kc T) (m_runV calV_X3_undecidedStatus wd_614 (g_Mark_undecidedStatus l D kc b T S5_z j4_z hj4_z hS rfl) C hM (i := 14 + 4 * j4_z) (by omega) (e_mk b kc T S5_z hj4_z) rfl hl.1 rfl rfl (Nat.le_of_ble_eq_true rfl) dX5_decide_27 ⟨Nat.le_of_ble_eq_true rfl, Nat.le_of_ble_eq_true rfl⟩ ⟨Nat.le_of_ble_eq_true rfl, Nat.le_of_ble_eq_true rfl⟩) hM (fun z6_z H locs bz6_z hM hS => ?_)
          refine g_putN fl_X5_63_X3 C hM (i := 14 + 4 * j4_z) (by omega) (e_mk b kc T S5_z hj4_z) rfl rfl (Nat.le_of_ble_eq_true rfl) (fs1 := [.ref (b + (14 + 4 * j4_z + 1)), .ref (b + (14 + 4 * j4_z + 2)), .int (oi (gi S5_z (14 + 4 * j4_z) 2)), .int (oi (gi S5_z (14 + 4 * j4_z) 3)), .int (oi (gi S5_z (14 + 4 * j4_z) 4)), .int (oi (gi S5_z (14 + 4 * j4_z) 5)), .int (oi (gi S5_z (14 + 4 * j4_z) 6)), .int (oi (gi S5_z (14 + 4 * j4_z) 7)), .int (oi (gi S5_z (14 + 4 * j4_z) 8)), .int (oi (gi S5_z (14 + 4 * j4_z) 9)), .int (oi (gi S5_z (14 + 4 * j4_z) 10)), .int z6_z, .int (oi (gi S5_z (14 + 4 * j4_z) 12))]) rfl (p_mk_11 hj4_z bz6_z) (rng_si hS (i32_of bz6_z)) h dX5_decide_30 (fun S7_z H locs h hM hS => ?_)
          exact B33 (f_Pile_decide_2 n) hkf2_ S7_z _ _ _ x1_ v1_ hx1_ hS hM (lv_sub hl [1, 2] rfl) h
  refine lv_iconst (v := 0) hx hb dX5_decide_0 (by decide) ?_
  refine lv_istore_n (lv' := [(1, .int 0), (0, .ref (b + 10))]) hx hb dX5_decide_1 rfl hl (by decide) rfl (fun ls hl => ?_)
  exact B2 FU S _ _ _ 0 0 (show (0 : Int32).toInt = 0 by decide) hS hM (lv_sub hl [1, 0] rfl) h
