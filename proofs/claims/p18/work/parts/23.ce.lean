def f_Setter_make_44 (q1 : Nat) (q2 : Nat) (S : SS) (v3_ : Int) : Option SS := w_b1 (f_Setter_setGap (f_Setter_setRow 43) S v3_ 0) (fun S1_z => some S1_z)
def f_Setter_make (S : SS) (q1 : Nat) (q2 : Nat) : Option SS := w_lt (sq S 178 3 (some q1)) (fun S1_z => w_lt (sq S1_z 178 4 (some q2)) (fun S2_z => w_on (gq S2_z 178 4) none (fun q3_z => w_chk (shOk q3_z) (w_lt (f_Sheet_clear S2_z q3_z) (fun S4_z => w_on (gq S4_z 178 3) none (fun q6_z => w_chk (shOk q6_z) ((if gi S4_z q6_z 1 ≤ 0 then f_Setter_make_44 q1 q2 S4_z (gi S4_z q6_z 1) else w_b1 (f_Setter_setGap (f_Setter_setRow 43) S4_z 0 0) (fun S8_z => w_chk (i32 ((gi S4_z q6_z 1) - 1)) (w_b1 (f_Setter_setRow 43 S8_z 0 ((gi S4_z q6_z 1) - 1) 0) (fun S11_z => f_Setter_make_44 q1 q2 S11_z (gi S4_z q6_z 1))))))))))))
set_option maxHeartbeats 4000000 in
set_option maxRecDepth 100000 in
theorem g_Setter_make (l : Launch) (D : va_G) (kc : Nat → ClassId) (b : Nat) (T S : SS) (q1 : Nat) (hq1 : shOk q1) (q2 : Nat) (hq2 : shOk q2) (hS : rng S) {Sr : SS} (h : f_Setter_make S q1 q2 = some Sr) : cV l yX7_make cX7_make 4 93 D kc b (jX b kc T) S [.ref (b + 178), .ref (b + q1), .ref (b + q2)] Sr := by
  refine g_beg_v (by decide) (Nat.le_of_ble_eq_true rfl) ?_
  intro p e s m args below meth c Q C ret hM ls hl
  obtain ⟨hx, hb, hml, hown, hts, hE, hbs⟩ := id C
  have hl : lv_has ls 4 [(0, .ref (b + 178)), (1, .ref (b + q1)), (2, .ref (b + q2))] := hl
  unfold f_Setter_make at h
  have B44 : ∀ (S : SS) (H : Heap) (locs : List Loc) (ls : Array Slot) (x3_ : Int32) (v3_ : Int) (hx3_ : x3_.toInt = v3_), rng S → mS D b s 220 (jX b kc T S) H locs → lv_has ls 4 [(0, .ref (b + 178)), (3, .int x3_)] → f_Setter_make_44 q1 q2 S v3_ = some Sr → W p l e (mR 93 0 0) s m args below meth c H locs 0 0 Q (F0 m 44 ls []) := by
    intro S H locs ls x3_ v3_ hx3_ hS hM hl h
    unfold f_Setter_make_44 at h
    refine lv_aload_n hx hb dX7_make_44 rfl (lv_at hl 0 rfl) ?_
    refine lv_iload_n hx hb dX7_make_45 rfl (lv_at hl 1 rfl) ?_
    refine lv_iconst (v := 0) hx hb dX7_make_46 (by decide) ?_
    obtain ⟨S1_z, cS1_z, h⟩ := w_b1E h
    refine g_callV (J := jX b kc T) (m_runV calV_X7_setGap wd_664 (g_Setter_setGap l D kc b T (2 * 43 + 5) (by omega) (f_Setter_setRow 43) (g_Setter_setRow l D kc b T 43) S x3_ v3_ hx3_ 0 0 (show (0 : Int32).toInt = 0 by decide) hS cS1_z) C hM (i := 178) (by omega) (e_178 b kc T S) rfl hl.1 rfl rfl (Nat.le_of_ble_eq_true rfl) dX7_make_47 ⟨Nat.le_of_ble_eq_true rfl, Nat.le_of_ble_eq_true rfl⟩ ⟨Nat.le_of_ble_eq_true rfl, Nat.le_of_ble_eq_true rfl⟩) hM (fun H locs hM hS => ?_)
    exact ret S1_z _ _ _ _ (Option.some.inj h) hM hS dX7_make_50
  refine lv_aload_n hx hb dX7_make_0 rfl (lv_at hl 0 rfl) ?_
  refine lv_aload_n hx hb dX7_make_1 rfl (lv_at hl 1 rfl) ?_
  refine g_put fl_X7_38_X7 C hM (i := 178) (by omega) (e_178 b kc T S) rfl rfl (Nat.le_of_ble_eq_true rfl) (fs1 := [.ref (b + 179), .ref (b + 180), .int (oi (gi S 178 2)), .ref (b + q1), va_rf (os b (gq S 178 4))]) rfl (p_178_3 q1) (rng_sq hS) h dX7_make_2 (fun S1_z H locs h hM hS => ?_)
  refine lv_aload_n hx hb dX7_make_5 rfl (lv_at hl 0 rfl) ?_
  refine lv_aload_n hx hb dX7_make_6 rfl (lv_at hl 2 rfl) ?_
  refine g_put fl_X7_42_X7 C hM (i := 178) (by omega) (e_178 b kc T S1_z) rfl rfl (Nat.le_of_ble_eq_true rfl) (fs1 := [.ref (b + 179), .ref (b + 180), .int (oi (gi S1_z 178 2)), va_rf (os b (gq S1_z 178 3)), .ref (b + q2)]) rfl (p_178_4 q2) (rng_sq hS) h dX7_make_7 (fun S2_z H locs h hM hS => ?_)
  refine lv_aload_n hx hb dX7_make_10 rfl (lv_at hl 0 rfl) ?_
  refine g_getqs fl_X7_42_X7 C hM (i := 178) (r := 178) (by omega) (e_178 b kc T S2_z) rfl h dX7_make_11 (fun q3_z hq3_z h => ?_)
  obtain ⟨S4_z, cS4_z, h⟩ := w_ltE h
  refine g_callV (J := jX b kc T) (m_runV calV_X8_clear wd_663 (g_Sheet_clear l D kc b T S2_z q3_z hq3_z hS cS4_z.symm) C hM (i := q3_z) (by omega) (e_sh b kc T S2_z hq3_z) rfl hl.1 rfl rfl (Nat.le_of_ble_eq_true rfl) dX7_make_14 ⟨Nat.le_of_ble_eq_true rfl, Nat.le_of_ble_eq_true rfl⟩ ⟨Nat.le_of_ble_eq_true rfl, Nat.le_of_ble_eq_true rfl⟩) hM (fun H locs hM hS => ?_)
  refine lv_aload_n hx hb dX7_make_17 rfl (lv_at hl 0 rfl) ?_
  refine g_getqs fl_X7_38_X7 C hM (i := 178) (r := 178) (by omega) (e_178 b kc T S4_z) rfl h dX7_make_18 (fun q6_z hq6_z h => ?_)
  refine g_getN fl_X7_50_X8 C hM (i := q6_z) (r := q6_z) (by omega) (e_sh b kc T S4_z hq6_z) rfl hS dX7_make_21 (fun z7_z bz7_z => ?_)
  refine lv_istore_n (lv' := [(3, .int z7_z), (0, .ref (b + 178)), (1, .ref (b + q1)), (2, .ref (b + q2))]) hx hb dX7_make_24 rfl hl (by decide) rfl (fun ls hl => ?_)
  refine lv_iload_n hx hb dX7_make_25 rfl (lv_at hl 0 rfl) ?_
  refine g_if_le (tgt := 44) hx hb bz7_z h dX7_make_26 (by decide) (fun h => ?_) (fun h => ?_)
  · exact B44 S4_z _ _ _ z7_z (gi S4_z q6_z 1) bz7_z hS hM (lv_sub hl [1, 0] rfl) h
  · refine lv_aload_n hx hb dX7_make_29 rfl (lv_at hl 1 rfl) ?_
    refine lv_iconst (v := 0) hx hb dX7_make_30 (by decide) ?_
    refine lv_iconst (v := 0) hx hb dX7_make_31 (by decide) ?_
    obtain ⟨S8_z, cS8_z, h⟩ := w_b1E h
    refine g_callV (J := jX b kc T) (m_runV calV_X7_setGap wd_664 (g_Setter_setGap l D kc b T (2 * 43 + 5) (by omega) (f_Setter_setRow 43) (g_Setter_setRow l D kc b T 43) S4_z 0 0 (show (0 : Int32).toInt = 0 by decide) 0 0 (show (0 : Int32).toInt = 0 by decide) hS cS8_z) C hM (i := 178) (by omega) (e_178 b kc T S4_z) rfl hl.1 rfl rfl (Nat.le_of_ble_eq_true rfl) dX7_make_32 ⟨Nat.le_of_ble_eq_true rfl, Nat.le_of_ble_eq_true rfl⟩ ⟨Nat.le_of_ble_eq_true rfl, Nat.le_of_ble_eq_true rfl⟩) hM (fun H locs hM hS => ?_)
    refine lv_aload_n hx hb dX7_make_35 rfl (lv_at hl 1 rfl) ?_
    refine lv_iconst (v := 0) hx hb dX7_make_36 (by decide) ?_
    refine lv_iload_n hx hb dX7_make_37 rfl (lv_at hl 0 rfl) ?_
    refine lv_iconst (v := 1) hx hb dX7_make_38 (by decide) ?_
    refine g_isub hx hb bz7_z (show (1 : Int32).toInt = 1 by decide) h dX7_make_39 (fun z10_z bz10_z h => ?_)
    refine lv_iconst (v := 0) hx hb dX7_make_40 (by decide) ?_
    obtain ⟨S11_z, cS11_z, h⟩ := w_b1E h
    refine g_callV (J := jX b kc T) (m_runV calV_X7_setRow wd_681 (g_Setter_setRow l D kc b T 43 S8_z 0 0 (show (0 : Int32).toInt = 0 by decide) z10_z ((gi S4_z q6_z 1) - 1) bz10_z 0 0 (show (0 : Int32).toInt = 0 by decide) hS _ cS11_z) C hM (i := 178) (by omega) (e_178 b kc T S8_z) rfl hl.1 rfl rfl (Nat.le_of_ble_eq_true rfl) dX7_make_41 ⟨Nat.le_of_ble_eq_true rfl, Nat.le_of_ble_eq_true rfl⟩ ⟨Nat.le_of_ble_eq_true rfl, Nat.le_of_ble_eq_true rfl⟩) hM (fun H locs hM hS => ?_)
    exact B44 S11_z _ _ _ z7_z (gi S4_z q6_z 1) bz7_z hS hM (lv_sub hl [1, 0] rfl) h

def f_MP_isOfWord_28 (S : SS) (v0 : Int) : Option Int := (if v0 ≤ 0 then some 0 else (if 128 ≤ v0 then some 0 else w_b1 (f_indexOf S 0 (toc v0)) (fun r2_z => (if r2_z < 0 then some 0 else some 1))))
def f_MP_isOfWord (S : SS) (v0 : Int) : Option Int := (if f_MP_isSmall S v0 = 0 then (if f_MP_isDigit S v0 = 0 then (if v0 < 65 then f_MP_isOfWord_28 S v0  else (if 90 < v0 then f_MP_isOfWord_28 S v0  else some 1)) else some 1) else some 1)
set_option maxHeartbeats 4000000 in
set_option maxRecDepth 100000 in
theorem g_MP_isOfWord (l : Launch) (D : va_G) (kc : Nat → ClassId) (b : Nat) (T S : SS) (x0 : Int32) (v0 : Int) (hx0 : x0.toInt = v0) (hS : rng S) {vr : Int} (h : f_MP_isOfWord S v0 = some vr) : cI l yX11_isOfWord cX11_isOfWord 1 .boolean 5 D kc b (jX b kc T) S [.int x0] vr S := by
  refine g_beg_z (by decide) (Nat.le_of_ble_eq_true rfl) ?_
  intro p e s m args below meth c Q C ret hM ls hl
  obtain ⟨hx, hb, hml, hown, hts, hE, hbs⟩ := id C
  have hl : lv_has ls 1 [(0, .int x0)] := hl
  unfold f_MP_isOfWord at h
  have B28 : ∀ (H : Heap) (locs : List Loc) (ls : Array Slot), rng S → mS D b s 220 (jX b kc T S) H locs → lv_has ls 1 [(0, .int x0)] → f_MP_isOfWord_28 S v0 = some vr → W p l e (mR 5 0 0) s m args below meth c H locs 0 0 Q (F0 m 28 ls []) := by
    intro H locs ls hS hM hl h
    unfold f_MP_isOfWord_28 at h
    refine lv_iload_n hx hb dX11_isOfWord_28 rfl (lv_at hl 0 rfl) ?_
    refine g_if_le (tgt := 53) hx hb hx0 h dX11_isOfWord_29 (by decide) (fun h => ?_) (fun h => ?_)
    · refine lv_iconst (v := 0) hx hb dX11_isOfWord_53 (by decide) ?_
      exact ret S _ _ _ _ 0 ((show (0 : Int32).toInt = 0 by decide).trans (Option.some.inj h)) (by rw [← (Option.some.inj h)]; exact (by decide)) rfl hM hS dX11_isOfWord_54
    · refine lv_iload_n hx hb dX11_isOfWord_32 rfl (lv_at hl 0 rfl) ?_
      refine lv_sipush (v := 128) hx hb dX11_isOfWord_33 (by decide) ?_
      refine g_icmp_ge (tgt := 53) hx hb hx0 (show (128 : Int32).toInt = 128 by decide) h dX11_isOfWord_36 (by decide) (fun h => ?_) (fun h => ?_)
      · refine lv_iconst (v := 0) hx hb dX11_isOfWord_53 (by decide) ?_
        exact ret S _ _ _ _ 0 ((show (0 : Int32).toInt = 0 by decide).trans (Option.some.inj h)) (by rw [← (Option.some.inj h)]; exact (by decide)) rfl hM hS dX11_isOfWord_54
      · refine g_ldcS (tx := ".,'!?;:-") (i := 0) C (by decide) dX11_isOfWord_39 ?_
        refine lv_iload_n hx hb dX11_isOfWord_41 rfl (lv_at hl 0 rfl) ?_
        refine g_i2c hx hb hx0 dX11_isOfWord_42 (fun z1_z bz1_z => ?_)
        obtain ⟨r2_z, cr2_z, h⟩ := w_b1E h
        refine g_callI (J := jX b kc T) (m_runVK calV_J0_indexOf_0f7a4 wd_490 (g_indexOf l D kc b (jX b kc T) S 0 (show 0 < 13 by decide) z1_z (toc v0) bz1_z hS cr2_z) C hM (st_O C (show 0 < 13 by decide)) hl.1 rfl rfl (Nat.le_of_ble_eq_true rfl) dX11_isOfWord_43 ⟨Nat.le_of_ble_eq_true rfl, Nat.le_of_ble_eq_true rfl⟩ ⟨Nat.le_of_ble_eq_true rfl, Nat.le_of_ble_eq_true rfl⟩) hM (fun z3_z H locs bz3_z hM hS => ?_)
        refine g_if_lt (tgt := 53) hx hb bz3_z h dX11_isOfWord_46 (by decide) (fun h => ?_) (fun h => ?_)
        · refine lv_iconst (v := 0) hx hb dX11_isOfWord_53 (by decide) ?_
          exact ret S _ _ _ _ 0 ((show (0 : Int32).toInt = 0 by decide).trans (Option.some.inj h)) (by rw [← (Option.some.inj h)]; exact (by decide)) rfl hM hS dX11_isOfWord_54
        · refine lv_iconst (v := 1) hx hb dX11_isOfWord_49 (by decide) ?_
          refine lv_goto (tgt := 54) hx hb dX11_isOfWord_50 (by decide) ?_
          exact ret S _ _ _ _ 1 ((show (1 : Int32).toInt = 1 by decide).trans (Option.some.inj h)) (by rw [← (Option.some.inj h)]; exact (by decide)) rfl hM hS dX11_isOfWord_54
  refine lv_iload_n hx hb dX11_isOfWord_0 rfl (lv_at hl 0 rfl) ?_
  refine g_callI (J := jX b kc T) (m_runS calS_X11_isSmall wd_483 (g_MP_isSmall l D kc b T S x0 v0 hx0 hS rfl) C hM hl.1 rfl rfl (Nat.le_of_ble_eq_true rfl) dX11_isOfWord_1 ⟨Nat.le_of_ble_eq_true rfl, Nat.le_of_ble_eq_true rfl⟩ ⟨Nat.le_of_ble_eq_true rfl, Nat.le_of_ble_eq_true rfl⟩) hM (fun z1_z H locs bz1_z hM hS => ?_)
  refine g_if_ne (tgt := 26) hx hb bz1_z h dX11_isOfWord_4 (by decide) (fun h => ?_) (fun h => ?_)
  · refine lv_iconst (v := 1) hx hb dX11_isOfWord_26 (by decide) ?_
    exact ret S _ _ _ _ 1 ((show (1 : Int32).toInt = 1 by decide).trans (Option.some.inj h)) (by rw [← (Option.some.inj h)]; exact (by decide)) rfl hM hS dX11_isOfWord_27
  · refine lv_iload_n hx hb dX11_isOfWord_7 rfl (lv_at hl 0 rfl) ?_
    refine g_callI (J := jX b kc T) (m_runS calS_X11_isDigit wd_486 (g_MP_isDigit l D kc b T S x0 v0 hx0 hS rfl) C hM hl.1 rfl rfl (Nat.le_of_ble_eq_true rfl) dX11_isOfWord_8 ⟨Nat.le_of_ble_eq_true rfl, Nat.le_of_ble_eq_true rfl⟩ ⟨Nat.le_of_ble_eq_true rfl, Nat.le_of_ble_eq_true rfl⟩) hM (fun z2_z H locs bz2_z hM hS => ?_)
    refine g_if_ne (tgt := 26) hx hb bz2_z h dX11_isOfWord_11 (by decide) (fun h => ?_) (fun h => ?_)
    · refine lv_iconst (v := 1) hx hb dX11_isOfWord_26 (by decide) ?_
      exact ret S _ _ _ _ 1 ((show (1 : Int32).toInt = 1 by decide).trans (Option.some.inj h)) (by rw [← (Option.some.inj h)]; exact (by decide)) rfl hM hS dX11_isOfWord_27
    · refine lv_iload_n hx hb dX11_isOfWord_14 rfl (lv_at hl 0 rfl) ?_
      refine lv_bipush (v := 65) hx hb dX11_isOfWord_15 (by decide) ?_
      refine g_icmp_lt (tgt := 28) hx hb hx0 (show (65 : Int32).toInt = 65 by decide) h dX11_isOfWord_17 (by decide) (fun h => ?_) (fun h => ?_)
      · exact B28 _ _ _ hS hM (lv_sub hl [0] rfl) h
      · refine lv_iload_n hx hb dX11_isOfWord_20 rfl (lv_at hl 0 rfl) ?_
        refine lv_bipush (v := 90) hx hb dX11_isOfWord_21 (by decide) ?_
        refine g_icmp_gt (tgt := 28) hx hb hx0 (show (90 : Int32).toInt = 90 by decide) h dX11_isOfWord_23 (by decide) (fun h => ?_) (fun h => ?_)
        · exact B28 _ _ _ hS hM (lv_sub hl [0] rfl) h
        · refine lv_iconst (v := 1) hx hb dX11_isOfWord_26 (by decide) ?_
          exact ret S _ _ _ _ 1 ((show (1 : Int32).toInt = 1 by decide).trans (Option.some.inj h)) (by rw [← (Option.some.inj h)]; exact (by decide)) rfl hM hS dX11_isOfWord_27

def f_SheetReader_readProof_77 (v2 : Int) (S : SS) (v7_ : Int) : Option (Int × SS) := w_b2 (f_Fault_tellOf S 1 v7_) (fun r2_z S1_z => w_chk (r2_z = 0 ∨ r2_z = 1) (some (r2_z, S1_z)))
def f_SheetReader_readProof_123 (v2 : Int) (kf20_ : SS → Int64 → Int → Int → Option (Int × SS)) (S : SS) (w4_ : Int64) (v6_ : Int) (v7_ : Int) : Option (Int × SS) := w_chk (i32 (v7_ + 1)) (kf20_ S w4_ v6_ (v7_ + 1))
def f_SheetReader_readProof_109 (v2 : Int) (kf20_ : SS → Int64 → Int → Int → Option (Int × SS)) (S : SS) (w4_ : Int64) (v6_ : Int) (v7_ : Int) (v8_ : Int) : Option (Int × SS) := w_chk (i32 (v6_ + 1)) (f_SheetReader_readProof_123 v2 kf20_ S ((lsh w4_ 8) ||| (i2l v8_)) (v6_ + 1) v7_)
def f_SheetReader_readProof_20_b (v2 : Int) (kf20_ : SS → Int64 → Int → Int → Option (Int × SS)) (S : SS) (w4_ : Int64) (v6_ : Int) (v7_ : Int) : Option (Int × SS) := (if gi S 1 1 ≤ v7_ then w_b1 (f_SheetReader_addWord S w4_ v6_) (fun S2_z => some (1, S2_z)) else w_b1 (f_Tape_byteAt S v7_) (fun r4_z => (if f_MP_isBlank S r4_z = 0 then w_b1 (f_MP_isOfWord S r4_z) (fun r7_z => (if r7_z = 0 then f_SheetReader_readProof_77 v2 S v7_ else (if v6_ = 8 then f_SheetReader_readProof_77 v2 S v7_ else (if v6_ = 0 then (if gi S 175 1 < v2 then f_SheetReader_readProof_109 v2 kf20_ S w4_ v6_ v7_ r4_z else w_b2 (f_Fault_tellOf S 3 v7_) (fun r11_z S10_z => w_chk (r11_z = 0 ∨ r11_z = 1) (some (r11_z, S10_z)))) else f_SheetReader_readProof_109 v2 kf20_ S w4_ v6_ v7_ r4_z)))) else w_b1 (f_SheetReader_addWord S w4_ v6_) (fun S14_z => f_SheetReader_readProof_123 v2 kf20_ S14_z 0 0 v7_))))
def f_SheetReader_readProof_20 (v2 : Int) : Nat → SS → Int64 → Int → Int → Option (Int × SS)
  | 0 => fun _ _ _ _ => none
  | n + 1 => f_SheetReader_readProof_20_b v2 (f_SheetReader_readProof_20 v2 n)
def f_SheetReader_readProof (S : SS) (v2 : Int) : Option (Int × SS) := w_lt (f_Sheet_clear S 175) (fun S1_z => w_lt (f_Fault_clear S1_z) (fun S3_z => f_SheetReader_readProof_20 v2 FU S3_z 0 0 0))
set_option maxHeartbeats 4000000 in
set_option maxRecDepth 100000 in
theorem g_SheetReader_readProof (l : Launch) (D : va_G) (kc : Nat → ClassId) (b : Nat) (T S : SS) (x2 : Int32) (v2 : Int) (hx2 : x2.toInt = v2) (hS : rng S) {vr : Int} {Sr : SS} (h : f_SheetReader_readProof S v2 = some (vr, Sr)) : cI l yX9_readProof cX9_readProof 9 .boolean 6 D kc b (jX b kc T) S [.ref (b + 174), .ref (b + 1), .int x2, .ref (b + 3)] vr Sr := by
  refine g_beg_z (by decide) (Nat.le_of_ble_eq_true rfl) ?_
  intro p e s m args below meth c Q C ret hM ls hl
  obtain ⟨hx, hb, hml, hown, hts, hE, hbs⟩ := id C
  have hl : lv_has ls 9 [(0, .ref (b + 174)), (1, .ref (b + 1)), (2, .int x2), (3, .ref (b + 3))] := hl
  unfold f_SheetReader_readProof at h
  have B77 : ∀ (S : SS) (H : Heap) (locs : List Loc) (ls : Array Slot) (x7_ : Int32) (v7_ : Int) (hx7_ : x7_.toInt = v7_), rng S → mS D b s 220 (jX b kc T S) H locs → lv_has ls 9 [(3, .ref (b + 3)), (7, .int x7_)] → f_SheetReader_readProof_77 v2 S v7_ = some (vr, Sr) → W p l e (mR 6 0 0) s m args below meth c H locs 0 0 Q (F0 m 77 ls []) := by
    intro S H locs ls x7_ v7_ hx7_ hS hM hl h
    unfold f_SheetReader_readProof_77 at h
    refine lv_aload_n hx hb dX9_readProof_77 rfl (lv_at hl 0 rfl) ?_
    refine lv_iconst (v := 1) hx hb dX9_readProof_78 (by decide) ?_
    refine lv_iload hx hb dX9_readProof_79 (lv_at hl 1 rfl) ?_
    obtain ⟨r2_z, S1_z, cr2_z, h⟩ := w_b2E h
    refine g_callI (J := jX b kc T) (m_runV calV_X1_tellOf wd_576 (g_Fault_tellOf l D kc b T S 1 1 (show (1 : Int32).toInt = 1 by decide) x7_ v7_ hx7_ hS cr2_z) C hM (i := 3) (by omega) (e_3 b kc T S) rfl hl.1 rfl rfl (Nat.le_of_ble_eq_true rfl) dX9_readProof_81 ⟨Nat.le_of_ble_eq_true rfl, Nat.le_of_ble_eq_true rfl⟩ ⟨Nat.le_of_ble_eq_true rfl, Nat.le_of_ble_eq_true rfl⟩) hM (fun z3_z H locs bz3_z hM hS => ?_)
    obtain ⟨c4_z, h⟩ := w_chkE h
    exact ret S1_z _ _ _ _ z3_z (bz3_z.trans (r_1 h)) (by rw [← (r_1 h)]; exact c4_z) (r_2 h) hM hS dX9_readProof_84
  have B123 : ∀ (kf20_ : SS → Int64 → Int → Int → Option (Int × SS)) (hkf20_ : ∀ (S : SS) (H : Heap) (locs : List Loc) (ls : Array Slot) (w4_ : Int64) (x6_ : Int32) (v6_ : Int) (hx6_ : x6_.toInt = v6_) (x7_ : Int32) (v7_ : Int) (hx7_ : x7_.toInt = v7_), rng S → mS D b s 220 (jX b kc T S) H locs → lv_has ls 9 [(0, .ref (b + 174)), (1, .ref (b + 1)), (2, .int x2), (3, .ref (b + 3)), (4, .long w4_), (6, .int x6_), (7, .int x7_)] → kf20_ S w4_ v6_ v7_ = some (vr, Sr) → W p l e (mR 6 0 0) s m args below meth c H locs 0 0 Q (F0 m 20 ls [])), ∀ (S : SS) (H : Heap) (locs : List Loc) (ls : Array Slot) (w4_ : Int64) (x6_ : Int32) (v6_ : Int) (hx6_ : x6_.toInt = v6_) (x7_ : Int32) (v7_ : Int) (hx7_ : x7_.toInt = v7_), rng S → mS D b s 220 (jX b kc T S) H locs → lv_has ls 9 [(0, .ref (b + 174)), (1, .ref (b + 1)), (2, .int x2), (3, .ref (b + 3)), (4, .long w4_), (6, .int x6_), (7, .int x7_)] → f_SheetReader_readProof_123 v2 kf20_ S w4_ v6_ v7_ = some (vr, Sr) → W p l e (mR 6 0 0) s m args below meth c H locs 0 0 Q (F0 m 123 ls []) := by
    intro kf20_ hkf20_ S H locs ls w4_ x6_ v6_ hx6_ x7_ v7_ hx7_ hS hM hl h
    unfold f_SheetReader_readProof_123 at h
    refine g_iinc (y := 1) hx hb hx7_ (by decide) (by decide) h dX9_readProof_123 hl (k := 6) rfl (by decide) (fun z1_z ls bz1_z h hl => ?_)
    have hl : lv_has ls 9 [(7, .int z1_z), (0, .ref (b + 174)), (1, .ref (b + 1)), (2, .int x2), (3, .ref (b + 3)), (4, .long w4_), (6, .int x6_)] := hl
    refine lv_goto (tgt := 20) hx hb dX9_readProof_126 (by decide) ?_
    exact hkf20_ S _ _ _ w4_ x6_ v6_ hx6_ z1_z (v7_ + 1) bz1_z hS hM (lv_sub hl [1, 2, 3, 4, 5, 6, 0] rfl) h
  have B109 : ∀ (kf20_ : SS → Int64 → Int → Int → Option (Int × SS)) (hkf20_ : ∀ (S : SS) (H : Heap) (locs : List Loc) (ls : Array Slot) (w4_ : Int64) (x6_ : Int32) (v6_ : Int) (hx6_ : x6_.toInt = v6_) (x7_ : Int32) (v7_ : Int) (hx7_ : x7_.toInt = v7_), rng S → mS D b s 220 (jX b kc T S) H locs → lv_has ls 9 [(0, .ref (b + 174)), (1, .ref (b + 1)), (2, .int x2), (3, .ref (b + 3)), (4, .long w4_), (6, .int x6_), (7, .int x7_)] → kf20_ S w4_ v6_ v7_ = some (vr, Sr) → W p l e (mR 6 0 0) s m args below meth c H locs 0 0 Q (F0 m 20 ls [])), ∀ (S : SS) (H : Heap) (locs : List Loc) (ls : Array Slot) (w4_ : Int64) (x6_ : Int32) (v6_ : Int) (hx6_ : x6_.toInt = v6_) (x7_ : Int32) (v7_ : Int) (hx7_ : x7_.toInt = v7_) (x8_ : Int32) (v8_ : Int) (hx8_ : x8_.toInt = v8_), rng S → mS D b s 220 (jX b kc T S) H locs → lv_has ls 9 [(0, .ref (b + 174)), (1, .ref (b + 1)), (2, .int x2), (3, .ref (b + 3)), (4, .long w4_), (6, .int x6_), (7, .int x7_), (8, .int x8_)] → f_SheetReader_readProof_109 v2 kf20_ S w4_ v6_ v7_ v8_ = some (vr, Sr) → W p l e (mR 6 0 0) s m args below meth c H locs 0 0 Q (F0 m 109 ls []) := by
    intro kf20_ hkf20_ S H locs ls w4_ x6_ v6_ hx6_ x7_ v7_ hx7_ x8_ v8_ hx8_ hS hM hl h
    unfold f_SheetReader_readProof_109 at h
    refine lv_lload hx hb dX9_readProof_109 (lv_at hl 4 rfl) ?_
    refine lv_bipush (v := 8) hx hb dX9_readProof_111 (by decide) ?_
    refine g_lshl (d := 8) hx hb (show (8 : Int32).toInt = 8 by decide) dX9_readProof_113 ?_
    refine lv_iload hx hb dX9_readProof_114 (lv_at hl 7 rfl) ?_
    refine g_i2l (a := v8_) hx hb hx8_ dX9_readProof_116 (fun c1_z => ?_)
    refine lv_lor hx hb dX9_readProof_117 ?_
    refine lv_lstore (lv' := [(4, .long ((lsh w4_ 8) ||| (i2l v8_))), (0, .ref (b + 174)), (1, .ref (b + 1)), (2, .int x2), (3, .ref (b + 3)), (6, .int x6_), (7, .int x7_), (8, .int x8_)]) hx hb dX9_readProof_118 hl (by decide) rfl (fun ls hl => ?_)
    refine g_iinc (y := 1) hx hb hx6_ (by decide) (by decide) h dX9_readProof_120 hl (k := 5) rfl (by decide) (fun z2_z ls bz2_z h hl => ?_)
    have hl : lv_has ls 9 [(6, .int z2_z), (4, .long ((lsh w4_ 8) ||| (i2l v8_))), (0, .ref (b + 174)), (1, .ref (b + 1)), (2, .int x2), (3, .ref (b + 3)), (7, .int x7_), (8, .int x8_)] := hl
    exact B123 kf20_ hkf20_ S _ _ _ ((lsh w4_ 8) ||| (i2l v8_)) z2_z (v6_ + 1) bz2_z x7_ v7_ hx7_ hS hM (lv_sub hl [2, 3, 4, 5, 1, 0, 6] rfl) h
  have B20 : ∀ (n : Nat), ∀ (S : SS) (H : Heap) (locs : List Loc) (ls : Array Slot) (w4_ : Int64) (x6_ : Int32) (v6_ : Int) (hx6_ : x6_.toInt = v6_) (x7_ : Int32) (v7_ : Int) (hx7_ : x7_.toInt = v7_), rng S → mS D b s 220 (jX b kc T S) H locs → lv_has ls 9 [(0, .ref (b + 174)), (1, .ref (b + 1)), (2, .int x2), (3, .ref (b + 3)), (4, .long w4_), (6, .int x6_), (7, .int x7_)] → f_SheetReader_readProof_20 v2 n S w4_ v6_ v7_ = some (vr, Sr) → W p l e (mR 6 0 0) s m args below meth c H locs 0 0 Q (F0 m 20 ls []) := by
    intro n
    induction n with
    | zero => intro S H locs ls w4_ x6_ v6_ hx6_ x7_ v7_ hx7_ hS hM hl h; exact absurd (h : none = some _) (fun q => nomatch q)
    | succ n hkf20_ =>
      intro S H locs ls w4_ x6_ v6_ hx6_ x7_ v7_ hx7_ hS hM hl h
      have h : f_SheetReader_readProof_20_b v2 (f_SheetReader_readProof_20 v2 n) S w4_ v6_ v7_ = some (vr, Sr) := h
      unfold f_SheetReader_readProof_20_b at h
      refine lv_iload hx hb dX9_readProof_20 (lv_at hl 6 rfl) ?_
      refine lv_aload_n hx hb dX9_readProof_22 rfl (lv_at hl 1 rfl) ?_
      refine g_getN fl_X9_26_X10 C hM (i := 1) (r := 1) (by omega) (e_1 b kc T S) rfl hS dX9_readProof_23 (fun z1_z bz1_z => ?_)
      refine g_icmp_ge (tgt := 129) hx hb hx7_ bz1_z h dX9_readProof_26 (by decide) (fun h => ?_) (fun h => ?_)
      · refine lv_aload_n hx hb dX9_readProof_129 rfl (lv_at hl 0 rfl) ?_
        refine lv_lload hx hb dX9_readProof_130 (lv_at hl 4 rfl) ?_
        refine lv_iload hx hb dX9_readProof_132 (lv_at hl 5 rfl) ?_
        obtain ⟨S2_z, cS2_z, h⟩ := w_b1E h
        refine g_callV (J := jX b kc T) (m_runV calV_X9_addWord wd_472 (g_SheetReader_addWord l D kc b T S w4_ x6_ v6_ hx6_ hS cS2_z) C hM (i := 174) (by omega) (e_174 b kc T S) rfl hl.1 rfl rfl (Nat.le_of_ble_eq_true rfl) dX9_readProof_134 ⟨Nat.le_of_ble_eq_true rfl, Nat.le_of_ble_eq_true rfl⟩ ⟨Nat.le_of_ble_eq_true rfl, Nat.le_of_ble_eq_true rfl⟩) hM (fun H locs hM hS => ?_)
        refine lv_iconst (v := 1) hx hb dX9_readProof_137 (by decide) ?_
        exact ret S2_z _ _ _ _ 1 ((show (1 : Int32).toInt = 1 by decide).trans (r_1 h)) (by rw [← (r_1 h)]; exact (by decide)) (r_2 h) hM hS dX9_readProof_138
      · refine lv_aload_n hx hb dX9_readProof_29 rfl (lv_at hl 1 rfl) ?_
        refine lv_iload hx hb dX9_readProof_30 (lv_at hl 6 rfl) ?_
        obtain ⟨r4_z, cr4_z, h⟩ := w_b1E h
        refine g_callI (J := jX b kc T) (m_runV calV_X10_byteAt wd_465 (g_Tape_byteAt l D kc b T S x7_ v7_ hx7_ hS cr4_z) C hM (i := 1) (by omega) (e_1 b kc T S) rfl hl.1 rfl rfl (Nat.le_of_ble_eq_true rfl) dX9_readProof_32 ⟨Nat.le_of_ble_eq_true rfl, Nat.le_of_ble_eq_true rfl⟩ ⟨Nat.le_of_ble_eq_true rfl, Nat.le_of_ble_eq_true rfl⟩) hM (fun z5_z H locs bz5_z hM hS => ?_)
        refine lv_istore (lv' := [(8, .int z5_z), (0, .ref (b + 174)), (1, .ref (b + 1)), (2, .int x2), (3, .ref (b + 3)), (4, .long w4_), (6, .int x6_), (7, .int x7_)]) hx hb dX9_readProof_35 hl (by decide) rfl (fun ls hl => ?_)
        refine lv_iload hx hb dX9_readProof_37 (lv_at hl 0 rfl) ?_
        refine g_callI (J := jX b kc T) (m_runSN calS_X11_isBlank wd_469 (g_MP_isBlank l D kc b T S z5_z r4_z bz5_z hS rfl) C hM hl.1 rfl rfl (Nat.le_of_ble_eq_true rfl) dX9_readProof_39 ⟨Nat.le_of_ble_eq_true rfl, Nat.le_of_ble_eq_true rfl⟩ ⟨Nat.le_of_ble_eq_true rfl, Nat.le_of_ble_eq_true rfl⟩) hM (fun z6_z H locs bz6_z hM hS => ?_)
        refine g_if_eq (tgt := 62) hx hb bz6_z h dX9_readProof_42 (by decide) (fun h => ?_) (fun h => ?_)
        · refine lv_iload hx hb dX9_readProof_62 (lv_at hl 0 rfl) ?_
          obtain ⟨r7_z, cr7_z, h⟩ := w_b1E h
          refine g_callI (J := jX b kc T) (m_runSN calS_X11_isOfWord wd_480 (g_MP_isOfWord l D kc b T S z5_z r4_z bz5_z hS cr7_z) C hM hl.1 rfl rfl (Nat.le_of_ble_eq_true rfl) dX9_readProof_64 ⟨Nat.le_of_ble_eq_true rfl, Nat.le_of_ble_eq_true rfl⟩ ⟨Nat.le_of_ble_eq_true rfl, Nat.le_of_ble_eq_true rfl⟩) hM (fun z8_z H locs bz8_z hM hS => ?_)
          refine g_if_eq (tgt := 77) hx hb bz8_z h dX9_readProof_67 (by decide) (fun h => ?_) (fun h => ?_)
          · exact B77 S _ _ _ x7_ v7_ hx7_ hS hM (lv_sub hl [4, 7] rfl) h
          · refine lv_iload hx hb dX9_readProof_70 (lv_at hl 6 rfl) ?_
            refine lv_bipush (v := 8) hx hb dX9_readProof_72 (by decide) ?_
            refine g_icmp_ne (tgt := 85) hx hb hx6_ (show (8 : Int32).toInt = 8 by decide) h dX9_readProof_74 (by decide) (fun h => ?_) (fun h => ?_)
            · refine lv_iload hx hb dX9_readProof_85 (lv_at hl 6 rfl) ?_
              refine g_if_ne (tgt := 109) hx hb hx6_ h dX9_readProof_87 (by decide) (fun h => ?_) (fun h => ?_)
              · exact B109 (f_SheetReader_readProof_20 v2 n) hkf20_ S _ _ _ w4_ x6_ v6_ hx6_ x7_ v7_ hx7_ z5_z r4_z bz5_z hS hM (lv_sub hl [1, 2, 3, 4, 5, 6, 7, 0] rfl) h
              · refine lv_aload_n hx hb dX9_readProof_90 rfl (lv_at hl 1 rfl) ?_
                refine m_get fl_X9_14_X9 C hM (i := 174) (by omega) (e_174 b kc T S) (v := .ref (b + 175)) rfl dX9_readProof_91 ?_
                refine g_getN fl_X9_51_X8 C hM (i := 175) (r := 175) (by omega) (e_sh b kc T S (show shOk 175 by decide)) rfl hS dX9_readProof_94 (fun z9_z bz9_z => ?_)
                refine lv_iload_n hx hb dX9_readProof_97 rfl (lv_at hl 3 rfl) ?_
                refine g_icmp_lt (tgt := 109) hx hb bz9_z hx2 h dX9_readProof_98 (by decide) (fun h => ?_) (fun h => ?_)
                · exact B109 (f_SheetReader_readProof_20 v2 n) hkf20_ S _ _ _ w4_ x6_ v6_ hx6_ x7_ v7_ hx7_ z5_z r4_z bz5_z hS hM (lv_sub hl [1, 2, 3, 4, 5, 6, 7, 0] rfl) h
                · refine lv_aload_n hx hb dX9_readProof_101 rfl (lv_at hl 4 rfl) ?_
                  refine lv_iconst (v := 3) hx hb dX9_readProof_102 (by decide) ?_
                  refine lv_iload hx hb dX9_readProof_103 (lv_at hl 7 rfl) ?_
                  obtain ⟨r11_z, S10_z, cr11_z, h⟩ := w_b2E h
                  refine g_callI (J := jX b kc T) (m_runV calV_X1_tellOf wd_576 (g_Fault_tellOf l D kc b T S 3 3 (show (3 : Int32).toInt = 3 by decide) x7_ v7_ hx7_ hS cr11_z) C hM (i := 3) (by omega) (e_3 b kc T S) rfl hl.1 rfl rfl (Nat.le_of_ble_eq_true rfl) dX9_readProof_105 ⟨Nat.le_of_ble_eq_true rfl, Nat.le_of_ble_eq_true rfl⟩ ⟨Nat.le_of_ble_eq_true rfl, Nat.le_of_ble_eq_true rfl⟩) hM (fun z12_z H locs bz12_z hM hS => ?_)
                  obtain ⟨c13_z, h⟩ := w_chkE h
                  exact ret S10_z _ _ _ _ z12_z (bz12_z.trans (r_1 h)) (by rw [← (r_1 h)]; exact c13_z) (r_2 h) hM hS dX9_readProof_108
            · exact B77 S _ _ _ x7_ v7_ hx7_ hS hM (lv_sub hl [4, 7] rfl) h
        · refine lv_aload_n hx hb dX9_readProof_45 rfl (lv_at hl 1 rfl) ?_
          refine lv_lload hx hb dX9_readProof_46 (lv_at hl 5 rfl) ?_
          refine lv_iload hx hb dX9_readProof_48 (lv_at hl 6 rfl) ?_
          obtain ⟨S14_z, cS14_z, h⟩ := w_b1E h
          refine g_callV (J := jX b kc T) (m_runV calV_X9_addWord wd_472 (g_SheetReader_addWord l D kc b T S w4_ x6_ v6_ hx6_ hS cS14_z) C hM (i := 174) (by omega) (e_174 b kc T S) rfl hl.1 rfl rfl (Nat.le_of_ble_eq_true rfl) dX9_readProof_50 ⟨Nat.le_of_ble_eq_true rfl, Nat.le_of_ble_eq_true rfl⟩ ⟨Nat.le_of_ble_eq_true rfl, Nat.le_of_ble_eq_true rfl⟩) hM (fun H locs hM hS => ?_)
          refine lv_lconst (v := 0) hx hb dX9_readProof_53 (by decide) ?_
          refine lv_lstore (lv' := [(4, .long 0), (8, .int z5_z), (0, .ref (b + 174)), (1, .ref (b + 1)), (2, .int x2), (3, .ref (b + 3)), (6, .int x6_), (7, .int x7_)]) hx hb dX9_readProof_54 hl (by decide) rfl (fun ls hl => ?_)
          refine lv_iconst (v := 0) hx hb dX9_readProof_56 (by decide) ?_
          refine lv_istore (lv' := [(6, .int 0), (4, .long 0), (8, .int z5_z), (0, .ref (b + 174)), (1, .ref (b + 1)), (2, .int x2), (3, .ref (b + 3)), (7, .int x7_)]) hx hb dX9_readProof_57 hl (by decide) rfl (fun ls hl => ?_)
          refine lv_goto (tgt := 123) hx hb dX9_readProof_59 (by decide) ?_
          exact B123 (f_SheetReader_readProof_20 v2 n) hkf20_ S14_z _ _ _ 0 0 0 (show (0 : Int32).toInt = 0 by decide) x7_ v7_ hx7_ hS hM (lv_sub hl [3, 4, 5, 6, 1, 0, 7] rfl) h
  refine lv_aload_n hx hb dX9_readProof_0 rfl (lv_at hl 0 rfl) ?_
  refine m_get fl_X9_14_X9 C hM (i := 174) (by omega) (e_174 b kc T S) (v := .ref (b + 175)) rfl dX9_readProof_1 ?_
  obtain ⟨S1_z, cS1_z, h⟩ := w_ltE h
  refine g_callV (J := jX b kc T) (m_runV calV_X8_clear wd_457 (g_Sheet_clear l D kc b T S 175 (show shOk 175 by decide) hS cS1_z.symm) C hM (i := 175) (by omega) (e_sh b kc T S (show shOk 175 by decide)) rfl hl.1 rfl rfl (Nat.le_of_ble_eq_true rfl) dX9_readProof_4 ⟨Nat.le_of_ble_eq_true rfl, Nat.le_of_ble_eq_true rfl⟩ ⟨Nat.le_of_ble_eq_true rfl, Nat.le_of_ble_eq_true rfl⟩) hM (fun H locs hM hS => ?_)
  refine lv_aload_n hx hb dX9_readProof_7 rfl (lv_at hl 3 rfl) ?_
  obtain ⟨S3_z, cS3_z, h⟩ := w_ltE h
  refine g_callV (J := jX b kc T) (m_runV calV_X1_clear wd_461 (g_Fault_clear l D kc b T S1_z hS cS3_z.symm) C hM (i := 3) (by omega) (e_3 b kc T S1_z) rfl hl.1 rfl rfl (Nat.le_of_ble_eq_true rfl) dX9_readProof_8 ⟨Nat.le_of_ble_eq_true rfl, Nat.le_of_ble_eq_true rfl⟩ ⟨Nat.le_of_ble_eq_true rfl, Nat.le_of_ble_eq_true rfl⟩) hM (fun H locs hM hS => ?_)
  refine lv_lconst (v := 0) hx hb dX9_readProof_11 (by decide) ?_
  refine lv_lstore (lv' := [(4, .long 0), (0, .ref (b + 174)), (1, .ref (b + 1)), (2, .int x2), (3, .ref (b + 3))]) hx hb dX9_readProof_12 hl (by decide) rfl (fun ls hl => ?_)
  refine lv_iconst (v := 0) hx hb dX9_readProof_14 (by decide) ?_
  refine lv_istore (lv' := [(6, .int 0), (4, .long 0), (0, .ref (b + 174)), (1, .ref (b + 1)), (2, .int x2), (3, .ref (b + 3))]) hx hb dX9_readProof_15 hl (by decide) rfl (fun ls hl => ?_)
  refine lv_iconst (v := 0) hx hb dX9_readProof_17 (by decide) ?_
  refine lv_istore (lv' := [(7, .int 0), (6, .int 0), (4, .long 0), (0, .ref (b + 174)), (1, .ref (b + 1)), (2, .int x2), (3, .ref (b + 3))]) hx hb dX9_readProof_18 hl (by decide) rfl (fun ls hl => ?_)
  exact B20 FU S3_z _ _ _ 0 0 0 (show (0 : Int32).toInt = 0 by decide) 0 0 (show (0 : Int32).toInt = 0 by decide) hS hM (lv_sub hl [3, 4, 5, 6, 2, 1, 0] rfl) h

def f_MarkReader_isToken_20_b (S : SS) (i1 : Nat) (kf20_ : Int → Option Int) (v2_ : Int) : Option Int := (if f_length S i1 ≤ v2_ then some 1 else w_chk (gq S 177 0 = some 1) (w_chk (i32 ((gi S 177 5) + v2_)) (w_b1 (f_Tape_byteAt S ((gi S 177 5) + v2_)) (fun r4_z => w_b1 (f_charAt S i1 v2_) (fun r6_z => (if r4_z = r6_z then w_chk (i32 (v2_ + 1)) (kf20_ (v2_ + 1)) else some 0))))))
def f_MarkReader_isToken_20 (S : SS) (i1 : Nat) : Nat → Int → Option Int
  | 0 => fun _ => none
  | n + 1 => f_MarkReader_isToken_20_b S i1 (f_MarkReader_isToken_20 S i1 n)
def f_MarkReader_isToken (S : SS) (i1 : Nat) : Option Int := w_chk (i32 ((gi S 177 4) - (gi S 177 5))) ((if (gi S 177 4) - (gi S 177 5) = f_length S i1 then f_MarkReader_isToken_20 S i1 FU 0 else some 0))
set_option maxHeartbeats 4000000 in
set_option maxRecDepth 100000 in
theorem g_MarkReader_isToken (l : Launch) (D : va_G) (kc : Nat → ClassId) (b : Nat) (T S : SS) (i1 : Nat) (hi1 : i1 < 13) (hS : rng S) {vr : Int} (h : f_MarkReader_isToken S i1 = some vr) : cI l yX4_isToken cX4_isToken 3 .boolean 5 D kc b (jX b kc T) S [.ref (b + 177), .ref (kc (100 + i1))] vr S := by
  refine g_beg_z (by decide) (Nat.le_of_ble_eq_true rfl) ?_
  intro p e s m args below meth c Q C ret hM ls hl
  obtain ⟨hx, hb, hml, hown, hts, hE, hbs⟩ := id C
  have hl : lv_has ls 3 [(0, .ref (b + 177)), (1, .ref (kc (100 + i1)))] := hl
  unfold f_MarkReader_isToken at h
  have B20 : ∀ (n : Nat), ∀ (H : Heap) (locs : List Loc) (ls : Array Slot) (x2_ : Int32) (v2_ : Int) (hx2_ : x2_.toInt = v2_), rng S → mS D b s 220 (jX b kc T S) H locs → lv_has ls 3 [(0, .ref (b + 177)), (1, .ref (kc (100 + i1))), (2, .int x2_)] → f_MarkReader_isToken_20 S i1 n v2_ = some vr → W p l e (mR 5 0 0) s m args below meth c H locs 0 0 Q (F0 m 20 ls []) := by
    intro n
    induction n with
    | zero => intro H locs ls x2_ v2_ hx2_ hS hM hl h; exact absurd (h : none = some _) (fun q => nomatch q)
    | succ n hkf20_ =>
      intro H locs ls x2_ v2_ hx2_ hS hM hl h
      have h : f_MarkReader_isToken_20_b S i1 (f_MarkReader_isToken_20 S i1 n) v2_ = some vr := h
      unfold f_MarkReader_isToken_20_b at h
      refine lv_iload_n hx hb dX4_isToken_20 rfl (lv_at hl 2 rfl) ?_
      refine lv_aload_n hx hb dX4_isToken_21 rfl (lv_at hl 1 rfl) ?_
      refine g_callI (J := jX b kc T) (m_runVK calV_J0_length_8abf5 wd_737 (g_length l D kc b (jX b kc T) S i1 hi1 hS rfl) C hM (st_O C hi1) hl.1 rfl rfl (Nat.le_of_ble_eq_true rfl) dX4_isToken_22 ⟨Nat.le_of_ble_eq_true rfl, Nat.le_of_ble_eq_true rfl⟩ ⟨Nat.le_of_ble_eq_true rfl, Nat.le_of_ble_eq_true rfl⟩) hM (fun z1_z H locs bz1_z hM hS => ?_)
      refine g_icmp_ge (tgt := 57) hx hb hx2_ bz1_z h dX4_isToken_25 (by decide) (fun h => ?_) (fun h => ?_)
      · refine lv_iconst (v := 1) hx hb dX4_isToken_57 (by decide) ?_
        exact ret S _ _ _ _ 1 ((show (1 : Int32).toInt = 1 by decide).trans (Option.some.inj h)) (by rw [← (Option.some.inj h)]; exact (by decide)) rfl hM hS dX4_isToken_58
      · refine lv_aload_n hx hb dX4_isToken_28 rfl (lv_at hl 0 rfl) ?_
        refine g_getqf fl_X4_9_X4 C hM (i := 177) (r := 177) (by omega) (e_177 b kc T S) rfl h dX4_isToken_29 (fun h => ?_)
        refine lv_aload_n hx hb dX4_isToken_32 rfl (lv_at hl 0 rfl) ?_
        refine g_get fl_X4_43_X4 C hM (i := 177) (r := 177) (by omega) (e_177 b kc T S) rfl hS dX4_isToken_33 (fun z2_z bz2_z => ?_)
        refine lv_iload_n hx hb dX4_isToken_36 rfl (lv_at hl 2 rfl) ?_
        refine g_iadd hx hb bz2_z hx2_ h dX4_isToken_37 (fun z3_z bz3_z h => ?_)
        obtain ⟨r4_z, cr4_z, h⟩ := w_b1E h
        refine g_callI (J := jX b kc T) (m_runV calV_X10_byteAt wd_717 (g_Tape_byteAt l D kc b T S z3_z ((gi S 177 5) + v2_) bz3_z hS cr4_z) C hM (i := 1) (by omega) (e_1 b kc T S) rfl hl.1 rfl rfl (Nat.le_of_ble_eq_true rfl) dX4_isToken_38 ⟨Nat.le_of_ble_eq_true rfl, Nat.le_of_ble_eq_true rfl⟩ ⟨Nat.le_of_ble_eq_true rfl, Nat.le_of_ble_eq_true rfl⟩) hM (fun z5_z H locs bz5_z hM hS => ?_)
        refine lv_aload_n hx hb dX4_isToken_41 rfl (lv_at hl 1 rfl) ?_
        refine lv_iload_n hx hb dX4_isToken_42 rfl (lv_at hl 2 rfl) ?_
        obtain ⟨r6_z, cr6_z, h⟩ := w_b1E h
        refine g_callI (J := jX b kc T) (m_runVK calV_J0_charAt_5068e wd_738 (g_charAt l D kc b (jX b kc T) S i1 hi1 x2_ v2_ hx2_ hS cr6_z) C hM (st_O C hi1) hl.1 rfl rfl (Nat.le_of_ble_eq_true rfl) dX4_isToken_43 ⟨Nat.le_of_ble_eq_true rfl, Nat.le_of_ble_eq_true rfl⟩ ⟨Nat.le_of_ble_eq_true rfl, Nat.le_of_ble_eq_true rfl⟩) hM (fun z7_z H locs bz7_z hM hS => ?_)
        refine g_icmp_eq (tgt := 51) hx hb bz5_z bz7_z h dX4_isToken_46 (by decide) (fun h => ?_) (fun h => ?_)
        · refine g_iinc (y := 1) hx hb hx2_ (by decide) (by decide) h dX4_isToken_51 hl (k := 2) rfl (by decide) (fun z8_z ls bz8_z h hl => ?_)
          have hl : lv_has ls 3 [(2, .int z8_z), (0, .ref (b + 177)), (1, .ref (kc (100 + i1)))] := hl
          refine lv_goto (tgt := 20) hx hb dX4_isToken_54 (by decide) ?_
          exact hkf20_ _ _ _ z8_z (v2_ + 1) bz8_z hS hM (lv_sub hl [1, 2, 0] rfl) h
        · refine lv_iconst (v := 0) hx hb dX4_isToken_49 (by decide) ?_
          exact ret S _ _ _ _ 0 ((show (0 : Int32).toInt = 0 by decide).trans (Option.some.inj h)) (by rw [← (Option.some.inj h)]; exact (by decide)) rfl hM hS dX4_isToken_50
  refine lv_aload_n hx hb dX4_isToken_0 rfl (lv_at hl 0 rfl) ?_
  refine g_get fl_X4_27_X4 C hM (i := 177) (r := 177) (by omega) (e_177 b kc T S) rfl hS dX4_isToken_1 (fun z1_z bz1_z => ?_)
  refine lv_aload_n hx hb dX4_isToken_4 rfl (lv_at hl 0 rfl) ?_
  refine g_get fl_X4_43_X4 C hM (i := 177) (r := 177) (by omega) (e_177 b kc T S) rfl hS dX4_isToken_5 (fun z2_z bz2_z => ?_)
  refine g_isub hx hb bz1_z bz2_z h dX4_isToken_8 (fun z3_z bz3_z h => ?_)
  refine lv_aload_n hx hb dX4_isToken_9 rfl (lv_at hl 1 rfl) ?_
  refine g_callI (J := jX b kc T) (m_runVK calV_J0_length_8abf5 wd_737 (g_length l D kc b (jX b kc T) S i1 hi1 hS rfl) C hM (st_O C hi1) hl.1 rfl rfl (Nat.le_of_ble_eq_true rfl) dX4_isToken_10 ⟨Nat.le_of_ble_eq_true rfl, Nat.le_of_ble_eq_true rfl⟩ ⟨Nat.le_of_ble_eq_true rfl, Nat.le_of_ble_eq_true rfl⟩) hM (fun z4_z H locs bz4_z hM hS => ?_)
  refine g_icmp_eq (tgt := 18) hx hb bz3_z bz4_z h dX4_isToken_13 (by decide) (fun h => ?_) (fun h => ?_)
  · refine lv_iconst (v := 0) hx hb dX4_isToken_18 (by decide) ?_
    refine lv_istore_n (lv' := [(2, .int 0), (0, .ref (b + 177)), (1, .ref (kc (100 + i1)))]) hx hb dX4_isToken_19 rfl hl (by decide) rfl (fun ls hl => ?_)
    exact B20 FU _ _ _ 0 0 (show (0 : Int32).toInt = 0 by decide) hS hM (lv_sub hl [1, 2, 0] rfl) h
  · refine lv_iconst (v := 0) hx hb dX4_isToken_16 (by decide) ?_
    exact ret S _ _ _ _ 0 ((show (0 : Int32).toInt = 0 by decide).trans (Option.some.inj h)) (by rw [← (Option.some.inj h)]; exact (by decide)) rfl hM hS dX4_isToken_17

def f_MarkReader_handNamed (S : SS) : Option Int := w_b1 (f_MarkReader_isToken S 1) (fun r1_z => (if r1_z = 0 then w_b1 (f_MarkReader_isToken S 2) (fun r3_z => (if r3_z = 0 then w_b1 (f_MarkReader_isToken S 3) (fun r5_z => (if r5_z = 0 then some (-1) else some 2)) else some 1)) else some 0))
set_option maxHeartbeats 4000000 in
set_option maxRecDepth 100000 in
theorem g_MarkReader_handNamed (l : Launch) (D : va_G) (kc : Nat → ClassId) (b : Nat) (T S : SS) (hS : rng S) {vr : Int} (h : f_MarkReader_handNamed S = some vr) : cI l yX4_handNamed cX4_handNamed 1 .int 6 D kc b (jX b kc T) S [.ref (b + 177)] vr S := by
  refine g_beg_i (by decide) (Nat.le_of_ble_eq_true rfl) ?_
  intro p e s m args below meth c Q C ret hM ls hl
  obtain ⟨hx, hb, hml, hown, hts, hE, hbs⟩ := id C
  have hl : lv_has ls 1 [(0, .ref (b + 177))] := hl
  unfold f_MarkReader_handNamed at h
  refine lv_aload_n hx hb dX4_handNamed_0 rfl (lv_at hl 0 rfl) ?_
  refine g_ldcS (tx := "author") (i := 1) C (by decide) dX4_handNamed_1 ?_
  obtain ⟨r1_z, cr1_z, h⟩ := w_b1E h
  refine g_callI (J := jX b kc T) (m_runV calV_X4_isToken wd_733 (g_MarkReader_isToken l D kc b T S 1 (show 1 < 13 by decide) hS cr1_z) C hM (i := 177) (by omega) (e_177 b kc T S) rfl hl.1 rfl rfl (Nat.le_of_ble_eq_true rfl) dX4_handNamed_3 ⟨Nat.le_of_ble_eq_true rfl, Nat.le_of_ble_eq_true rfl⟩ ⟨Nat.le_of_ble_eq_true rfl, Nat.le_of_ble_eq_true rfl⟩) hM (fun z2_z H locs bz2_z hM hS => ?_)
  refine g_if_eq (tgt := 11) hx hb bz2_z h dX4_handNamed_6 (by decide) (fun h => ?_) (fun h => ?_)
  · refine lv_aload_n hx hb dX4_handNamed_11 rfl (lv_at hl 0 rfl) ?_
    refine g_ldcS (tx := "reader") (i := 2) C (by decide) dX4_handNamed_12 ?_
    obtain ⟨r3_z, cr3_z, h⟩ := w_b1E h
    refine g_callI (J := jX b kc T) (m_runV calV_X4_isToken wd_733 (g_MarkReader_isToken l D kc b T S 2 (show 2 < 13 by decide) hS cr3_z) C hM (i := 177) (by omega) (e_177 b kc T S) rfl hl.1 rfl rfl (Nat.le_of_ble_eq_true rfl) dX4_handNamed_14 ⟨Nat.le_of_ble_eq_true rfl, Nat.le_of_ble_eq_true rfl⟩ ⟨Nat.le_of_ble_eq_true rfl, Nat.le_of_ble_eq_true rfl⟩) hM (fun z4_z H locs bz4_z hM hS => ?_)
    refine g_if_eq (tgt := 22) hx hb bz4_z h dX4_handNamed_17 (by decide) (fun h => ?_) (fun h => ?_)
    · refine lv_aload_n hx hb dX4_handNamed_22 rfl (lv_at hl 0 rfl) ?_
      refine g_ldcS (tx := "printer") (i := 3) C (by decide) dX4_handNamed_23 ?_
      obtain ⟨r5_z, cr5_z, h⟩ := w_b1E h
      refine g_callI (J := jX b kc T) (m_runV calV_X4_isToken wd_733 (g_MarkReader_isToken l D kc b T S 3 (show 3 < 13 by decide) hS cr5_z) C hM (i := 177) (by omega) (e_177 b kc T S) rfl hl.1 rfl rfl (Nat.le_of_ble_eq_true rfl) dX4_handNamed_25 ⟨Nat.le_of_ble_eq_true rfl, Nat.le_of_ble_eq_true rfl⟩ ⟨Nat.le_of_ble_eq_true rfl, Nat.le_of_ble_eq_true rfl⟩) hM (fun z6_z H locs bz6_z hM hS => ?_)
      refine g_if_eq (tgt := 35) hx hb bz6_z h dX4_handNamed_28 (by decide) (fun h => ?_) (fun h => ?_)
      · refine lv_iconst (v := (-1)) hx hb dX4_handNamed_35 (by decide) ?_
        exact ret S _ _ _ _ (-1) ((show ((-1) : Int32).toInt = (-1) by decide).trans (Option.some.inj h)) rfl hM hS dX4_handNamed_36
      · refine lv_iconst (v := 2) hx hb dX4_handNamed_31 (by decide) ?_
        refine lv_goto (tgt := 36) hx hb dX4_handNamed_32 (by decide) ?_
        exact ret S _ _ _ _ 2 ((show (2 : Int32).toInt = 2 by decide).trans (Option.some.inj h)) rfl hM hS dX4_handNamed_36
    · refine lv_iconst (v := 1) hx hb dX4_handNamed_20 (by decide) ?_
      exact ret S _ _ _ _ 1 ((show (1 : Int32).toInt = 1 by decide).trans (Option.some.inj h)) rfl hM hS dX4_handNamed_21
  · refine lv_iconst (v := 0) hx hb dX4_handNamed_9 (by decide) ?_
    exact ret S _ _ _ _ 0 ((show (0 : Int32).toInt = 0 by decide).trans (Option.some.inj h)) rfl hM hS dX4_handNamed_10

def f_MarkReader_kindNamed (S : SS) : Option Int := w_b1 (f_MarkReader_isToken S 5) (fun r1_z => (if r1_z = 0 then w_b1 (f_MarkReader_isToken S 6) (fun r3_z => (if r3_z = 0 then w_b1 (f_MarkReader_isToken S 7) (fun r5_z => (if r5_z = 0 then w_b1 (f_MarkReader_isToken S 8) (fun r7_z => (if r7_z = 0 then w_b1 (f_MarkReader_isToken S 9) (fun r9_z => (if r9_z = 0 then w_b1 (f_MarkReader_isToken S 10) (fun r11_z => (if r11_z = 0 then some (-1) else some 5)) else some 4)) else some 3)) else some 2)) else some 1)) else some 0))
set_option maxHeartbeats 4000000 in
set_option maxRecDepth 100000 in
theorem g_MarkReader_kindNamed (l : Launch) (D : va_G) (kc : Nat → ClassId) (b : Nat) (T S : SS) (hS : rng S) {vr : Int} (h : f_MarkReader_kindNamed S = some vr) : cI l yX4_kindNamed cX4_kindNamed 1 .int 6 D kc b (jX b kc T) S [.ref (b + 177)] vr S := by
  refine g_beg_i (by decide) (Nat.le_of_ble_eq_true rfl) ?_
  intro p e s m args below meth c Q C ret hM ls hl
  obtain ⟨hx, hb, hml, hown, hts, hE, hbs⟩ := id C
  have hl : lv_has ls 1 [(0, .ref (b + 177))] := hl
  unfold f_MarkReader_kindNamed at h
  refine lv_aload_n hx hb dX4_kindNamed_0 rfl (lv_at hl 0 rfl) ?_
  refine g_ldcS (tx := "strike") (i := 5) C (by decide) dX4_kindNamed_1 ?_
  obtain ⟨r1_z, cr1_z, h⟩ := w_b1E h
  refine g_callI (J := jX b kc T) (m_runV calV_X4_isToken wd_733 (g_MarkReader_isToken l D kc b T S 5 (show 5 < 13 by decide) hS cr1_z) C hM (i := 177) (by omega) (e_177 b kc T S) rfl hl.1 rfl rfl (Nat.le_of_ble_eq_true rfl) dX4_kindNamed_3 ⟨Nat.le_of_ble_eq_true rfl, Nat.le_of_ble_eq_true rfl⟩ ⟨Nat.le_of_ble_eq_true rfl, Nat.le_of_ble_eq_true rfl⟩) hM (fun z2_z H locs bz2_z hM hS => ?_)
  refine g_if_eq (tgt := 11) hx hb bz2_z h dX4_kindNamed_6 (by decide) (fun h => ?_) (fun h => ?_)
  · refine lv_aload_n hx hb dX4_kindNamed_11 rfl (lv_at hl 0 rfl) ?_
    refine g_ldcS (tx := "put") (i := 6) C (by decide) dX4_kindNamed_12 ?_
    obtain ⟨r3_z, cr3_z, h⟩ := w_b1E h
    refine g_callI (J := jX b kc T) (m_runV calV_X4_isToken wd_733 (g_MarkReader_isToken l D kc b T S 6 (show 6 < 13 by decide) hS cr3_z) C hM (i := 177) (by omega) (e_177 b kc T S) rfl hl.1 rfl rfl (Nat.le_of_ble_eq_true rfl) dX4_kindNamed_14 ⟨Nat.le_of_ble_eq_true rfl, Nat.le_of_ble_eq_true rfl⟩ ⟨Nat.le_of_ble_eq_true rfl, Nat.le_of_ble_eq_true rfl⟩) hM (fun z4_z H locs bz4_z hM hS => ?_)
    refine g_if_eq (tgt := 22) hx hb bz4_z h dX4_kindNamed_17 (by decide) (fun h => ?_) (fun h => ?_)
    · refine lv_aload_n hx hb dX4_kindNamed_22 rfl (lv_at hl 0 rfl) ?_
      refine g_ldcS (tx := "change") (i := 7) C (by decide) dX4_kindNamed_23 ?_
      obtain ⟨r5_z, cr5_z, h⟩ := w_b1E h
      refine g_callI (J := jX b kc T) (m_runV calV_X4_isToken wd_733 (g_MarkReader_isToken l D kc b T S 7 (show 7 < 13 by decide) hS cr5_z) C hM (i := 177) (by omega) (e_177 b kc T S) rfl hl.1 rfl rfl (Nat.le_of_ble_eq_true rfl) dX4_kindNamed_25 ⟨Nat.le_of_ble_eq_true rfl, Nat.le_of_ble_eq_true rfl⟩ ⟨Nat.le_of_ble_eq_true rfl, Nat.le_of_ble_eq_true rfl⟩) hM (fun z6_z H locs bz6_z hM hS => ?_)
      refine g_if_eq (tgt := 33) hx hb bz6_z h dX4_kindNamed_28 (by decide) (fun h => ?_) (fun h => ?_)
      · refine lv_aload_n hx hb dX4_kindNamed_33 rfl (lv_at hl 0 rfl) ?_
        refine g_ldcS (tx := "turn") (i := 8) C (by decide) dX4_kindNamed_34 ?_
        obtain ⟨r7_z, cr7_z, h⟩ := w_b1E h
        refine g_callI (J := jX b kc T) (m_runV calV_X4_isToken wd_733 (g_MarkReader_isToken l D kc b T S 8 (show 8 < 13 by decide) hS cr7_z) C hM (i := 177) (by omega) (e_177 b kc T S) rfl hl.1 rfl rfl (Nat.le_of_ble_eq_true rfl) dX4_kindNamed_36 ⟨Nat.le_of_ble_eq_true rfl, Nat.le_of_ble_eq_true rfl⟩ ⟨Nat.le_of_ble_eq_true rfl, Nat.le_of_ble_eq_true rfl⟩) hM (fun z8_z H locs bz8_z hM hS => ?_)
        refine g_if_eq (tgt := 44) hx hb bz8_z h dX4_kindNamed_39 (by decide) (fun h => ?_) (fun h => ?_)
        · refine lv_aload_n hx hb dX4_kindNamed_44 rfl (lv_at hl 0 rfl) ?_
          refine g_ldcS (tx := "move") (i := 9) C (by decide) dX4_kindNamed_45 ?_
          obtain ⟨r9_z, cr9_z, h⟩ := w_b1E h
          refine g_callI (J := jX b kc T) (m_runV calV_X4_isToken wd_733 (g_MarkReader_isToken l D kc b T S 9 (show 9 < 13 by decide) hS cr9_z) C hM (i := 177) (by omega) (e_177 b kc T S) rfl hl.1 rfl rfl (Nat.le_of_ble_eq_true rfl) dX4_kindNamed_47 ⟨Nat.le_of_ble_eq_true rfl, Nat.le_of_ble_eq_true rfl⟩ ⟨Nat.le_of_ble_eq_true rfl, Nat.le_of_ble_eq_true rfl⟩) hM (fun z10_z H locs bz10_z hM hS => ?_)
          refine g_if_eq (tgt := 55) hx hb bz10_z h dX4_kindNamed_50 (by decide) (fun h => ?_) (fun h => ?_)
          · refine lv_aload_n hx hb dX4_kindNamed_55 rfl (lv_at hl 0 rfl) ?_
            refine g_ldcS (tx := "stet") (i := 10) C (by decide) dX4_kindNamed_56 ?_
            obtain ⟨r11_z, cr11_z, h⟩ := w_b1E h
            refine g_callI (J := jX b kc T) (m_runV calV_X4_isToken wd_733 (g_MarkReader_isToken l D kc b T S 10 (show 10 < 13 by decide) hS cr11_z) C hM (i := 177) (by omega) (e_177 b kc T S) rfl hl.1 rfl rfl (Nat.le_of_ble_eq_true rfl) dX4_kindNamed_58 ⟨Nat.le_of_ble_eq_true rfl, Nat.le_of_ble_eq_true rfl⟩ ⟨Nat.le_of_ble_eq_true rfl, Nat.le_of_ble_eq_true rfl⟩) hM (fun z12_z H locs bz12_z hM hS => ?_)
            refine g_if_eq (tgt := 68) hx hb bz12_z h dX4_kindNamed_61 (by decide) (fun h => ?_) (fun h => ?_)
            · refine lv_iconst (v := (-1)) hx hb dX4_kindNamed_68 (by decide) ?_
              exact ret S _ _ _ _ (-1) ((show ((-1) : Int32).toInt = (-1) by decide).trans (Option.some.inj h)) rfl hM hS dX4_kindNamed_69
            · refine lv_iconst (v := 5) hx hb dX4_kindNamed_64 (by decide) ?_
              refine lv_goto (tgt := 69) hx hb dX4_kindNamed_65 (by decide) ?_
              exact ret S _ _ _ _ 5 ((show (5 : Int32).toInt = 5 by decide).trans (Option.some.inj h)) rfl hM hS dX4_kindNamed_69
          · refine lv_iconst (v := 4) hx hb dX4_kindNamed_53 (by decide) ?_
            exact ret S _ _ _ _ 4 ((show (4 : Int32).toInt = 4 by decide).trans (Option.some.inj h)) rfl hM hS dX4_kindNamed_54
        · refine lv_iconst (v := 3) hx hb dX4_kindNamed_42 (by decide) ?_
          exact ret S _ _ _ _ 3 ((show (3 : Int32).toInt = 3 by decide).trans (Option.some.inj h)) rfl hM hS dX4_kindNamed_43
      · refine lv_iconst (v := 2) hx hb dX4_kindNamed_31 (by decide) ?_
        exact ret S _ _ _ _ 2 ((show (2 : Int32).toInt = 2 by decide).trans (Option.some.inj h)) rfl hM hS dX4_kindNamed_32
    · refine lv_iconst (v := 1) hx hb dX4_kindNamed_20 (by decide) ?_
      exact ret S _ _ _ _ 1 ((show (1 : Int32).toInt = 1 by decide).trans (Option.some.inj h)) rfl hM hS dX4_kindNamed_21
  · refine lv_iconst (v := 0) hx hb dX4_kindNamed_9 (by decide) ?_
    exact ret S _ _ _ _ 0 ((show (0 : Int32).toInt = 0 by decide).trans (Option.some.inj h)) rfl hM hS dX4_kindNamed_10

def f_MarkReader_readNumbers_63 (j1 : Nat) (S : SS) : Option (Int × SS) := w_b2 (f_MarkReader_refuse S 1) (fun r2_z S1_z => w_chk (r2_z = 0 ∨ r2_z = 1) (some (r2_z, S1_z)))
def f_MarkReader_readNumbers_33_b (j1 : Nat) (kf33_ : SS → Int → Int → Option (Int × SS)) (S : SS) (v2_ : Int) (v3_ : Int) : Option (Int × SS) := (if v2_ ≤ v3_ then some (1, S) else w_b1 (f_MarkReader_readToken S) (fun S1_z => (if gi S1_z 177 6 = 2 then w_chk (i32 ((gi S1_z 177 4) - (gi S1_z 177 5))) ((if (gi S1_z 177 4) - (gi S1_z 177 5) ≤ 3 then w_b1 (f_MarkReader_numberRead S1_z) (fun r7_z => w_b1 (f_Mark_setNumber S1_z j1 v3_ r7_z) (fun S9_z => w_b1 (f_MarkReader_mayBegin S9_z j1 v3_) (fun r11_z => (if r11_z = 0 then w_b2 (f_MarkReader_refuse S9_z 2) (fun r15_z S14_z => w_chk (r15_z = 0 ∨ r15_z = 1) (some (r15_z, S14_z))) else w_chk (i32 (v3_ + 1)) (kf33_ S9_z v2_ (v3_ + 1)))))) else f_MarkReader_readNumbers_63 j1 S1_z )) else f_MarkReader_readNumbers_63 j1 S1_z )))
def f_MarkReader_readNumbers_33 (j1 : Nat) : Nat → SS → Int → Int → Option (Int × SS)
  | 0 => fun _ _ _ => none
  | n + 1 => f_MarkReader_readNumbers_33_b j1 (f_MarkReader_readNumbers_33 j1 n)
def f_MarkReader_readNumbers_30 (j1 : Nat) (S : SS) (vt0_ : Int) : Option (Int × SS) := f_MarkReader_readNumbers_33 j1 FU S vt0_ 0
def f_MarkReader_readNumbers_18 (j1 : Nat) (S : SS) : Option (Int × SS) := f_MarkReader_readNumbers_30 j1 S 0
def f_MarkReader_readNumbers (S : SS) (j1 : Nat) : Option (Int × SS) := (if gi S (14 + 4 * j1) 2 < 0 then f_MarkReader_readNumbers_18 j1 S  else (if gi S (14 + 4 * j1) 2 < 6 then w_chk (0 ≤ (gi S (14 + 4 * j1) 2) ∧ (gi S (14 + 4 * j1) 2) < 6) (f_MarkReader_readNumbers_30 j1 S (num6 (gi S (14 + 4 * j1) 2).toNat)) else f_MarkReader_readNumbers_18 j1 S ))
set_option maxHeartbeats 4000000 in
set_option maxRecDepth 100000 in
theorem g_MarkReader_readNumbers (l : Launch) (D : va_G) (kc : Nat → ClassId) (b : Nat) (T S : SS) (j1 : Nat) (hj1 : j1 < 40) (hS : rng S) {vr : Int} {Sr : SS} (h : f_MarkReader_readNumbers S j1 = some (vr, Sr)) : cI l yX4_readNumbers cX4_readNumbers 4 .boolean 4 D kc b (jX b kc T) S [.ref (b + 177), .ref (b + (14 + 4 * j1))] vr Sr := by
  refine g_beg_z (by decide) (Nat.le_of_ble_eq_true rfl) ?_
  intro p e s m args below meth c Q C ret hM ls hl
  obtain ⟨hx, hb, hml, hown, hts, hE, hbs⟩ := id C
  have hl : lv_has ls 4 [(0, .ref (b + 177)), (1, .ref (b + (14 + 4 * j1)))] := hl
  unfold f_MarkReader_readNumbers at h
  have B63 : ∀ (S : SS) (H : Heap) (locs : List Loc) (ls : Array Slot), rng S → mS D b s 220 (jX b kc T S) H locs → lv_has ls 4 [(0, .ref (b + 177))] → f_MarkReader_readNumbers_63 j1 S = some (vr, Sr) → W p l e (mR 4 0 0) s m args below meth c H locs 0 0 Q (F0 m 63 ls []) := by
    intro S H locs ls hS hM hl h
    unfold f_MarkReader_readNumbers_63 at h
    refine lv_aload_n hx hb dX4_readNumbers_63 rfl (lv_at hl 0 rfl) ?_
    refine lv_iconst (v := 1) hx hb dX4_readNumbers_64 (by decide) ?_
    obtain ⟨r2_z, S1_z, cr2_z, h⟩ := w_b2E h
    refine g_callI (J := jX b kc T) (m_runV calV_X4_refuse wd_760 (g_MarkReader_refuse l D kc b T S 1 1 (show (1 : Int32).toInt = 1 by decide) hS cr2_z) C hM (i := 177) (by omega) (e_177 b kc T S) rfl hl.1 rfl rfl (Nat.le_of_ble_eq_true rfl) dX4_readNumbers_65 ⟨Nat.le_of_ble_eq_true rfl, Nat.le_of_ble_eq_true rfl⟩ ⟨Nat.le_of_ble_eq_true rfl, Nat.le_of_ble_eq_true rfl⟩) hM (fun z3_z H locs bz3_z hM hS => ?_)
    obtain ⟨c4_z, h⟩ := w_chkE h
    exact ret S1_z _ _ _ _ z3_z (bz3_z.trans (r_1 h)) (by rw [← (r_1 h)]; exact c4_z) (r_2 h) hM hS dX4_readNumbers_68
  have B33 : ∀ (n : Nat), ∀ (S : SS) (H : Heap) (locs : List Loc) (ls : Array Slot) (x2_ : Int32) (v2_ : Int) (hx2_ : x2_.toInt = v2_) (x3_ : Int32) (v3_ : Int) (hx3_ : x3_.toInt = v3_), rng S → mS D b s 220 (jX b kc T S) H locs → lv_has ls 4 [(0, .ref (b + 177)), (1, .ref (b + (14 + 4 * j1))), (2, .int x2_), (3, .int x3_)] → f_MarkReader_readNumbers_33 j1 n S v2_ v3_ = some (vr, Sr) → W p l e (mR 4 0 0) s m args below meth c H locs 0 0 Q (F0 m 33 ls []) := by
    intro n
    induction n with
    | zero => intro S H locs ls x2_ v2_ hx2_ x3_ v3_ hx3_ hS hM hl h; exact absurd (h : none = some _) (fun q => nomatch q)
    | succ n hkf33_ =>
      intro S H locs ls x2_ v2_ hx2_ x3_ v3_ hx3_ hS hM hl h
      have h : f_MarkReader_readNumbers_33_b j1 (f_MarkReader_readNumbers_33 j1 n) S v2_ v3_ = some (vr, Sr) := h
      unfold f_MarkReader_readNumbers_33_b at h
      refine lv_iload_n hx hb dX4_readNumbers_33 rfl (lv_at hl 3 rfl) ?_
      refine lv_iload_n hx hb dX4_readNumbers_34 rfl (lv_at hl 2 rfl) ?_
      refine g_icmp_ge (tgt := 99) hx hb hx3_ hx2_ h dX4_readNumbers_35 (by decide) (fun h => ?_) (fun h => ?_)
      · refine lv_iconst (v := 1) hx hb dX4_readNumbers_99 (by decide) ?_
        exact ret S _ _ _ _ 1 ((show (1 : Int32).toInt = 1 by decide).trans (r_1 h)) (by rw [← (r_1 h)]; exact (by decide)) (r_2 h) hM hS dX4_readNumbers_100
      · refine lv_aload_n hx hb dX4_readNumbers_38 rfl (lv_at hl 0 rfl) ?_
        obtain ⟨S1_z, cS1_z, h⟩ := w_b1E h
        refine g_callV (J := jX b kc T) (m_runV calV_X4_readToken wd_709 (g_MarkReader_readToken l D kc b T S hS cS1_z) C hM (i := 177) (by omega) (e_177 b kc T S) rfl hl.1 rfl rfl (Nat.le_of_ble_eq_true rfl) dX4_readNumbers_39 ⟨Nat.le_of_ble_eq_true rfl, Nat.le_of_ble_eq_true rfl⟩ ⟨Nat.le_of_ble_eq_true rfl, Nat.le_of_ble_eq_true rfl⟩) hM (fun H locs hM hS => ?_)
        refine lv_aload_n hx hb dX4_readNumbers_42 rfl (lv_at hl 0 rfl) ?_
        refine g_get fl_X4_124_X4 C hM (i := 177) (r := 177) (by omega) (e_177 b kc T S1_z) rfl hS dX4_readNumbers_43 (fun z3_z bz3_z => ?_)
        refine lv_iconst (v := 2) hx hb dX4_readNumbers_46 (by decide) ?_
        refine g_icmp_ne (tgt := 63) hx hb bz3_z (show (2 : Int32).toInt = 2 by decide) h dX4_readNumbers_47 (by decide) (fun h => ?_) (fun h => ?_)
        · exact B63 S1_z _ _ _ hS hM (lv_sub hl [0] rfl) h
        · refine lv_aload_n hx hb dX4_readNumbers_50 rfl (lv_at hl 0 rfl) ?_
          refine g_get fl_X4_27_X4 C hM (i := 177) (r := 177) (by omega) (e_177 b kc T S1_z) rfl hS dX4_readNumbers_51 (fun z4_z bz4_z => ?_)
          refine lv_aload_n hx hb dX4_readNumbers_54 rfl (lv_at hl 0 rfl) ?_
          refine g_get fl_X4_43_X4 C hM (i := 177) (r := 177) (by omega) (e_177 b kc T S1_z) rfl hS dX4_readNumbers_55 (fun z5_z bz5_z => ?_)
          refine g_isub hx hb bz4_z bz5_z h dX4_readNumbers_58 (fun z6_z bz6_z h => ?_)
          refine lv_iconst (v := 3) hx hb dX4_readNumbers_59 (by decide) ?_
          refine g_icmp_le (tgt := 69) hx hb bz6_z (show (3 : Int32).toInt = 3 by decide) h dX4_readNumbers_60 (by decide) (fun h => ?_) (fun h => ?_)
          · refine lv_aload_n hx hb dX4_readNumbers_69 rfl (lv_at hl 1 rfl) ?_
            refine lv_iload_n hx hb dX4_readNumbers_70 rfl (lv_at hl 3 rfl) ?_
            refine lv_aload_n hx hb dX4_readNumbers_71 rfl (lv_at hl 0 rfl) ?_
            obtain ⟨r7_z, cr7_z, h⟩ := w_b1E h
            refine g_callI (J := jX b kc T) (m_runV calV_X4_numberRead wd_791 (g_MarkReader_numberRead l D kc b T S1_z hS cr7_z) C hM (i := 177) (by omega) (e_177 b kc T S1_z) rfl hl.1 rfl rfl (Nat.le_of_ble_eq_true rfl) dX4_readNumbers_72 ⟨Nat.le_of_ble_eq_true rfl, Nat.le_of_ble_eq_true rfl⟩ ⟨Nat.le_of_ble_eq_true rfl, Nat.le_of_ble_eq_true rfl⟩) hM (fun z8_z H locs bz8_z hM hS => ?_)
            obtain ⟨S9_z, cS9_z, h⟩ := w_b1E h
            refine g_callV (J := jX b kc T) (m_runV calV_X3_setNumber wd_795 (g_Mark_setNumber l D kc b T S1_z j1 hj1 x3_ v3_ hx3_ z8_z r7_z bz8_z hS cS9_z) C hM (i := 14 + 4 * j1) (by omega) (e_mk b kc T S1_z hj1) rfl hl.1 rfl rfl (Nat.le_of_ble_eq_true rfl) dX4_readNumbers_75 ⟨Nat.le_of_ble_eq_true rfl, Nat.le_of_ble_eq_true rfl⟩ ⟨Nat.le_of_ble_eq_true rfl, Nat.le_of_ble_eq_true rfl⟩) hM (fun H locs hM hS => ?_)
            refine lv_aload_n hx hb dX4_readNumbers_78 rfl (lv_at hl 0 rfl) ?_
            refine lv_aload_n hx hb dX4_readNumbers_79 rfl (lv_at hl 1 rfl) ?_
            refine lv_iload_n hx hb dX4_readNumbers_80 rfl (lv_at hl 3 rfl) ?_
            obtain ⟨r11_z, cr11_z, h⟩ := w_b1E h
            refine g_callI (J := jX b kc T) (m_runV calV_X4_mayBegin wd_799 (g_MarkReader_mayBegin l D kc b T S9_z j1 hj1 x3_ v3_ hx3_ hS cr11_z) C hM (i := 177) (by omega) (e_177 b kc T S9_z) rfl hl.1 rfl rfl (Nat.le_of_ble_eq_true rfl) dX4_readNumbers_81 ⟨Nat.le_of_ble_eq_true rfl, Nat.le_of_ble_eq_true rfl⟩ ⟨Nat.le_of_ble_eq_true rfl, Nat.le_of_ble_eq_true rfl⟩) hM (fun z12_z H locs bz12_z hM hS => ?_)
            refine g_if_ne (tgt := 93) hx hb bz12_z h dX4_readNumbers_84 (by decide) (fun h => ?_) (fun h => ?_)
            · refine g_iinc (y := 1) hx hb hx3_ (by decide) (by decide) h dX4_readNumbers_93 hl (k := 3) rfl (by decide) (fun z13_z ls bz13_z h hl => ?_)
              have hl : lv_has ls 4 [(3, .int z13_z), (0, .ref (b + 177)), (1, .ref (b + (14 + 4 * j1))), (2, .int x2_)] := hl
              refine lv_goto (tgt := 33) hx hb dX4_readNumbers_96 (by decide) ?_
              exact hkf33_ S9_z _ _ _ x2_ v2_ hx2_ z13_z (v3_ + 1) bz13_z hS hM (lv_sub hl [1, 2, 3, 0] rfl) h
            · refine lv_aload_n hx hb dX4_readNumbers_87 rfl (lv_at hl 0 rfl) ?_
              refine lv_iconst (v := 2) hx hb dX4_readNumbers_88 (by decide) ?_
              obtain ⟨r15_z, S14_z, cr15_z, h⟩ := w_b2E h
              refine g_callI (J := jX b kc T) (m_runV calV_X4_refuse wd_760 (g_MarkReader_refuse l D kc b T S9_z 2 2 (show (2 : Int32).toInt = 2 by decide) hS cr15_z) C hM (i := 177) (by omega) (e_177 b kc T S9_z) rfl hl.1 rfl rfl (Nat.le_of_ble_eq_true rfl) dX4_readNumbers_89 ⟨Nat.le_of_ble_eq_true rfl, Nat.le_of_ble_eq_true rfl⟩ ⟨Nat.le_of_ble_eq_true rfl, Nat.le_of_ble_eq_true rfl⟩) hM (fun z16_z H locs bz16_z hM hS => ?_)
              obtain ⟨c17_z, h⟩ := w_chkE h
              exact ret S14_z _ _ _ _ z16_z (bz16_z.trans (r_1 h)) (by rw [← (r_1 h)]; exact c17_z) (r_2 h) hM hS dX4_readNumbers_92
          · exact B63 S1_z _ _ _ hS hM (lv_sub hl [0] rfl) h
  have B30 : ∀ (S : SS) (H : Heap) (locs : List Loc) (ls : Array Slot) (xt0_ : Int32) (vt0_ : Int) (hxt0_ : xt0_.toInt = vt0_), rng S → mS D b s 220 (jX b kc T S) H locs → lv_has ls 4 [(0, .ref (b + 177)), (1, .ref (b + (14 + 4 * j1)))] → f_MarkReader_readNumbers_30 j1 S vt0_ = some (vr, Sr) → W p l e (mR 4 0 0) s m args below meth c H locs 0 0 Q (F0 m 30 ls [.int xt0_]) := by
    intro S H locs ls xt0_ vt0_ hxt0_ hS hM hl h
    unfold f_MarkReader_readNumbers_30 at h
    refine lv_istore_n (lv' := [(2, .int xt0_), (0, .ref (b + 177)), (1, .ref (b + (14 + 4 * j1)))]) hx hb dX4_readNumbers_30 rfl hl (by decide) rfl (fun ls hl => ?_)
    refine lv_iconst (v := 0) hx hb dX4_readNumbers_31 (by decide) ?_
    refine lv_istore_n (lv' := [(3, .int 0), (2, .int xt0_), (0, .ref (b + 177)), (1, .ref (b + (14 + 4 * j1)))]) hx hb dX4_readNumbers_32 rfl hl (by decide) rfl (fun ls hl => ?_)
    exact B33 FU S _ _ _ xt0_ vt0_ hxt0_ 0 0 (show (0 : Int32).toInt = 0 by decide) hS hM (lv_sub hl [2, 3, 1, 0] rfl) h
  have B18 : ∀ (S : SS) (H : Heap) (locs : List Loc) (ls : Array Slot), rng S → mS D b s 220 (jX b kc T S) H locs → lv_has ls 4 [(0, .ref (b + 177)), (1, .ref (b + (14 + 4 * j1)))] → f_MarkReader_readNumbers_18 j1 S = some (vr, Sr) → W p l e (mR 4 0 0) s m args below meth c H locs 0 0 Q (F0 m 18 ls []) := by
    intro S H locs ls hS hM hl h
    unfold f_MarkReader_readNumbers_18 at h
    refine lv_iconst (v := 0) hx hb dX4_readNumbers_18 (by decide) ?_
    refine lv_goto (tgt := 30) hx hb dX4_readNumbers_19 (by decide) ?_
    exact B30 S _ _ _ 0 0 (show (0 : Int32).toInt = 0 by decide) hS hM (lv_sub hl [0, 1] rfl) h
  refine lv_aload_n hx hb dX4_readNumbers_0 rfl (lv_at hl 1 rfl) ?_
  refine g_getN fl_X4_85_X3 C hM (i := 14 + 4 * j1) (r := 14 + 4 * j1) (by omega) (e_mk b kc T S hj1) rfl hS dX4_readNumbers_1 (fun z1_z bz1_z => ?_)
  refine g_if_lt (tgt := 18) hx hb bz1_z h dX4_readNumbers_4 (by decide) (fun h => ?_) (fun h => ?_)
  · exact B18 S _ _ _ hS hM (lv_sub hl [0, 1] rfl) h
  · refine lv_aload_n hx hb dX4_readNumbers_7 rfl (lv_at hl 1 rfl) ?_
    refine g_getN fl_X4_85_X3 C hM (i := 14 + 4 * j1) (r := 14 + 4 * j1) (by omega) (e_mk b kc T S hj1) rfl hS dX4_readNumbers_8 (fun z2_z bz2_z => ?_)
    refine g_numsN C hM wd_789 dX4_readNumbers_11 (fun t3_z ht3_z => ?_)
    refine g_tablen C hM ht3_z dX4_readNumbers_14 ?_
    refine g_icmp_lt (tgt := 22) hx hb bz2_z (show (6 : Int32).toInt = 6 by decide) h dX4_readNumbers_15 (by decide) (fun h => ?_) (fun h => ?_)
    · refine g_numsN C hM wd_789 dX4_readNumbers_22 (fun t4_z ht4_z => ?_)
      refine lv_aload_n hx hb dX4_readNumbers_25 rfl (lv_at hl 1 rfl) ?_
      refine g_getN fl_X4_85_X3 C hM (i := 14 + 4 * j1) (r := 14 + 4 * j1) (by omega) (e_mk b kc T S hj1) rfl hS dX4_readNumbers_26 (fun z5_z bz5_z => ?_)
      refine g_tabld C hM ht4_z bz5_z h dX4_readNumbers_29 (fun z6_z bz6_z h => ?_)
      exact B30 S _ _ _ z6_z (num6 (gi S (14 + 4 * j1) 2).toNat) bz6_z hS hM (lv_sub hl [0, 1] rfl) h
    · exact B18 S _ _ _ hS hM (lv_sub hl [0, 1] rfl) h

def f_MarkReader_readWord_70 (j1 : Nat) (kf11_ : SS → Int64 → Int → Int → Option (Int × SS)) (S : SS) (w2_ : Int64) (v5_ : Int) (v6_ : Int) (vt0_ : Int) : Option (Int × SS) := w_chk (i32 (v5_ + 1)) (w_lt (si S 177 4 (v5_ + 1)) (fun S3_z => w_chk (i32 (v5_ + 1)) (kf11_ S3_z ((lsh w2_ 8) ||| (i2l v6_)) vt0_ (v5_ + 1))))
def f_MarkReader_readWord_69 (j1 : Nat) (kf11_ : SS → Int64 → Int → Int → Option (Int × SS)) (S : SS) (w2_ : Int64) (v5_ : Int) (v6_ : Int) : Option (Int × SS) := f_MarkReader_readWord_70 j1 kf11_ S w2_ v5_ v6_ 0
def f_MarkReader_readWord_114 (j1 : Nat) (S : SS) : Option (Int × SS) := w_b2 (f_MarkReader_refuse S 1) (fun r2_z S1_z => w_chk (r2_z = 0 ∨ r2_z = 1) (some (r2_z, S1_z)))
def f_MarkReader_readWord_95 (j1 : Nat) (S : SS) (w2_ : Int64) (v4_ : Int) : Option (Int × SS) := (if v4_ = 0 then f_MarkReader_readWord_114 j1 S  else w_chk (i32 ((gi S 177 4) - (gi S 177 5))) ((if (gi S 177 4) - (gi S 177 5) ≤ 8 then (if gi S (14 + 4 * j1 + 2) 1 < 6 then w_b1 (f_Sheet_add S (14 + 4 * j1 + 2) w2_) (fun S5_z => some (1, S5_z)) else w_b2 (f_MarkReader_refuse S 3) (fun r8_z S7_z => w_chk (r8_z = 0 ∨ r8_z = 1) (some (r8_z, S7_z)))) else f_MarkReader_readWord_114 j1 S )))
def f_MarkReader_readWord_11_b (j1 : Nat) (kf11_ : SS → Int64 → Int → Int → Option (Int × SS)) (S : SS) (w2_ : Int64) (v4_ : Int) (v5_ : Int) : Option (Int × SS) := w_chk (gq S 177 0 = some 1) ((if gi S 1 1 ≤ v5_ then f_MarkReader_readWord_95 j1 S w2_ v4_ else w_chk (gq S 177 0 = some 1) (w_b1 (f_Tape_byteAt S v5_) (fun r2_z => (if f_MP_isBlank S r2_z = 0 then (if r2_z = 59 then f_MarkReader_readWord_95 j1 S w2_ v4_ else (if v4_ = 0 then f_MarkReader_readWord_69 j1 kf11_ S w2_ v5_ r2_z else w_b1 (f_MP_isOfWord S r2_z) (fun r5_z => (if r5_z = 0 then f_MarkReader_readWord_69 j1 kf11_ S w2_ v5_ r2_z else f_MarkReader_readWord_70 j1 kf11_ S w2_ v5_ r2_z 1)))) else f_MarkReader_readWord_95 j1 S w2_ v4_)))))
def f_MarkReader_readWord_11 (j1 : Nat) : Nat → SS → Int64 → Int → Int → Option (Int × SS)
  | 0 => fun _ _ _ _ => none
  | n + 1 => f_MarkReader_readWord_11_b j1 (f_MarkReader_readWord_11 j1 n)
def f_MarkReader_readWord (S : SS) (j1 : Nat) : Option (Int × SS) := f_MarkReader_readWord_11 j1 FU S 0 1 (gi S 177 5)
set_option maxHeartbeats 4000000 in
set_option maxRecDepth 100000 in
theorem g_MarkReader_readWord (l : Launch) (D : va_G) (kc : Nat → ClassId) (b : Nat) (T S : SS) (j1 : Nat) (hj1 : j1 < 40) (hS : rng S) {vr : Int} {Sr : SS} (h : f_MarkReader_readWord S j1 = some (vr, Sr)) : cI l yX4_readWord cX4_readWord 7 .boolean 6 D kc b (jX b kc T) S [.ref (b + 177), .ref (b + (14 + 4 * j1))] vr Sr := by
  refine g_beg_z (by decide) (Nat.le_of_ble_eq_true rfl) ?_
  intro p e s m args below meth c Q C ret hM ls hl
  obtain ⟨hx, hb, hml, hown, hts, hE, hbs⟩ := id C
  have hl : lv_has ls 7 [(0, .ref (b + 177)), (1, .ref (b + (14 + 4 * j1)))] := hl
  unfold f_MarkReader_readWord at h
  have B70 : ∀ (kf11_ : SS → Int64 → Int → Int → Option (Int × SS)) (hkf11_ : ∀ (S : SS) (H : Heap) (locs : List Loc) (ls : Array Slot) (w2_ : Int64) (x4_ : Int32) (v4_ : Int) (hx4_ : x4_.toInt = v4_) (x5_ : Int32) (v5_ : Int) (hx5_ : x5_.toInt = v5_), rng S → mS D b s 220 (jX b kc T S) H locs → lv_has ls 7 [(0, .ref (b + 177)), (1, .ref (b + (14 + 4 * j1))), (2, .long w2_), (4, .int x4_), (5, .int x5_)] → kf11_ S w2_ v4_ v5_ = some (vr, Sr) → W p l e (mR 6 0 0) s m args below meth c H locs 0 0 Q (F0 m 11 ls [])), ∀ (S : SS) (H : Heap) (locs : List Loc) (ls : Array Slot) (w2_ : Int64) (x5_ : Int32) (v5_ : Int) (hx5_ : x5_.toInt = v5_) (x6_ : Int32) (v6_ : Int) (hx6_ : x6_.toInt = v6_) (xt0_ : Int32) (vt0_ : Int) (hxt0_ : xt0_.toInt = vt0_), rng S → mS D b s 220 (jX b kc T S) H locs → lv_has ls 7 [(0, .ref (b + 177)), (1, .ref (b + (14 + 4 * j1))), (2, .long w2_), (5, .int x5_), (6, .int x6_)] → f_MarkReader_readWord_70 j1 kf11_ S w2_ v5_ v6_ vt0_ = some (vr, Sr) → W p l e (mR 6 0 0) s m args below meth c H locs 0 0 Q (F0 m 70 ls [.int xt0_]) := by
    intro kf11_ hkf11_ S H locs ls w2_ x5_ v5_ hx5_ x6_ v6_ hx6_ xt0_ vt0_ hxt0_ hS hM hl h
    unfold f_MarkReader_readWord_70 at h
    refine lv_istore (lv' := [(4, .int xt0_), (0, .ref (b + 177)), (1, .ref (b + (14 + 4 * j1))), (2, .long w2_), (5, .int x5_), (6, .int x6_)]) hx hb dX4_readWord_70 hl (by decide) rfl (fun ls hl => ?_)
    refine lv_lload_n hx hb dX4_readWord_72 rfl (lv_at hl 3 rfl) ?_
    refine lv_bipush (v := 8) hx hb dX4_readWord_73 (by decide) ?_
    refine g_lshl (d := 8) hx hb (show (8 : Int32).toInt = 8 by decide) dX4_readWord_75 ?_
    refine lv_iload hx hb dX4_readWord_76 (lv_at hl 5 rfl) ?_
    refine g_i2l (a := v6_) hx hb hx6_ dX4_readWord_78 (fun c1_z => ?_)
    refine lv_lor hx hb dX4_readWord_79 ?_
    refine lv_lstore_n (lv' := [(2, .long ((lsh w2_ 8) ||| (i2l v6_))), (4, .int xt0_), (0, .ref (b + 177)), (1, .ref (b + (14 + 4 * j1))), (5, .int x5_), (6, .int x6_)]) hx hb dX4_readWord_80 rfl hl (by decide) rfl (fun ls hl => ?_)
    refine lv_aload_n hx hb dX4_readWord_81 rfl (lv_at hl 2 rfl) ?_
    refine lv_iload hx hb dX4_readWord_82 (lv_at hl 4 rfl) ?_
    refine lv_iconst (v := 1) hx hb dX4_readWord_84 (by decide) ?_
    refine g_iadd hx hb hx5_ (show (1 : Int32).toInt = 1 by decide) h dX4_readWord_85 (fun z2_z bz2_z h => ?_)
    refine g_put fl_X4_27_X4 C hM (i := 177) (by omega) (e_177 b kc T S) rfl rfl (Nat.le_of_ble_eq_true rfl) (fs1 := [va_rf (os b (gq S 177 0)), va_rf (os b (gq S 177 1)), va_rf (os b (gq S 177 2)), .int (oi (gi S 177 3)), .int z2_z, .int (oi (gi S 177 5)), .int (oi (gi S 177 6))]) rfl (p_177_4 bz2_z) (rng_si hS (i32_of bz2_z)) h dX4_readWord_86 (fun S3_z H locs h hM hS => ?_)
    refine g_iinc (y := 1) hx hb hx5_ (by decide) (by decide) h dX4_readWord_89 hl (k := 4) rfl (by decide) (fun z4_z ls bz4_z h hl => ?_)
    have hl : lv_has ls 7 [(5, .int z4_z), (2, .long ((lsh w2_ 8) ||| (i2l v6_))), (4, .int xt0_), (0, .ref (b + 177)), (1, .ref (b + (14 + 4 * j1))), (6, .int x6_)] := hl
    refine lv_goto (tgt := 11) hx hb dX4_readWord_92 (by decide) ?_
    exact hkf11_ S3_z _ _ _ ((lsh w2_ 8) ||| (i2l v6_)) xt0_ vt0_ hxt0_ z4_z (v5_ + 1) bz4_z hS hM (lv_sub hl [3, 4, 1, 2, 0] rfl) h
  have B69 : ∀ (kf11_ : SS → Int64 → Int → Int → Option (Int × SS)) (hkf11_ : ∀ (S : SS) (H : Heap) (locs : List Loc) (ls : Array Slot) (w2_ : Int64) (x4_ : Int32) (v4_ : Int) (hx4_ : x4_.toInt = v4_) (x5_ : Int32) (v5_ : Int) (hx5_ : x5_.toInt = v5_), rng S → mS D b s 220 (jX b kc T S) H locs → lv_has ls 7 [(0, .ref (b + 177)), (1, .ref (b + (14 + 4 * j1))), (2, .long w2_), (4, .int x4_), (5, .int x5_)] → kf11_ S w2_ v4_ v5_ = some (vr, Sr) → W p l e (mR 6 0 0) s m args below meth c H locs 0 0 Q (F0 m 11 ls [])), ∀ (S : SS) (H : Heap) (locs : List Loc) (ls : Array Slot) (w2_ : Int64) (x5_ : Int32) (v5_ : Int) (hx5_ : x5_.toInt = v5_) (x6_ : Int32) (v6_ : Int) (hx6_ : x6_.toInt = v6_), rng S → mS D b s 220 (jX b kc T S) H locs → lv_has ls 7 [(0, .ref (b + 177)), (1, .ref (b + (14 + 4 * j1))), (2, .long w2_), (5, .int x5_), (6, .int x6_)] → f_MarkReader_readWord_69 j1 kf11_ S w2_ v5_ v6_ = some (vr, Sr) → W p l e (mR 6 0 0) s m args below meth c H locs 0 0 Q (F0 m 69 ls []) := by
    intro kf11_ hkf11_ S H locs ls w2_ x5_ v5_ hx5_ x6_ v6_ hx6_ hS hM hl h
    unfold f_MarkReader_readWord_69 at h
    refine lv_iconst (v := 0) hx hb dX4_readWord_69 (by decide) ?_
    exact B70 kf11_ hkf11_ S _ _ _ w2_ x5_ v5_ hx5_ x6_ v6_ hx6_ 0 0 (show (0 : Int32).toInt = 0 by decide) hS hM (lv_sub hl [0, 1, 2, 3, 4] rfl) h
  have B114 : ∀ (S : SS) (H : Heap) (locs : List Loc) (ls : Array Slot), rng S → mS D b s 220 (jX b kc T S) H locs → lv_has ls 7 [(0, .ref (b + 177))] → f_MarkReader_readWord_114 j1 S = some (vr, Sr) → W p l e (mR 6 0 0) s m args below meth c H locs 0 0 Q (F0 m 114 ls []) := by
    intro S H locs ls hS hM hl h
    unfold f_MarkReader_readWord_114 at h
    refine lv_aload_n hx hb dX4_readWord_114 rfl (lv_at hl 0 rfl) ?_
    refine lv_iconst (v := 1) hx hb dX4_readWord_115 (by decide) ?_
    obtain ⟨r2_z, S1_z, cr2_z, h⟩ := w_b2E h
    refine g_callI (J := jX b kc T) (m_runV calV_X4_refuse wd_760 (g_MarkReader_refuse l D kc b T S 1 1 (show (1 : Int32).toInt = 1 by decide) hS cr2_z) C hM (i := 177) (by omega) (e_177 b kc T S) rfl hl.1 rfl rfl (Nat.le_of_ble_eq_true rfl) dX4_readWord_116 ⟨Nat.le_of_ble_eq_true rfl, Nat.le_of_ble_eq_true rfl⟩ ⟨Nat.le_of_ble_eq_true rfl, Nat.le_of_ble_eq_true rfl⟩) hM (fun z3_z H locs bz3_z hM hS => ?_)
    obtain ⟨c4_z, h⟩ := w_chkE h
    exact ret S1_z _ _ _ _ z3_z (bz3_z.trans (r_1 h)) (by rw [← (r_1 h)]; exact c4_z) (r_2 h) hM hS dX4_readWord_119
  have B95 : ∀ (S : SS) (H : Heap) (locs : List Loc) (ls : Array Slot) (w2_ : Int64) (x4_ : Int32) (v4_ : Int) (hx4_ : x4_.toInt = v4_), rng S → mS D b s 220 (jX b kc T S) H locs → lv_has ls 7 [(0, .ref (b + 177)), (1, .ref (b + (14 + 4 * j1))), (2, .long w2_), (4, .int x4_)] → f_MarkReader_readWord_95 j1 S w2_ v4_ = some (vr, Sr) → W p l e (mR 6 0 0) s m args below meth c H locs 0 0 Q (F0 m 95 ls []) := by
    intro S H locs ls w2_ x4_ v4_ hx4_ hS hM hl h
    unfold f_MarkReader_readWord_95 at h
    refine lv_iload hx hb dX4_readWord_95 (lv_at hl 3 rfl) ?_
    refine g_if_eq (tgt := 114) hx hb hx4_ h dX4_readWord_97 (by decide) (fun h => ?_) (fun h => ?_)
    · exact B114 S _ _ _ hS hM (lv_sub hl [0] rfl) h
    · refine lv_aload_n hx hb dX4_readWord_100 rfl (lv_at hl 0 rfl) ?_
      refine g_get fl_X4_27_X4 C hM (i := 177) (r := 177) (by omega) (e_177 b kc T S) rfl hS dX4_readWord_101 (fun z1_z bz1_z => ?_)
      refine lv_aload_n hx hb dX4_readWord_104 rfl (lv_at hl 0 rfl) ?_
      refine g_get fl_X4_43_X4 C hM (i := 177) (r := 177) (by omega) (e_177 b kc T S) rfl hS dX4_readWord_105 (fun z2_z bz2_z => ?_)
      refine g_isub hx hb bz1_z bz2_z h dX4_readWord_108 (fun z3_z bz3_z h => ?_)
      refine lv_bipush (v := 8) hx hb dX4_readWord_109 (by decide) ?_
      refine g_icmp_le (tgt := 120) hx hb bz3_z (show (8 : Int32).toInt = 8 by decide) h dX4_readWord_111 (by decide) (fun h => ?_) (fun h => ?_)
      · refine lv_aload_n hx hb dX4_readWord_120 rfl (lv_at hl 1 rfl) ?_
        refine m_getN fl_X4_164_X3 C hM (i := 14 + 4 * j1) (by omega) (e_mk b kc T S hj1) (v := .ref (b + (14 + 4 * j1 + 2))) rfl dX4_readWord_121 ?_
        refine g_getN fl_X4_168_X8 C hM (i := 14 + 4 * j1 + 2) (r := 14 + 4 * j1 + 2) (by omega) (e_sh b kc T S (show shOk (14 + 4 * j1 + 2) by omega)) rfl hS dX4_readWord_124 (fun z4_z bz4_z => ?_)
        refine lv_bipush (v := 6) hx hb dX4_readWord_127 (by decide) ?_
        refine g_icmp_lt (tgt := 138) hx hb bz4_z (show (6 : Int32).toInt = 6 by decide) h dX4_readWord_129 (by decide) (fun h => ?_) (fun h => ?_)
        · refine lv_aload_n hx hb dX4_readWord_138 rfl (lv_at hl 1 rfl) ?_
          refine m_getN fl_X4_164_X3 C hM (i := 14 + 4 * j1) (by omega) (e_mk b kc T S hj1) (v := .ref (b + (14 + 4 * j1 + 2))) rfl dX4_readWord_139 ?_
          refine lv_lload_n hx hb dX4_readWord_142 rfl (lv_at hl 2 rfl) ?_
          obtain ⟨S5_z, cS5_z, h⟩ := w_b1E h
          refine g_callV (J := jX b kc T) (m_runV calV_X8_add wd_826 (g_Sheet_add l D kc b T S (14 + 4 * j1 + 2) (show shOk (14 + 4 * j1 + 2) by omega) w2_ hS cS5_z) C hM (i := 14 + 4 * j1 + 2) (by omega) (e_sh b kc T S (show shOk (14 + 4 * j1 + 2) by omega)) rfl hl.1 rfl rfl (Nat.le_of_ble_eq_true rfl) dX4_readWord_143 ⟨Nat.le_of_ble_eq_true rfl, Nat.le_of_ble_eq_true rfl⟩ ⟨Nat.le_of_ble_eq_true rfl, Nat.le_of_ble_eq_true rfl⟩) hM (fun H locs hM hS => ?_)
          refine lv_iconst (v := 1) hx hb dX4_readWord_146 (by decide) ?_
          exact ret S5_z _ _ _ _ 1 ((show (1 : Int32).toInt = 1 by decide).trans (r_1 h)) (by rw [← (r_1 h)]; exact (by decide)) (r_2 h) hM hS dX4_readWord_147
        · refine lv_aload_n hx hb dX4_readWord_132 rfl (lv_at hl 0 rfl) ?_
          refine lv_iconst (v := 3) hx hb dX4_readWord_133 (by decide) ?_
          obtain ⟨r8_z, S7_z, cr8_z, h⟩ := w_b2E h
          refine g_callI (J := jX b kc T) (m_runV calV_X4_refuse wd_760 (g_MarkReader_refuse l D kc b T S 3 3 (show (3 : Int32).toInt = 3 by decide) hS cr8_z) C hM (i := 177) (by omega) (e_177 b kc T S) rfl hl.1 rfl rfl (Nat.le_of_ble_eq_true rfl) dX4_readWord_134 ⟨Nat.le_of_ble_eq_true rfl, Nat.le_of_ble_eq_true rfl⟩ ⟨Nat.le_of_ble_eq_true rfl, Nat.le_of_ble_eq_true rfl⟩) hM (fun z9_z H locs bz9_z hM hS => ?_)
          obtain ⟨c10_z, h⟩ := w_chkE h
          exact ret S7_z _ _ _ _ z9_z (bz9_z.trans (r_1 h)) (by rw [← (r_1 h)]; exact c10_z) (r_2 h) hM hS dX4_readWord_137
      · exact B114 S _ _ _ hS hM (lv_sub hl [0] rfl) h
  have B11 : ∀ (n : Nat), ∀ (S : SS) (H : Heap) (locs : List Loc) (ls : Array Slot) (w2_ : Int64) (x4_ : Int32) (v4_ : Int) (hx4_ : x4_.toInt = v4_) (x5_ : Int32) (v5_ : Int) (hx5_ : x5_.toInt = v5_), rng S → mS D b s 220 (jX b kc T S) H locs → lv_has ls 7 [(0, .ref (b + 177)), (1, .ref (b + (14 + 4 * j1))), (2, .long w2_), (4, .int x4_), (5, .int x5_)] → f_MarkReader_readWord_11 j1 n S w2_ v4_ v5_ = some (vr, Sr) → W p l e (mR 6 0 0) s m args below meth c H locs 0 0 Q (F0 m 11 ls []) := by
    intro n
    induction n with
    | zero => intro S H locs ls w2_ x4_ v4_ hx4_ x5_ v5_ hx5_ hS hM hl h; exact absurd (h : none = some _) (fun q => nomatch q)
    | succ n hkf11_ =>
      intro S H locs ls w2_ x4_ v4_ hx4_ x5_ v5_ hx5_ hS hM hl h
      have h : f_MarkReader_readWord_11_b j1 (f_MarkReader_readWord_11 j1 n) S w2_ v4_ v5_ = some (vr, Sr) := h
      unfold f_MarkReader_readWord_11_b at h
      refine lv_iload hx hb dX4_readWord_11 (lv_at hl 4 rfl) ?_
      refine lv_aload_n hx hb dX4_readWord_13 rfl (lv_at hl 0 rfl) ?_
      refine g_getqf fl_X4_9_X4 C hM (i := 177) (r := 177) (by omega) (e_177 b kc T S) rfl h dX4_readWord_14 (fun h => ?_)
      refine g_getN fl_X4_46_X10 C hM (i := 1) (r := 1) (by omega) (e_1 b kc T S) rfl hS dX4_readWord_17 (fun z1_z bz1_z => ?_)
      refine g_icmp_ge (tgt := 95) hx hb hx5_ bz1_z h dX4_readWord_20 (by decide) (fun h => ?_) (fun h => ?_)
      · exact B95 S _ _ _ w2_ x4_ v4_ hx4_ hS hM (lv_sub hl [0, 1, 2, 3] rfl) h
      · refine lv_aload_n hx hb dX4_readWord_23 rfl (lv_at hl 0 rfl) ?_
        refine g_getqf fl_X4_9_X4 C hM (i := 177) (r := 177) (by omega) (e_177 b kc T S) rfl h dX4_readWord_24 (fun h => ?_)
        refine lv_iload hx hb dX4_readWord_27 (lv_at hl 4 rfl) ?_
        obtain ⟨r2_z, cr2_z, h⟩ := w_b1E h
        refine g_callI (J := jX b kc T) (m_runV calV_X10_byteAt wd_717 (g_Tape_byteAt l D kc b T S x5_ v5_ hx5_ hS cr2_z) C hM (i := 1) (by omega) (e_1 b kc T S) rfl hl.1 rfl rfl (Nat.le_of_ble_eq_true rfl) dX4_readWord_29 ⟨Nat.le_of_ble_eq_true rfl, Nat.le_of_ble_eq_true rfl⟩ ⟨Nat.le_of_ble_eq_true rfl, Nat.le_of_ble_eq_true rfl⟩) hM (fun z3_z H locs bz3_z hM hS => ?_)
        refine lv_istore (lv' := [(6, .int z3_z), (0, .ref (b + 177)), (1, .ref (b + (14 + 4 * j1))), (2, .long w2_), (4, .int x4_), (5, .int x5_)]) hx hb dX4_readWord_32 hl (by decide) rfl (fun ls hl => ?_)
        refine lv_iload hx hb dX4_readWord_34 (lv_at hl 0 rfl) ?_
        refine g_callI (J := jX b kc T) (m_runSN calS_X11_isBlank wd_718 (g_MP_isBlank l D kc b T S z3_z r2_z bz3_z hS rfl) C hM hl.1 rfl rfl (Nat.le_of_ble_eq_true rfl) dX4_readWord_36 ⟨Nat.le_of_ble_eq_true rfl, Nat.le_of_ble_eq_true rfl⟩ ⟨Nat.le_of_ble_eq_true rfl, Nat.le_of_ble_eq_true rfl⟩) hM (fun z4_z H locs bz4_z hM hS => ?_)
        refine g_if_ne (tgt := 95) hx hb bz4_z h dX4_readWord_39 (by decide) (fun h => ?_) (fun h => ?_)
        · exact B95 S _ _ _ w2_ x4_ v4_ hx4_ hS hM (lv_sub hl [1, 2, 3, 4] rfl) h
        · refine lv_iload hx hb dX4_readWord_42 (lv_at hl 0 rfl) ?_
          refine lv_bipush (v := 59) hx hb dX4_readWord_44 (by decide) ?_
          refine g_icmp_ne (tgt := 52) hx hb bz3_z (show (59 : Int32).toInt = 59 by decide) h dX4_readWord_46 (by decide) (fun h => ?_) (fun h => ?_)
          · refine lv_iload hx hb dX4_readWord_52 (lv_at hl 4 rfl) ?_
            refine g_if_eq (tgt := 69) hx hb hx4_ h dX4_readWord_54 (by decide) (fun h => ?_) (fun h => ?_)
            · exact B69 (f_MarkReader_readWord_11 j1 n) hkf11_ S _ _ _ w2_ x5_ v5_ hx5_ z3_z r2_z bz3_z hS hM (lv_sub hl [1, 2, 3, 5, 0] rfl) h
            · refine lv_iload hx hb dX4_readWord_57 (lv_at hl 0 rfl) ?_
              obtain ⟨r5_z, cr5_z, h⟩ := w_b1E h
              refine g_callI (J := jX b kc T) (m_runSN calS_X11_isOfWord wd_825 (g_MP_isOfWord l D kc b T S z3_z r2_z bz3_z hS cr5_z) C hM hl.1 rfl rfl (Nat.le_of_ble_eq_true rfl) dX4_readWord_59 ⟨Nat.le_of_ble_eq_true rfl, Nat.le_of_ble_eq_true rfl⟩ ⟨Nat.le_of_ble_eq_true rfl, Nat.le_of_ble_eq_true rfl⟩) hM (fun z6_z H locs bz6_z hM hS => ?_)
              refine g_if_eq (tgt := 69) hx hb bz6_z h dX4_readWord_62 (by decide) (fun h => ?_) (fun h => ?_)
              · exact B69 (f_MarkReader_readWord_11 j1 n) hkf11_ S _ _ _ w2_ x5_ v5_ hx5_ z3_z r2_z bz3_z hS hM (lv_sub hl [1, 2, 3, 5, 0] rfl) h
              · refine lv_iconst (v := 1) hx hb dX4_readWord_65 (by decide) ?_
                refine lv_goto (tgt := 70) hx hb dX4_readWord_66 (by decide) ?_
                exact B70 (f_MarkReader_readWord_11 j1 n) hkf11_ S _ _ _ w2_ x5_ v5_ hx5_ z3_z r2_z bz3_z 1 1 (show (1 : Int32).toInt = 1 by decide) hS hM (lv_sub hl [1, 2, 3, 5, 0] rfl) h
          · refine lv_goto (tgt := 95) hx hb dX4_readWord_49 (by decide) ?_
            exact B95 S _ _ _ w2_ x4_ v4_ hx4_ hS hM (lv_sub hl [1, 2, 3, 4] rfl) h
  refine lv_lconst (v := 0) hx hb dX4_readWord_0 (by decide) ?_
  refine lv_lstore_n (lv' := [(2, .long 0), (0, .ref (b + 177)), (1, .ref (b + (14 + 4 * j1)))]) hx hb dX4_readWord_1 rfl hl (by decide) rfl (fun ls hl => ?_)
  refine lv_iconst (v := 1) hx hb dX4_readWord_2 (by decide) ?_
  refine lv_istore (lv' := [(4, .int 1), (2, .long 0), (0, .ref (b + 177)), (1, .ref (b + (14 + 4 * j1)))]) hx hb dX4_readWord_3 hl (by decide) rfl (fun ls hl => ?_)
  refine lv_aload_n hx hb dX4_readWord_5 rfl (lv_at hl 2 rfl) ?_
  refine g_get fl_X4_43_X4 C hM (i := 177) (r := 177) (by omega) (e_177 b kc T S) rfl hS dX4_readWord_6 (fun z1_z bz1_z => ?_)
  refine lv_istore (lv' := [(5, .int z1_z), (4, .int 1), (2, .long 0), (0, .ref (b + 177)), (1, .ref (b + (14 + 4 * j1)))]) hx hb dX4_readWord_9 hl (by decide) rfl (fun ls hl => ?_)
  exact B11 FU S _ _ _ 0 1 1 (show (1 : Int32).toInt = 1 by decide) z1_z (gi S 177 5) bz1_z hS hM (lv_sub hl [3, 4, 2, 1, 0] rfl) h

def f_MarkReader_readWords_47 (j1 : Nat) (S : SS) : Option (Int × SS) := w_b2 (f_MarkReader_refuse S 1) (fun r2_z S1_z => w_chk (r2_z = 0 ∨ r2_z = 1) (some (r2_z, S1_z)))
def f_MarkReader_readWords_53 (j1 : Nat) (kf2_ : SS → Int → Option (Int × SS)) (S : SS) (v2_ : Int) (v3_ : Int) : Option (Int × SS) := (if v3_ = 59 then w_chk (i32 ((gi S 177 4) + 1)) (w_lt (si S 177 4 ((gi S 177 4) + 1)) (fun S7_z => some (1, S7_z))) else w_b2 (f_MarkReader_readWord S j1) (fun r2_z S1_z => (if r2_z = 0 then some (0, S1_z) else w_chk (i32 (v2_ + 1)) (kf2_ S1_z (v2_ + 1)))))
def f_MarkReader_readWords_2_b (j1 : Nat) (kf2_ : SS → Int → Option (Int × SS)) (S : SS) (v2_ : Int) : Option (Int × SS) := (if 7 < v2_ then some (0, S) else w_b1 (f_MarkReader_skipBlanks S) (fun S1_z => w_lt (si S1_z 177 5 (gi S1_z 177 4)) (fun S4_z => w_chk (gq S4_z 177 0 = some 1) (w_b1 (f_Tape_byteAt S4_z (gi S4_z 177 4)) (fun r6_z => (if r6_z = (-1) then f_MarkReader_readWords_47 j1 S4_z  else (if r6_z = 59 then (if v2_ = 0 then f_MarkReader_readWords_47 j1 S4_z  else f_MarkReader_readWords_53 j1 kf2_ S4_z v2_ r6_z) else f_MarkReader_readWords_53 j1 kf2_ S4_z v2_ r6_z)))))))
def f_MarkReader_readWords_2 (j1 : Nat) : Nat → SS → Int → Option (Int × SS)
  | 0 => fun _ _ => none
  | n + 1 => f_MarkReader_readWords_2_b j1 (f_MarkReader_readWords_2 j1 n)
def f_MarkReader_readWords (S : SS) (j1 : Nat) : Option (Int × SS) := f_MarkReader_readWords_2 j1 FU S 0
set_option maxHeartbeats 4000000 in
set_option maxRecDepth 100000 in
theorem g_MarkReader_readWords (l : Launch) (D : va_G) (kc : Nat → ClassId) (b : Nat) (T S : SS) (j1 : Nat) (hj1 : j1 < 40) (hS : rng S) {vr : Int} {Sr : SS} (h : f_MarkReader_readWords S j1 = some (vr, Sr)) : cI l yX4_readWords cX4_readWords 4 .boolean 7 D kc b (jX b kc T) S [.ref (b + 177), .ref (b + (14 + 4 * j1))] vr Sr := by
  refine g_beg_z (by decide) (Nat.le_of_ble_eq_true rfl) ?_
  intro p e s m args below meth c Q C ret hM ls hl
  obtain ⟨hx, hb, hml, hown, hts, hE, hbs⟩ := id C
  have hl : lv_has ls 4 [(0, .ref (b + 177)), (1, .ref (b + (14 + 4 * j1)))] := hl
  unfold f_MarkReader_readWords at h
  have B47 : ∀ (S : SS) (H : Heap) (locs : List Loc) (ls : Array Slot), rng S → mS D b s 220 (jX b kc T S) H locs → lv_has ls 4 [(0, .ref (b + 177))] → f_MarkReader_readWords_47 j1 S = some (vr, Sr) → W p l e (mR 7 0 0) s m args below meth c H locs 0 0 Q (F0 m 47 ls []) := by
    intro S H locs ls hS hM hl h
    unfold f_MarkReader_readWords_47 at h
    refine lv_aload_n hx hb dX4_readWords_47 rfl (lv_at hl 0 rfl) ?_
    refine lv_iconst (v := 1) hx hb dX4_readWords_48 (by decide) ?_
    obtain ⟨r2_z, S1_z, cr2_z, h⟩ := w_b2E h
    refine g_callI (J := jX b kc T) (m_runV calV_X4_refuse wd_760 (g_MarkReader_refuse l D kc b T S 1 1 (show (1 : Int32).toInt = 1 by decide) hS cr2_z) C hM (i := 177) (by omega) (e_177 b kc T S) rfl hl.1 rfl rfl (Nat.le_of_ble_eq_true rfl) dX4_readWords_49 ⟨Nat.le_of_ble_eq_true rfl, Nat.le_of_ble_eq_true rfl⟩ ⟨Nat.le_of_ble_eq_true rfl, Nat.le_of_ble_eq_true rfl⟩) hM (fun z3_z H locs bz3_z hM hS => ?_)
    obtain ⟨c4_z, h⟩ := w_chkE h
    exact ret S1_z _ _ _ _ z3_z (bz3_z.trans (r_1 h)) (by rw [← (r_1 h)]; exact c4_z) (r_2 h) hM hS dX4_readWords_52
  have B53 : ∀ (kf2_ : SS → Int → Option (Int × SS)) (hkf2_ : ∀ (S : SS) (H : Heap) (locs : List Loc) (ls : Array Slot) (x2_ : Int32) (v2_ : Int) (hx2_ : x2_.toInt = v2_), rng S → mS D b s 220 (jX b kc T S) H locs → lv_has ls 4 [(0, .ref (b + 177)), (1, .ref (b + (14 + 4 * j1))), (2, .int x2_)] → kf2_ S v2_ = some (vr, Sr) → W p l e (mR 7 0 0) s m args below meth c H locs 0 0 Q (F0 m 2 ls [])), ∀ (S : SS) (H : Heap) (locs : List Loc) (ls : Array Slot) (x2_ : Int32) (v2_ : Int) (hx2_ : x2_.toInt = v2_) (x3_ : Int32) (v3_ : Int) (hx3_ : x3_.toInt = v3_), rng S → mS D b s 220 (jX b kc T S) H locs → lv_has ls 4 [(0, .ref (b + 177)), (1, .ref (b + (14 + 4 * j1))), (2, .int x2_), (3, .int x3_)] → f_MarkReader_readWords_53 j1 kf2_ S v2_ v3_ = some (vr, Sr) → W p l e (mR 7 0 0) s m args below meth c H locs 0 0 Q (F0 m 53 ls []) := by
    intro kf2_ hkf2_ S H locs ls x2_ v2_ hx2_ x3_ v3_ hx3_ hS hM hl h
    unfold f_MarkReader_readWords_53 at h
    refine lv_iload_n hx hb dX4_readWords_53 rfl (lv_at hl 3 rfl) ?_
    refine lv_bipush (v := 59) hx hb dX4_readWords_54 (by decide) ?_
    refine g_icmp_ne (tgt := 71) hx hb hx3_ (show (59 : Int32).toInt = 59 by decide) h dX4_readWords_56 (by decide) (fun h => ?_) (fun h => ?_)
    · refine lv_aload_n hx hb dX4_readWords_71 rfl (lv_at hl 0 rfl) ?_
      refine lv_aload_n hx hb dX4_readWords_72 rfl (lv_at hl 1 rfl) ?_
      obtain ⟨r2_z, S1_z, cr2_z, h⟩ := w_b2E h
      refine g_callI (J := jX b kc T) (m_runV calV_X4_readWord wd_821 (g_MarkReader_readWord l D kc b T S j1 hj1 hS cr2_z) C hM (i := 177) (by omega) (e_177 b kc T S) rfl hl.1 rfl rfl (Nat.le_of_ble_eq_true rfl) dX4_readWords_73 ⟨Nat.le_of_ble_eq_true rfl, Nat.le_of_ble_eq_true rfl⟩ ⟨Nat.le_of_ble_eq_true rfl, Nat.le_of_ble_eq_true rfl⟩) hM (fun z3_z H locs bz3_z hM hS => ?_)
      refine g_if_ne (tgt := 81) hx hb bz3_z h dX4_readWords_76 (by decide) (fun h => ?_) (fun h => ?_)
      · refine g_iinc (y := 1) hx hb hx2_ (by decide) (by decide) h dX4_readWords_81 hl (k := 2) rfl (by decide) (fun z4_z ls bz4_z h hl => ?_)
        have hl : lv_has ls 4 [(2, .int z4_z), (0, .ref (b + 177)), (1, .ref (b + (14 + 4 * j1))), (3, .int x3_)] := hl
        refine lv_goto (tgt := 2) hx hb dX4_readWords_84 (by decide) ?_
        exact hkf2_ S1_z _ _ _ z4_z (v2_ + 1) bz4_z hS hM (lv_sub hl [1, 2, 0] rfl) h
      · refine lv_iconst (v := 0) hx hb dX4_readWords_79 (by decide) ?_
        exact ret S1_z _ _ _ _ 0 ((show (0 : Int32).toInt = 0 by decide).trans (r_1 h)) (by rw [← (r_1 h)]; exact (by decide)) (r_2 h) hM hS dX4_readWords_80
    · refine lv_aload_n hx hb dX4_readWords_59 rfl (lv_at hl 0 rfl) ?_
      refine lv_dup hx hb dX4_readWords_60 rfl ?_
      refine g_get fl_X4_27_X4 C hM (i := 177) (r := 177) (by omega) (e_177 b kc T S) rfl hS dX4_readWords_61 (fun z5_z bz5_z => ?_)
      refine lv_iconst (v := 1) hx hb dX4_readWords_64 (by decide) ?_
      refine g_iadd hx hb bz5_z (show (1 : Int32).toInt = 1 by decide) h dX4_readWords_65 (fun z6_z bz6_z h => ?_)
      refine g_put fl_X4_27_X4 C hM (i := 177) (by omega) (e_177 b kc T S) rfl rfl (Nat.le_of_ble_eq_true rfl) (fs1 := [va_rf (os b (gq S 177 0)), va_rf (os b (gq S 177 1)), va_rf (os b (gq S 177 2)), .int (oi (gi S 177 3)), .int z6_z, .int (oi (gi S 177 5)), .int (oi (gi S 177 6))]) rfl (p_177_4 bz6_z) (rng_si hS (i32_of bz6_z)) h dX4_readWords_66 (fun S7_z H locs h hM hS => ?_)
      refine lv_iconst (v := 1) hx hb dX4_readWords_69 (by decide) ?_
      exact ret S7_z _ _ _ _ 1 ((show (1 : Int32).toInt = 1 by decide).trans (r_1 h)) (by rw [← (r_1 h)]; exact (by decide)) (r_2 h) hM hS dX4_readWords_70
  have B2 : ∀ (n : Nat), ∀ (S : SS) (H : Heap) (locs : List Loc) (ls : Array Slot) (x2_ : Int32) (v2_ : Int) (hx2_ : x2_.toInt = v2_), rng S → mS D b s 220 (jX b kc T S) H locs → lv_has ls 4 [(0, .ref (b + 177)), (1, .ref (b + (14 + 4 * j1))), (2, .int x2_)] → f_MarkReader_readWords_2 j1 n S v2_ = some (vr, Sr) → W p l e (mR 7 0 0) s m args below meth c H locs 0 0 Q (F0 m 2 ls []) := by
    intro n
    induction n with
    | zero => intro S H locs ls x2_ v2_ hx2_ hS hM hl h; exact absurd (h : none = some _) (fun q => nomatch q)
    | succ n hkf2_ =>
      intro S H locs ls x2_ v2_ hx2_ hS hM hl h
      have h : f_MarkReader_readWords_2_b j1 (f_MarkReader_readWords_2 j1 n) S v2_ = some (vr, Sr) := h
      unfold f_MarkReader_readWords_2_b at h
      refine lv_iload_n hx hb dX4_readWords_2 rfl (lv_at hl 2 rfl) ?_
      refine lv_bipush (v := 7) hx hb dX4_readWords_3 (by decide) ?_
      refine g_icmp_gt (tgt := 87) hx hb hx2_ (show (7 : Int32).toInt = 7 by decide) h dX4_readWords_5 (by decide) (fun h => ?_) (fun h => ?_)
      · refine lv_iconst (v := 0) hx hb dX4_readWords_87 (by decide) ?_
        exact ret S _ _ _ _ 0 ((show (0 : Int32).toInt = 0 by decide).trans (r_1 h)) (by rw [← (r_1 h)]; exact (by decide)) (r_2 h) hM hS dX4_readWords_88
      · refine lv_aload_n hx hb dX4_readWords_8 rfl (lv_at hl 0 rfl) ?_
        obtain ⟨S1_z, cS1_z, h⟩ := w_b1E h
        refine g_callV (J := jX b kc T) (m_runV calV_X4_skipBlanks wd_713 (g_MarkReader_skipBlanks l D kc b T S hS cS1_z) C hM (i := 177) (by omega) (e_177 b kc T S) rfl hl.1 rfl rfl (Nat.le_of_ble_eq_true rfl) dX4_readWords_9 ⟨Nat.le_of_ble_eq_true rfl, Nat.le_of_ble_eq_true rfl⟩ ⟨Nat.le_of_ble_eq_true rfl, Nat.le_of_ble_eq_true rfl⟩) hM (fun H locs hM hS => ?_)
        refine lv_aload_n hx hb dX4_readWords_12 rfl (lv_at hl 0 rfl) ?_
        refine lv_aload_n hx hb dX4_readWords_13 rfl (lv_at hl 0 rfl) ?_
        refine g_get fl_X4_27_X4 C hM (i := 177) (r := 177) (by omega) (e_177 b kc T S1_z) rfl hS dX4_readWords_14 (fun z3_z bz3_z => ?_)
        refine g_put fl_X4_43_X4 C hM (i := 177) (by omega) (e_177 b kc T S1_z) rfl rfl (Nat.le_of_ble_eq_true rfl) (fs1 := [va_rf (os b (gq S1_z 177 0)), va_rf (os b (gq S1_z 177 1)), va_rf (os b (gq S1_z 177 2)), .int (oi (gi S1_z 177 3)), .int (oi (gi S1_z 177 4)), .int z3_z, .int (oi (gi S1_z 177 6))]) rfl (p_177_5 bz3_z) (rng_si hS (i32_of bz3_z)) h dX4_readWords_17 (fun S4_z H locs h hM hS => ?_)
        refine lv_aload_n hx hb dX4_readWords_20 rfl (lv_at hl 0 rfl) ?_
        refine g_getqf fl_X4_9_X4 C hM (i := 177) (r := 177) (by omega) (e_177 b kc T S4_z) rfl h dX4_readWords_21 (fun h => ?_)
        refine lv_aload_n hx hb dX4_readWords_24 rfl (lv_at hl 0 rfl) ?_
        refine g_get fl_X4_27_X4 C hM (i := 177) (r := 177) (by omega) (e_177 b kc T S4_z) rfl hS dX4_readWords_25 (fun z5_z bz5_z => ?_)
        obtain ⟨r6_z, cr6_z, h⟩ := w_b1E h
        refine g_callI (J := jX b kc T) (m_runV calV_X10_byteAt wd_717 (g_Tape_byteAt l D kc b T S4_z z5_z (gi S4_z 177 4) bz5_z hS cr6_z) C hM (i := 1) (by omega) (e_1 b kc T S4_z) rfl hl.1 rfl rfl (Nat.le_of_ble_eq_true rfl) dX4_readWords_28 ⟨Nat.le_of_ble_eq_true rfl, Nat.le_of_ble_eq_true rfl⟩ ⟨Nat.le_of_ble_eq_true rfl, Nat.le_of_ble_eq_true rfl⟩) hM (fun z7_z H locs bz7_z hM hS => ?_)
        refine lv_istore_n (lv' := [(3, .int z7_z), (0, .ref (b + 177)), (1, .ref (b + (14 + 4 * j1))), (2, .int x2_)]) hx hb dX4_readWords_31 rfl hl (by decide) rfl (fun ls hl => ?_)
        refine lv_iload_n hx hb dX4_readWords_32 rfl (lv_at hl 0 rfl) ?_
        refine lv_iconst (v := (-1)) hx hb dX4_readWords_33 (by decide) ?_
        refine g_icmp_eq (tgt := 47) hx hb bz7_z (show ((-1) : Int32).toInt = (-1) by decide) h dX4_readWords_34 (by decide) (fun h => ?_) (fun h => ?_)
        · exact B47 S4_z _ _ _ hS hM (lv_sub hl [1] rfl) h
        · refine lv_iload_n hx hb dX4_readWords_37 rfl (lv_at hl 0 rfl) ?_
          refine lv_bipush (v := 59) hx hb dX4_readWords_38 (by decide) ?_
          refine g_icmp_ne (tgt := 53) hx hb bz7_z (show (59 : Int32).toInt = 59 by decide) h dX4_readWords_40 (by decide) (fun h => ?_) (fun h => ?_)
          · exact B53 (f_MarkReader_readWords_2 j1 n) hkf2_ S4_z _ _ _ x2_ v2_ hx2_ z7_z r6_z bz7_z hS hM (lv_sub hl [1, 2, 3, 0] rfl) h
          · refine lv_iload_n hx hb dX4_readWords_43 rfl (lv_at hl 3 rfl) ?_
            refine g_if_ne (tgt := 53) hx hb hx2_ h dX4_readWords_44 (by decide) (fun h => ?_) (fun h => ?_)
            · exact B53 (f_MarkReader_readWords_2 j1 n) hkf2_ S4_z _ _ _ x2_ v2_ hx2_ z7_z r6_z bz7_z hS hM (lv_sub hl [1, 2, 3, 0] rfl) h
            · exact B47 S4_z _ _ _ hS hM (lv_sub hl [1] rfl) h
  refine lv_iconst (v := 0) hx hb dX4_readWords_0 (by decide) ?_
  refine lv_istore_n (lv' := [(2, .int 0), (0, .ref (b + 177)), (1, .ref (b + (14 + 4 * j1)))]) hx hb dX4_readWords_1 rfl hl (by decide) rfl (fun ls hl => ?_)
  exact B2 FU S _ _ _ 0 0 (show (0 : Int32).toInt = 0 by decide) hS hM (lv_sub hl [1, 2, 0] rfl) h

def f_MarkReader_readLine_92 (S : SS) : Option (Int × SS) := w_b2 (f_MarkReader_refuse S 1) (fun r2_z S1_z => w_chk (r2_z = 0 ∨ r2_z = 1) (some (r2_z, S1_z)))
def f_MarkReader_readLine_132 (S : SS) (j2_ : Nat) : Option (Int × SS) := w_b1 (f_MarkReader_isToken S 11) (fun r1_z => (if r1_z = 0 then w_b2 (f_MarkReader_refuse S 1) (fun r4_z S3_z => w_chk (r4_z = 0 ∨ r4_z = 1) (some (r4_z, S3_z))) else w_b2 (f_MarkReader_readWords S j2_) (fun r8_z S7_z => w_chk (r8_z = 0 ∨ r8_z = 1) (some (r8_z, S7_z)))))
def f_MarkReader_readLine_98 (S : SS) (j2_ : Nat) : Option (Int × SS) := w_b2 (f_MarkReader_readNumbers S j2_) (fun r2_z S1_z => (if r2_z = 0 then some (0, S1_z) else w_b1 (f_Mark_place S1_z j2_) (fun S4_z => w_b1 (f_MarkReader_readToken S4_z) (fun S6_z => (if gi S6_z (14 + 4 * j2_) 2 = 1 then f_MarkReader_readLine_132 S6_z j2_ else (if gi S6_z (14 + 4 * j2_) 2 = 2 then f_MarkReader_readLine_132 S6_z j2_ else w_b1 (f_MarkReader_isToken S6_z 12) (fun r10_z => (if r10_z = 0 then w_b2 (f_MarkReader_refuse S6_z 1) (fun r13_z S12_z => (if r13_z = 0 then some (0, S12_z) else some (1, S12_z))) else some (1, S6_z)))))))))
def f_MarkReader_readLine_61 (S : SS) (j2_ : Nat) : Option (Int × SS) := w_b1 (f_MarkReader_kindNamed S) (fun r1_z => w_lt (si S (14 + 4 * j2_) 2 r1_z) (fun S3_z => (if gi S3_z (14 + 4 * j2_) 2 = (-1) then f_MarkReader_readLine_92 S3_z  else (if gi S3_z (14 + 4 * j2_) 7 = 0 then f_MarkReader_readLine_98 S3_z j2_ else (if gi S3_z (14 + 4 * j2_) 2 = 5 then f_MarkReader_readLine_92 S3_z  else f_MarkReader_readLine_98 S3_z j2_)))))
def f_MarkReader_readLine (S : SS) : Option (Int × SS) := w_b1 (f_MarkReader_handNamed S) (fun r1_z => (if r1_z = (-1) then w_b2 (f_MarkReader_refuse S 1) (fun r20_z S19_z => w_chk (r20_z = 0 ∨ r20_z = 1) (some (r20_z, S19_z))) else w_chk (gq S 177 1 = some 10) (w_b2 (f_Pile_blank S) (fun o4_z S3_z => w_on o4_z (w_b2 (f_MarkReader_refuse S3_z 3) (fun r8_z S7_z => w_chk (r8_z = 0 ∨ r8_z = 1) (some (r8_z, S7_z)))) (fun j6_z => w_chk (j6_z < 40) (w_lt (si S3_z (14 + 4 * j6_z) 3 r1_z) (fun S11_z => w_b1 (f_MarkReader_readToken S11_z) (fun S12_z => w_b1 (f_MarkReader_isToken S12_z 4) (fun r14_z => (if r14_z = 0 then f_MarkReader_readLine_61 S12_z j6_z else w_lt (si S12_z (14 + 4 * j6_z) 7 1) (fun S16_z => w_b1 (f_MarkReader_readToken S16_z) (fun S17_z => f_MarkReader_readLine_61 S17_z j6_z))))))))))))
set_option maxHeartbeats 4000000 in
set_option maxRecDepth 100000 in
theorem g_MarkReader_readLine (l : Launch) (D : va_G) (kc : Nat → ClassId) (b : Nat) (T S : SS) (hS : rng S) {vr : Int} {Sr : SS} (h : f_MarkReader_readLine S = some (vr, Sr)) : cI l yX4_readLine cX4_readLine 3 .boolean 8 D kc b (jX b kc T) S [.ref (b + 177)] vr Sr := by
  refine g_beg_z (by decide) (Nat.le_of_ble_eq_true rfl) ?_
  intro p e s m args below meth c Q C ret hM ls hl
  obtain ⟨hx, hb, hml, hown, hts, hE, hbs⟩ := id C
  have hl : lv_has ls 3 [(0, .ref (b + 177))] := hl
  unfold f_MarkReader_readLine at h
  have B92 : ∀ (S : SS) (H : Heap) (locs : List Loc) (ls : Array Slot), rng S → mS D b s 220 (jX b kc T S) H locs → lv_has ls 3 [(0, .ref (b + 177))] → f_MarkReader_readLine_92 S = some (vr, Sr) → W p l e (mR 8 0 0) s m args below meth c H locs 0 0 Q (F0 m 92 ls []) := by
    intro S H locs ls hS hM hl h
    unfold f_MarkReader_readLine_92 at h
    refine lv_aload_n hx hb dX4_readLine_92 rfl (lv_at hl 0 rfl) ?_
    refine lv_iconst (v := 1) hx hb dX4_readLine_93 (by decide) ?_
    obtain ⟨r2_z, S1_z, cr2_z, h⟩ := w_b2E h
    refine g_callI (J := jX b kc T) (m_runV calV_X4_refuse wd_760 (g_MarkReader_refuse l D kc b T S 1 1 (show (1 : Int32).toInt = 1 by decide) hS cr2_z) C hM (i := 177) (by omega) (e_177 b kc T S) rfl hl.1 rfl rfl (Nat.le_of_ble_eq_true rfl) dX4_readLine_94 ⟨Nat.le_of_ble_eq_true rfl, Nat.le_of_ble_eq_true rfl⟩ ⟨Nat.le_of_ble_eq_true rfl, Nat.le_of_ble_eq_true rfl⟩) hM (fun z3_z H locs bz3_z hM hS => ?_)
    obtain ⟨c4_z, h⟩ := w_chkE h
    exact ret S1_z _ _ _ _ z3_z (bz3_z.trans (r_1 h)) (by rw [← (r_1 h)]; exact c4_z) (r_2 h) hM hS dX4_readLine_97
  have B132 : ∀ (S : SS) (H : Heap) (locs : List Loc) (ls : Array Slot) (j2_ : Nat) (hj2_ : j2_ < 40), rng S → mS D b s 220 (jX b kc T S) H locs → lv_has ls 3 [(0, .ref (b + 177)), (2, .ref (b + (14 + 4 * j2_)))] → f_MarkReader_readLine_132 S j2_ = some (vr, Sr) → W p l e (mR 8 0 0) s m args below meth c H locs 0 0 Q (F0 m 132 ls []) := by
    intro S H locs ls j2_ hj2_ hS hM hl h
    unfold f_MarkReader_readLine_132 at h
    refine lv_aload_n hx hb dX4_readLine_132 rfl (lv_at hl 0 rfl) ?_
    refine g_ldcS (tx := "=") (i := 11) C (by decide) dX4_readLine_133 ?_
    obtain ⟨r1_z, cr1_z, h⟩ := w_b1E h
    refine g_callI (J := jX b kc T) (m_runV calV_X4_isToken wd_733 (g_MarkReader_isToken l D kc b T S 11 (show 11 < 13 by decide) hS cr1_z) C hM (i := 177) (by omega) (e_177 b kc T S) rfl hl.1 rfl rfl (Nat.le_of_ble_eq_true rfl) dX4_readLine_135 ⟨Nat.le_of_ble_eq_true rfl, Nat.le_of_ble_eq_true rfl⟩ ⟨Nat.le_of_ble_eq_true rfl, Nat.le_of_ble_eq_true rfl⟩) hM (fun z2_z H locs bz2_z hM hS => ?_)
    refine g_if_eq (tgt := 149) hx hb bz2_z h dX4_readLine_138 (by decide) (fun h => ?_) (fun h => ?_)
    · refine lv_aload_n hx hb dX4_readLine_149 rfl (lv_at hl 0 rfl) ?_
      refine lv_iconst (v := 1) hx hb dX4_readLine_150 (by decide) ?_
      obtain ⟨r4_z, S3_z, cr4_z, h⟩ := w_b2E h
      refine g_callI (J := jX b kc T) (m_runV calV_X4_refuse wd_760 (g_MarkReader_refuse l D kc b T S 1 1 (show (1 : Int32).toInt = 1 by decide) hS cr4_z) C hM (i := 177) (by omega) (e_177 b kc T S) rfl hl.1 rfl rfl (Nat.le_of_ble_eq_true rfl) dX4_readLine_151 ⟨Nat.le_of_ble_eq_true rfl, Nat.le_of_ble_eq_true rfl⟩ ⟨Nat.le_of_ble_eq_true rfl, Nat.le_of_ble_eq_true rfl⟩) hM (fun z5_z H locs bz5_z hM hS => ?_)
      obtain ⟨c6_z, h⟩ := w_chkE h
      exact ret S3_z _ _ _ _ z5_z (bz5_z.trans (r_1 h)) (by rw [← (r_1 h)]; exact c6_z) (r_2 h) hM hS dX4_readLine_154
    · refine lv_aload_n hx hb dX4_readLine_141 rfl (lv_at hl 0 rfl) ?_
      refine lv_aload_n hx hb dX4_readLine_142 rfl (lv_at hl 1 rfl) ?_
      obtain ⟨r8_z, S7_z, cr8_z, h⟩ := w_b2E h
      refine g_callI (J := jX b kc T) (m_runV calV_X4_readWords wd_817 (g_MarkReader_readWords l D kc b T S j2_ hj2_ hS cr8_z) C hM (i := 177) (by omega) (e_177 b kc T S) rfl hl.1 rfl rfl (Nat.le_of_ble_eq_true rfl) dX4_readLine_143 ⟨Nat.le_of_ble_eq_true rfl, Nat.le_of_ble_eq_true rfl⟩ ⟨Nat.le_of_ble_eq_true rfl, Nat.le_of_ble_eq_true rfl⟩) hM (fun z9_z H locs bz9_z hM hS => ?_)
      refine lv_goto (tgt := 154) hx hb dX4_readLine_146 (by decide) ?_
      obtain ⟨c10_z, h⟩ := w_chkE h
      exact ret S7_z _ _ _ _ z9_z (bz9_z.trans (r_1 h)) (by rw [← (r_1 h)]; exact c10_z) (r_2 h) hM hS dX4_readLine_154
  have B98 : ∀ (S : SS) (H : Heap) (locs : List Loc) (ls : Array Slot) (j2_ : Nat) (hj2_ : j2_ < 40), rng S → mS D b s 220 (jX b kc T S) H locs → lv_has ls 3 [(0, .ref (b + 177)), (2, .ref (b + (14 + 4 * j2_)))] → f_MarkReader_readLine_98 S j2_ = some (vr, Sr) → W p l e (mR 8 0 0) s m args below meth c H locs 0 0 Q (F0 m 98 ls []) := by
    intro S H locs ls j2_ hj2_ hS hM hl h
    unfold f_MarkReader_readLine_98 at h
    refine lv_aload_n hx hb dX4_readLine_98 rfl (lv_at hl 0 rfl) ?_
    refine lv_aload_n hx hb dX4_readLine_99 rfl (lv_at hl 1 rfl) ?_
    obtain ⟨r2_z, S1_z, cr2_z, h⟩ := w_b2E h
    refine g_callI (J := jX b kc T) (m_runV calV_X4_readNumbers wd_785 (g_MarkReader_readNumbers l D kc b T S j2_ hj2_ hS cr2_z) C hM (i := 177) (by omega) (e_177 b kc T S) rfl hl.1 rfl rfl (Nat.le_of_ble_eq_true rfl) dX4_readLine_100 ⟨Nat.le_of_ble_eq_true rfl, Nat.le_of_ble_eq_true rfl⟩ ⟨Nat.le_of_ble_eq_true rfl, Nat.le_of_ble_eq_true rfl⟩) hM (fun z3_z H locs bz3_z hM hS => ?_)
    refine g_if_ne (tgt := 108) hx hb bz3_z h dX4_readLine_103 (by decide) (fun h => ?_) (fun h => ?_)
    · refine lv_aload_n hx hb dX4_readLine_108 rfl (lv_at hl 1 rfl) ?_
      obtain ⟨S4_z, cS4_z, h⟩ := w_b1E h
      refine g_callV (J := jX b kc T) (m_runV calV_X3_place wd_812 (g_Mark_place l D kc b T S1_z j2_ hj2_ hS cS4_z) C hM (i := 14 + 4 * j2_) (by omega) (e_mk b kc T S1_z hj2_) rfl hl.1 rfl rfl (Nat.le_of_ble_eq_true rfl) dX4_readLine_109 ⟨Nat.le_of_ble_eq_true rfl, Nat.le_of_ble_eq_true rfl⟩ ⟨Nat.le_of_ble_eq_true rfl, Nat.le_of_ble_eq_true rfl⟩) hM (fun H locs hM hS => ?_)
      refine lv_aload_n hx hb dX4_readLine_112 rfl (lv_at hl 0 rfl) ?_
      obtain ⟨S6_z, cS6_z, h⟩ := w_b1E h
      refine g_callV (J := jX b kc T) (m_runV calV_X4_readToken wd_709 (g_MarkReader_readToken l D kc b T S4_z hS cS6_z) C hM (i := 177) (by omega) (e_177 b kc T S4_z) rfl hl.1 rfl rfl (Nat.le_of_ble_eq_true rfl) dX4_readLine_113 ⟨Nat.le_of_ble_eq_true rfl, Nat.le_of_ble_eq_true rfl⟩ ⟨Nat.le_of_ble_eq_true rfl, Nat.le_of_ble_eq_true rfl⟩) hM (fun H locs hM hS => ?_)
      refine lv_aload_n hx hb dX4_readLine_116 rfl (lv_at hl 1 rfl) ?_
      refine g_getN fl_X4_85_X3 C hM (i := 14 + 4 * j2_) (r := 14 + 4 * j2_) (by omega) (e_mk b kc T S6_z hj2_) rfl hS dX4_readLine_117 (fun z8_z bz8_z => ?_)
      refine lv_iconst (v := 1) hx hb dX4_readLine_120 (by decide) ?_
      refine g_icmp_eq (tgt := 132) hx hb bz8_z (show (1 : Int32).toInt = 1 by decide) h dX4_readLine_121 (by decide) (fun h => ?_) (fun h => ?_)
      · exact B132 S6_z _ _ _ j2_ hj2_ hS hM (lv_sub hl [0, 1] rfl) h
      · refine lv_aload_n hx hb dX4_readLine_124 rfl (lv_at hl 1 rfl) ?_
        refine g_getN fl_X4_85_X3 C hM (i := 14 + 4 * j2_) (r := 14 + 4 * j2_) (by omega) (e_mk b kc T S6_z hj2_) rfl hS dX4_readLine_125 (fun z9_z bz9_z => ?_)
        refine lv_iconst (v := 2) hx hb dX4_readLine_128 (by decide) ?_
        refine g_icmp_ne (tgt := 155) hx hb bz9_z (show (2 : Int32).toInt = 2 by decide) h dX4_readLine_129 (by decide) (fun h => ?_) (fun h => ?_)
        · refine lv_aload_n hx hb dX4_readLine_155 rfl (lv_at hl 0 rfl) ?_
          refine g_ldcS (tx := ";") (i := 12) C (by decide) dX4_readLine_156 ?_
          obtain ⟨r10_z, cr10_z, h⟩ := w_b1E h
          refine g_callI (J := jX b kc T) (m_runV calV_X4_isToken wd_733 (g_MarkReader_isToken l D kc b T S6_z 12 (show 12 < 13 by decide) hS cr10_z) C hM (i := 177) (by omega) (e_177 b kc T S6_z) rfl hl.1 rfl rfl (Nat.le_of_ble_eq_true rfl) dX4_readLine_158 ⟨Nat.le_of_ble_eq_true rfl, Nat.le_of_ble_eq_true rfl⟩ ⟨Nat.le_of_ble_eq_true rfl, Nat.le_of_ble_eq_true rfl⟩) hM (fun z11_z H locs bz11_z hM hS => ?_)
          refine g_if_ne (tgt := 172) hx hb bz11_z h dX4_readLine_161 (by decide) (fun h => ?_) (fun h => ?_)
          · refine lv_iconst (v := 1) hx hb dX4_readLine_172 (by decide) ?_
            refine lv_goto (tgt := 177) hx hb dX4_readLine_173 (by decide) ?_
            exact ret S6_z _ _ _ _ 1 ((show (1 : Int32).toInt = 1 by decide).trans (r_1 h)) (by rw [← (r_1 h)]; exact (by decide)) (r_2 h) hM hS dX4_readLine_177
          · refine lv_aload_n hx hb dX4_readLine_164 rfl (lv_at hl 0 rfl) ?_
            refine lv_iconst (v := 1) hx hb dX4_readLine_165 (by decide) ?_
            obtain ⟨r13_z, S12_z, cr13_z, h⟩ := w_b2E h
            refine g_callI (J := jX b kc T) (m_runV calV_X4_refuse wd_760 (g_MarkReader_refuse l D kc b T S6_z 1 1 (show (1 : Int32).toInt = 1 by decide) hS cr13_z) C hM (i := 177) (by omega) (e_177 b kc T S6_z) rfl hl.1 rfl rfl (Nat.le_of_ble_eq_true rfl) dX4_readLine_166 ⟨Nat.le_of_ble_eq_true rfl, Nat.le_of_ble_eq_true rfl⟩ ⟨Nat.le_of_ble_eq_true rfl, Nat.le_of_ble_eq_true rfl⟩) hM (fun z14_z H locs bz14_z hM hS => ?_)
            refine g_if_eq (tgt := 176) hx hb bz14_z h dX4_readLine_169 (by decide) (fun h => ?_) (fun h => ?_)
            · refine lv_iconst (v := 0) hx hb dX4_readLine_176 (by decide) ?_
              exact ret S12_z _ _ _ _ 0 ((show (0 : Int32).toInt = 0 by decide).trans (r_1 h)) (by rw [← (r_1 h)]; exact (by decide)) (r_2 h) hM hS dX4_readLine_177
            · refine lv_iconst (v := 1) hx hb dX4_readLine_172 (by decide) ?_
              refine lv_goto (tgt := 177) hx hb dX4_readLine_173 (by decide) ?_
              exact ret S12_z _ _ _ _ 1 ((show (1 : Int32).toInt = 1 by decide).trans (r_1 h)) (by rw [← (r_1 h)]; exact (by decide)) (r_2 h) hM hS dX4_readLine_177
        · exact B132 S6_z _ _ _ j2_ hj2_ hS hM (lv_sub hl [0, 1] rfl) h
    · refine lv_iconst (v := 0) hx hb dX4_readLine_106 (by decide) ?_
      exact ret S1_z _ _ _ _ 0 ((show (0 : Int32).toInt = 0 by decide).trans (r_1 h)) (by rw [← (r_1 h)]; exact (by decide)) (r_2 h) hM hS dX4_readLine_107
  have B61 : ∀ (S : SS) (H : Heap) (locs : List Loc) (ls : Array Slot) (j2_ : Nat) (hj2_ : j2_ < 40), rng S → mS D b s 220 (jX b kc T S) H locs → lv_has ls 3 [(0, .ref (b + 177)), (2, .ref (b + (14 + 4 * j2_)))] → f_MarkReader_readLine_61 S j2_ = some (vr, Sr) → W p l e (mR 8 0 0) s m args below meth c H locs 0 0 Q (F0 m 61 ls []) := by
    intro S H locs ls j2_ hj2_ hS hM hl h
    unfold f_MarkReader_readLine_61 at h
    refine lv_aload_n hx hb dX4_readLine_61 rfl (lv_at hl 1 rfl) ?_
    refine lv_aload_n hx hb dX4_readLine_62 rfl (lv_at hl 0 rfl) ?_
    obtain ⟨r1_z, cr1_z, h⟩ := w_b1E h
    refine g_callI (J := jX b kc T) (m_runV calV_X4_kindNamed wd_775 (g_MarkReader_kindNamed l D kc b T S hS cr1_z) C hM (i := 177) (by omega) (e_177 b kc T S) rfl hl.1 rfl rfl (Nat.le_of_ble_eq_true rfl) dX4_readLine_63 ⟨Nat.le_of_ble_eq_true rfl, Nat.le_of_ble_eq_true rfl⟩ ⟨Nat.le_of_ble_eq_true rfl, Nat.le_of_ble_eq_true rfl⟩) hM (fun z2_z H locs bz2_z hM hS => ?_)
    refine g_putN fl_X4_85_X3 C hM (i := 14 + 4 * j2_) (by omega) (e_mk b kc T S hj2_) rfl rfl (Nat.le_of_ble_eq_true rfl) (fs1 := [.ref (b + (14 + 4 * j2_ + 1)), .ref (b + (14 + 4 * j2_ + 2)), .int z2_z, .int (oi (gi S (14 + 4 * j2_) 3)), .int (oi (gi S (14 + 4 * j2_) 4)), .int (oi (gi S (14 + 4 * j2_) 5)), .int (oi (gi S (14 + 4 * j2_) 6)), .int (oi (gi S (14 + 4 * j2_) 7)), .int (oi (gi S (14 + 4 * j2_) 8)), .int (oi (gi S (14 + 4 * j2_) 9)), .int (oi (gi S (14 + 4 * j2_) 10)), .int (oi (gi S (14 + 4 * j2_) 11)), .int (oi (gi S (14 + 4 * j2_) 12))]) rfl (p_mk_2 hj2_ bz2_z) (rng_si hS (i32_of bz2_z)) h dX4_readLine_66 (fun S3_z H locs h hM hS => ?_)
    refine lv_aload_n hx hb dX4_readLine_69 rfl (lv_at hl 1 rfl) ?_
    refine g_getN fl_X4_85_X3 C hM (i := 14 + 4 * j2_) (r := 14 + 4 * j2_) (by omega) (e_mk b kc T S3_z hj2_) rfl hS dX4_readLine_70 (fun z4_z bz4_z => ?_)
    refine lv_iconst (v := (-1)) hx hb dX4_readLine_73 (by decide) ?_
    refine g_icmp_eq (tgt := 92) hx hb bz4_z (show ((-1) : Int32).toInt = (-1) by decide) h dX4_readLine_74 (by decide) (fun h => ?_) (fun h => ?_)
    · exact B92 S3_z _ _ _ hS hM (lv_sub hl [0] rfl) h
    · refine lv_aload_n hx hb dX4_readLine_77 rfl (lv_at hl 1 rfl) ?_
      refine g_getN fl_X4_78_X3 C hM (i := 14 + 4 * j2_) (r := 14 + 4 * j2_) (by omega) (e_mk b kc T S3_z hj2_) rfl hS dX4_readLine_78 (fun z5_z bz5_z => ?_)
      refine g_if_eq (tgt := 98) hx hb bz5_z h dX4_readLine_81 (by decide) (fun h => ?_) (fun h => ?_)
      · exact B98 S3_z _ _ _ j2_ hj2_ hS hM (lv_sub hl [0, 1] rfl) h
      · refine lv_aload_n hx hb dX4_readLine_84 rfl (lv_at hl 1 rfl) ?_
        refine g_getN fl_X4_85_X3 C hM (i := 14 + 4 * j2_) (r := 14 + 4 * j2_) (by omega) (e_mk b kc T S3_z hj2_) rfl hS dX4_readLine_85 (fun z6_z bz6_z => ?_)
        refine lv_iconst (v := 5) hx hb dX4_readLine_88 (by decide) ?_
        refine g_icmp_ne (tgt := 98) hx hb bz6_z (show (5 : Int32).toInt = 5 by decide) h dX4_readLine_89 (by decide) (fun h => ?_) (fun h => ?_)
        · exact B98 S3_z _ _ _ j2_ hj2_ hS hM (lv_sub hl [0, 1] rfl) h
        · exact B92 S3_z _ _ _ hS hM (lv_sub hl [0] rfl) h
  refine lv_aload_n hx hb dX4_readLine_0 rfl (lv_at hl 0 rfl) ?_
  obtain ⟨r1_z, cr1_z, h⟩ := w_b1E h
  refine g_callI (J := jX b kc T) (m_runV calV_X4_handNamed wd_728 (g_MarkReader_handNamed l D kc b T S hS cr1_z) C hM (i := 177) (by omega) (e_177 b kc T S) rfl hl.1 rfl rfl (Nat.le_of_ble_eq_true rfl) dX4_readLine_1 ⟨Nat.le_of_ble_eq_true rfl, Nat.le_of_ble_eq_true rfl⟩ ⟨Nat.le_of_ble_eq_true rfl, Nat.le_of_ble_eq_true rfl⟩) hM (fun z2_z H locs bz2_z hM hS => ?_)
  refine lv_istore_n (lv' := [(1, .int z2_z), (0, .ref (b + 177))]) hx hb dX4_readLine_4 rfl hl (by decide) rfl (fun ls hl => ?_)
  refine lv_iload_n hx hb dX4_readLine_5 rfl (lv_at hl 0 rfl) ?_
  refine lv_iconst (v := (-1)) hx hb dX4_readLine_6 (by decide) ?_
  refine g_icmp_ne (tgt := 16) hx hb bz2_z (show ((-1) : Int32).toInt = (-1) by decide) h dX4_readLine_7 (by decide) (fun h => ?_) (fun h => ?_)
  · refine lv_aload_n hx hb dX4_readLine_16 rfl (lv_at hl 1 rfl) ?_
    refine g_getqf fl_X4_15_X4 C hM (i := 177) (r := 177) (by omega) (e_177 b kc T S) rfl h dX4_readLine_17 (fun h => ?_)
    obtain ⟨o4_z, S3_z, co4_z, h⟩ := w_b2E h
    refine g_callQ (J := jX b kc T) (m_runV calV_X5_blank wd_765 (g_Pile_blank l D kc b T S hS co4_z) C hM (i := 10) (by omega) (e_10 b kc T S) rfl hl.1 rfl rfl (Nat.le_of_ble_eq_true rfl) dX4_readLine_20 ⟨Nat.le_of_ble_eq_true rfl, Nat.le_of_ble_eq_true rfl⟩ ⟨Nat.le_of_ble_eq_true rfl, Nat.le_of_ble_eq_true rfl⟩) hM (fun z5_z H locs bz5_z hM hS => ?_)
    subst bz5_z
    refine lv_astore_nq (lv' := [(2, va_rf (om b o4_z)), (1, .int z2_z), (0, .ref (b + 177))]) hx hb dX4_readLine_23 rfl hl (by decide) rfl (fun ls hl => ?_)
    refine lv_aload_nq hx hb dX4_readLine_24 rfl (lv_at hl 0 rfl) ?_
    cases o4_z with
    | none =>
      replace h := w_onN h
      have hl : lv_has ls 3 [(2, .null), (1, .int z2_z), (0, .ref (b + 177))] := hl
      refine lv_ifnonnullN hx hb dX4_readLine_25 ?_
      refine lv_aload_n hx hb dX4_readLine_28 rfl (lv_at hl 2 rfl) ?_
      refine lv_iconst (v := 3) hx hb dX4_readLine_29 (by decide) ?_
      obtain ⟨r8_z, S7_z, cr8_z, h⟩ := w_b2E h
      refine g_callI (J := jX b kc T) (m_runV calV_X4_refuse wd_760 (g_MarkReader_refuse l D kc b T S3_z 3 3 (show (3 : Int32).toInt = 3 by decide) hS cr8_z) C hM (i := 177) (by omega) (e_177 b kc T S3_z) rfl hl.1 rfl rfl (Nat.le_of_ble_eq_true rfl) dX4_readLine_30 ⟨Nat.le_of_ble_eq_true rfl, Nat.le_of_ble_eq_true rfl⟩ ⟨Nat.le_of_ble_eq_true rfl, Nat.le_of_ble_eq_true rfl⟩) hM (fun z9_z H locs bz9_z hM hS => ?_)
      obtain ⟨c10_z, h⟩ := w_chkE h
      exact ret S7_z _ _ _ _ z9_z (bz9_z.trans (r_1 h)) (by rw [← (r_1 h)]; exact c10_z) (r_2 h) hM hS dX4_readLine_33
    | some j6_z =>
      obtain ⟨hj6_z, h⟩ := w_chkE (w_onS h)
      have hl : lv_has ls 3 [(2, .ref (b + (14 + 4 * j6_z))), (1, .int z2_z), (0, .ref (b + 177))] := hl
      refine lv_ifnonnull (tgt := 34) hx hb dX4_readLine_25 (by decide) ?_
      refine lv_aload_n hx hb dX4_readLine_34 rfl (lv_at hl 0 rfl) ?_
      refine lv_iload_n hx hb dX4_readLine_35 rfl (lv_at hl 1 rfl) ?_
      refine g_putN fl_X4_67_X3 C hM (i := 14 + 4 * j6_z) (by omega) (e_mk b kc T S3_z hj6_z) rfl rfl (Nat.le_of_ble_eq_true rfl) (fs1 := [.ref (b + (14 + 4 * j6_z + 1)), .ref (b + (14 + 4 * j6_z + 2)), .int (oi (gi S3_z (14 + 4 * j6_z) 2)), .int z2_z, .int (oi (gi S3_z (14 + 4 * j6_z) 4)), .int (oi (gi S3_z (14 + 4 * j6_z) 5)), .int (oi (gi S3_z (14 + 4 * j6_z) 6)), .int (oi (gi S3_z (14 + 4 * j6_z) 7)), .int (oi (gi S3_z (14 + 4 * j6_z) 8)), .int (oi (gi S3_z (14 + 4 * j6_z) 9)), .int (oi (gi S3_z (14 + 4 * j6_z) 10)), .int (oi (gi S3_z (14 + 4 * j6_z) 11)), .int (oi (gi S3_z (14 + 4 * j6_z) 12))]) rfl (p_mk_3 hj6_z bz2_z) (rng_si hS (i32_of bz2_z)) h dX4_readLine_36 (fun S11_z H locs h hM hS => ?_)
      refine lv_aload_n hx hb dX4_readLine_39 rfl (lv_at hl 2 rfl) ?_
      obtain ⟨S12_z, cS12_z, h⟩ := w_b1E h
      refine g_callV (J := jX b kc T) (m_runV calV_X4_readToken wd_709 (g_MarkReader_readToken l D kc b T S11_z hS cS12_z) C hM (i := 177) (by omega) (e_177 b kc T S11_z) rfl hl.1 rfl rfl (Nat.le_of_ble_eq_true rfl) dX4_readLine_40 ⟨Nat.le_of_ble_eq_true rfl, Nat.le_of_ble_eq_true rfl⟩ ⟨Nat.le_of_ble_eq_true rfl, Nat.le_of_ble_eq_true rfl⟩) hM (fun H locs hM hS => ?_)
      refine lv_aload_n hx hb dX4_readLine_43 rfl (lv_at hl 2 rfl) ?_
      refine g_ldcS (tx := "?") (i := 4) C (by decide) dX4_readLine_44 ?_
      obtain ⟨r14_z, cr14_z, h⟩ := w_b1E h
      refine g_callI (J := jX b kc T) (m_runV calV_X4_isToken wd_733 (g_MarkReader_isToken l D kc b T S12_z 4 (show 4 < 13 by decide) hS cr14_z) C hM (i := 177) (by omega) (e_177 b kc T S12_z) rfl hl.1 rfl rfl (Nat.le_of_ble_eq_true rfl) dX4_readLine_46 ⟨Nat.le_of_ble_eq_true rfl, Nat.le_of_ble_eq_true rfl⟩ ⟨Nat.le_of_ble_eq_true rfl, Nat.le_of_ble_eq_true rfl⟩) hM (fun z15_z H locs bz15_z hM hS => ?_)
      refine g_if_eq (tgt := 61) hx hb bz15_z h dX4_readLine_49 (by decide) (fun h => ?_) (fun h => ?_)
      · exact B61 S12_z _ _ _ j6_z hj6_z hS hM (lv_sub hl [2, 0] rfl) h
      · refine lv_aload_n hx hb dX4_readLine_52 rfl (lv_at hl 0 rfl) ?_
        refine lv_iconst (v := 1) hx hb dX4_readLine_53 (by decide) ?_
        refine g_putN fl_X4_78_X3 C hM (i := 14 + 4 * j6_z) (by omega) (e_mk b kc T S12_z hj6_z) (z_nar (show (1 : Int32).toInt = 1 by decide) (by decide)) (z_fit (show (1 : Int32).toInt = 1 by decide) (by decide)) (Nat.le_of_ble_eq_true rfl) (fs1 := [.ref (b + (14 + 4 * j6_z + 1)), .ref (b + (14 + 4 * j6_z + 2)), .int (oi (gi S12_z (14 + 4 * j6_z) 2)), .int (oi (gi S12_z (14 + 4 * j6_z) 3)), .int (oi (gi S12_z (14 + 4 * j6_z) 4)), .int (oi (gi S12_z (14 + 4 * j6_z) 5)), .int (oi (gi S12_z (14 + 4 * j6_z) 6)), .int 1, .int (oi (gi S12_z (14 + 4 * j6_z) 8)), .int (oi (gi S12_z (14 + 4 * j6_z) 9)), .int (oi (gi S12_z (14 + 4 * j6_z) 10)), .int (oi (gi S12_z (14 + 4 * j6_z) 11)), .int (oi (gi S12_z (14 + 4 * j6_z) 12))]) rfl (p_mk_7 hj6_z (show (1 : Int32).toInt = 1 by decide)) (rng_si hS (i32_of (show (1 : Int32).toInt = 1 by decide))) h dX4_readLine_54 (fun S16_z H locs h hM hS => ?_)
        refine lv_aload_n hx hb dX4_readLine_57 rfl (lv_at hl 2 rfl) ?_
        obtain ⟨S17_z, cS17_z, h⟩ := w_b1E h
        refine g_callV (J := jX b kc T) (m_runV calV_X4_readToken wd_709 (g_MarkReader_readToken l D kc b T S16_z hS cS17_z) C hM (i := 177) (by omega) (e_177 b kc T S16_z) rfl hl.1 rfl rfl (Nat.le_of_ble_eq_true rfl) dX4_readLine_58 ⟨Nat.le_of_ble_eq_true rfl, Nat.le_of_ble_eq_true rfl⟩ ⟨Nat.le_of_ble_eq_true rfl, Nat.le_of_ble_eq_true rfl⟩) hM (fun H locs hM hS => ?_)
        exact B61 S17_z _ _ _ j6_z hj6_z hS hM (lv_sub hl [2, 0] rfl) h
  · refine lv_aload_n hx hb dX4_readLine_10 rfl (lv_at hl 1 rfl) ?_
    refine lv_iconst (v := 1) hx hb dX4_readLine_11 (by decide) ?_
    obtain ⟨r20_z, S19_z, cr20_z, h⟩ := w_b2E h
    refine g_callI (J := jX b kc T) (m_runV calV_X4_refuse wd_760 (g_MarkReader_refuse l D kc b T S 1 1 (show (1 : Int32).toInt = 1 by decide) hS cr20_z) C hM (i := 177) (by omega) (e_177 b kc T S) rfl hl.1 rfl rfl (Nat.le_of_ble_eq_true rfl) dX4_readLine_12 ⟨Nat.le_of_ble_eq_true rfl, Nat.le_of_ble_eq_true rfl⟩ ⟨Nat.le_of_ble_eq_true rfl, Nat.le_of_ble_eq_true rfl⟩) hM (fun z21_z H locs bz21_z hM hS => ?_)
    obtain ⟨c22_z, h⟩ := w_chkE h
    exact ret S19_z _ _ _ _ z21_z (bz21_z.trans (r_1 h)) (by rw [← (r_1 h)]; exact c22_z) (r_2 h) hM hS dX4_readLine_15

def f_MarkReader_readMarks_44_b (v3 : Int) (kf44_ : SS → Int → Option (Int × SS)) (S : SS) (v5_ : Int) : Option (Int × SS) := (if 40 < v5_ then some (0, S) else w_b1 (f_MarkReader_readToken S) (fun S1_z => w_chk (gq S1_z 177 0 = some 1) ((if gi S1_z 177 5 < gi S1_z 1 1 then w_b2 (f_MarkReader_readLine S1_z) (fun r6_z S5_z => (if r6_z = 0 then some (0, S5_z) else w_chk (gq S5_z 177 1 = some 10) (w_chk (i32 ((gi S5_z 10 4) + 1)) (w_lt (si S5_z 10 4 ((gi S5_z 10 4) + 1)) (fun S10_z => w_chk (i32 (v5_ + 1)) (kf44_ S10_z (v5_ + 1))))))) else some (1, S1_z)))))
def f_MarkReader_readMarks_44 (v3 : Int) : Nat → SS → Int → Option (Int × SS)
  | 0 => fun _ _ => none
  | n + 1 => f_MarkReader_readMarks_44_b v3 (f_MarkReader_readMarks_44 v3 n)
def f_MarkReader_readMarks (S : SS) (v3 : Int) : Option (Int × SS) := w_lt (sq S 177 0 (some 1)) (fun S1_z => w_lt (sq S1_z 177 1 (some 10)) (fun S2_z => w_lt (sq S2_z 177 2 (some 3)) (fun S3_z => w_lt (si S3_z 177 3 v3) (fun S4_z => w_lt (si S4_z 177 4 0) (fun S5_z => w_chk (gq S5_z 177 2 = some 3) (w_lt (f_Fault_clear S5_z) (fun S6_z => w_chk (gq S6_z 177 1 = some 10) (w_lt (si S6_z 10 4 0) (fun S8_z => f_MarkReader_readMarks_44 v3 FU S8_z 0)))))))))
set_option maxHeartbeats 4000000 in
set_option maxRecDepth 100000 in
theorem g_MarkReader_readMarks (l : Launch) (D : va_G) (kc : Nat → ClassId) (b : Nat) (T S : SS) (x3 : Int32) (v3 : Int) (hx3 : x3.toInt = v3) (hS : rng S) {vr : Int} {Sr : SS} (h : f_MarkReader_readMarks S v3 = some (vr, Sr)) : cI l yX4_readMarks cX4_readMarks 6 .boolean 9 D kc b (jX b kc T) S [.ref (b + 177), .ref (b + 1), .ref (b + 10), .int x3, .ref (b + 3)] vr Sr := by
  refine g_beg_z (by decide) (Nat.le_of_ble_eq_true rfl) ?_
  intro p e s m args below meth c Q C ret hM ls hl
  obtain ⟨hx, hb, hml, hown, hts, hE, hbs⟩ := id C
  have hl : lv_has ls 6 [(0, .ref (b + 177)), (1, .ref (b + 1)), (2, .ref (b + 10)), (3, .int x3), (4, .ref (b + 3))] := hl
  unfold f_MarkReader_readMarks at h
  have B44 : ∀ (n : Nat), ∀ (S : SS) (H : Heap) (locs : List Loc) (ls : Array Slot) (x5_ : Int32) (v5_ : Int) (hx5_ : x5_.toInt = v5_), rng S → mS D b s 220 (jX b kc T S) H locs → lv_has ls 6 [(0, .ref (b + 177)), (5, .int x5_)] → f_MarkReader_readMarks_44 v3 n S v5_ = some (vr, Sr) → W p l e (mR 9 0 0) s m args below meth c H locs 0 0 Q (F0 m 44 ls []) := by
    intro n
    induction n with
    | zero => intro S H locs ls x5_ v5_ hx5_ hS hM hl h; exact absurd (h : none = some _) (fun q => nomatch q)
    | succ n hkf44_ =>
      intro S H locs ls x5_ v5_ hx5_ hS hM hl h
      have h : f_MarkReader_readMarks_44_b v3 (f_MarkReader_readMarks_44 v3 n) S v5_ = some (vr, Sr) := h
      unfold f_MarkReader_readMarks_44_b at h
      refine lv_iload hx hb dX4_readMarks_44 (lv_at hl 1 rfl) ?_
      refine lv_bipush (v := 40) hx hb dX4_readMarks_46 (by decide) ?_
      refine g_icmp_gt (tgt := 99) hx hb hx5_ (show (40 : Int32).toInt = 40 by decide) h dX4_readMarks_48 (by decide) (fun h => ?_) (fun h => ?_)
      · refine lv_iconst (v := 0) hx hb dX4_readMarks_99 (by decide) ?_
        exact ret S _ _ _ _ 0 ((show (0 : Int32).toInt = 0 by decide).trans (r_1 h)) (by rw [← (r_1 h)]; exact (by decide)) (r_2 h) hM hS dX4_readMarks_100
      · refine lv_aload_n hx hb dX4_readMarks_51 rfl (lv_at hl 0 rfl) ?_
        obtain ⟨S1_z, cS1_z, h⟩ := w_b1E h
        refine g_callV (J := jX b kc T) (m_runV calV_X4_readToken wd_709 (g_MarkReader_readToken l D kc b T S hS cS1_z) C hM (i := 177) (by omega) (e_177 b kc T S) rfl hl.1 rfl rfl (Nat.le_of_ble_eq_true rfl) dX4_readMarks_52 ⟨Nat.le_of_ble_eq_true rfl, Nat.le_of_ble_eq_true rfl⟩ ⟨Nat.le_of_ble_eq_true rfl, Nat.le_of_ble_eq_true rfl⟩) hM (fun H locs hM hS => ?_)
        refine lv_aload_n hx hb dX4_readMarks_55 rfl (lv_at hl 0 rfl) ?_
        refine g_get fl_X4_43_X4 C hM (i := 177) (r := 177) (by omega) (e_177 b kc T S1_z) rfl hS dX4_readMarks_56 (fun z3_z bz3_z => ?_)
        refine lv_aload_n hx hb dX4_readMarks_59 rfl (lv_at hl 0 rfl) ?_
        refine g_getqf fl_X4_9_X4 C hM (i := 177) (r := 177) (by omega) (e_177 b kc T S1_z) rfl h dX4_readMarks_60 (fun h => ?_)
        refine g_getN fl_X4_46_X10 C hM (i := 1) (r := 1) (by omega) (e_1 b kc T S1_z) rfl hS dX4_readMarks_63 (fun z4_z bz4_z => ?_)
        refine g_icmp_lt (tgt := 71) hx hb bz3_z bz4_z h dX4_readMarks_66 (by decide) (fun h => ?_) (fun h => ?_)
        · refine lv_aload_n hx hb dX4_readMarks_71 rfl (lv_at hl 0 rfl) ?_
          obtain ⟨r6_z, S5_z, cr6_z, h⟩ := w_b2E h
          refine g_callI (J := jX b kc T) (m_runV calV_X4_readLine wd_724 (g_MarkReader_readLine l D kc b T S1_z hS cr6_z) C hM (i := 177) (by omega) (e_177 b kc T S1_z) rfl hl.1 rfl rfl (Nat.le_of_ble_eq_true rfl) dX4_readMarks_72 ⟨Nat.le_of_ble_eq_true rfl, Nat.le_of_ble_eq_true rfl⟩ ⟨Nat.le_of_ble_eq_true rfl, Nat.le_of_ble_eq_true rfl⟩) hM (fun z7_z H locs bz7_z hM hS => ?_)
          refine g_if_ne (tgt := 80) hx hb bz7_z h dX4_readMarks_75 (by decide) (fun h => ?_) (fun h => ?_)
          · refine lv_aload_n hx hb dX4_readMarks_80 rfl (lv_at hl 0 rfl) ?_
            refine g_getqf fl_X4_15_X4 C hM (i := 177) (r := 177) (by omega) (e_177 b kc T S5_z) rfl h dX4_readMarks_81 (fun h => ?_)
            refine lv_dup hx hb dX4_readMarks_84 rfl ?_
            refine g_getN fl_X4_35_X5 C hM (i := 10) (r := 10) (by omega) (e_10 b kc T S5_z) rfl hS dX4_readMarks_85 (fun z8_z bz8_z => ?_)
            refine lv_iconst (v := 1) hx hb dX4_readMarks_88 (by decide) ?_
            refine g_iadd hx hb bz8_z (show (1 : Int32).toInt = 1 by decide) h dX4_readMarks_89 (fun z9_z bz9_z h => ?_)
            refine g_putN fl_X4_35_X5 C hM (i := 10) (by omega) (e_10 b kc T S5_z) rfl rfl (Nat.le_of_ble_eq_true rfl) (fs1 := [.ref (b + 11), .ref (b + 12), .ref (b + 13), .int (oi (gi S5_z 10 3)), .int z9_z, .int (oi (gi S5_z 10 5))]) rfl (p_10_4 bz9_z) (rng_si hS (i32_of bz9_z)) h dX4_readMarks_90 (fun S10_z H locs h hM hS => ?_)
            refine g_iinc (y := 1) hx hb hx5_ (by decide) (by decide) h dX4_readMarks_93 hl (k := 1) rfl (by decide) (fun z11_z ls bz11_z h hl => ?_)
            have hl : lv_has ls 6 [(5, .int z11_z), (0, .ref (b + 177))] := hl
            refine lv_goto (tgt := 44) hx hb dX4_readMarks_96 (by decide) ?_
            exact hkf44_ S10_z _ _ _ z11_z (v5_ + 1) bz11_z hS hM (lv_sub hl [1, 0] rfl) h
          · refine lv_iconst (v := 0) hx hb dX4_readMarks_78 (by decide) ?_
            exact ret S5_z _ _ _ _ 0 ((show (0 : Int32).toInt = 0 by decide).trans (r_1 h)) (by rw [← (r_1 h)]; exact (by decide)) (r_2 h) hM hS dX4_readMarks_79
        · refine lv_iconst (v := 1) hx hb dX4_readMarks_69 (by decide) ?_
          exact ret S1_z _ _ _ _ 1 ((show (1 : Int32).toInt = 1 by decide).trans (r_1 h)) (by rw [← (r_1 h)]; exact (by decide)) (r_2 h) hM hS dX4_readMarks_70
  refine lv_aload_n hx hb dX4_readMarks_0 rfl (lv_at hl 0 rfl) ?_
  refine lv_aload_n hx hb dX4_readMarks_1 rfl (lv_at hl 1 rfl) ?_
  refine g_put fl_X4_9_X4 C hM (i := 177) (by omega) (e_177 b kc T S) rfl rfl (Nat.le_of_ble_eq_true rfl) (fs1 := [.ref (b + 1), va_rf (os b (gq S 177 1)), va_rf (os b (gq S 177 2)), .int (oi (gi S 177 3)), .int (oi (gi S 177 4)), .int (oi (gi S 177 5)), .int (oi (gi S 177 6))]) rfl (p_177_0 1) (rng_sq hS) h dX4_readMarks_2 (fun S1_z H locs h hM hS => ?_)
  refine lv_aload_n hx hb dX4_readMarks_5 rfl (lv_at hl 0 rfl) ?_
  refine lv_aload_n hx hb dX4_readMarks_6 rfl (lv_at hl 2 rfl) ?_
  refine g_put fl_X4_15_X4 C hM (i := 177) (by omega) (e_177 b kc T S1_z) rfl rfl (Nat.le_of_ble_eq_true rfl) (fs1 := [va_rf (os b (gq S1_z 177 0)), .ref (b + 10), va_rf (os b (gq S1_z 177 2)), .int (oi (gi S1_z 177 3)), .int (oi (gi S1_z 177 4)), .int (oi (gi S1_z 177 5)), .int (oi (gi S1_z 177 6))]) rfl (p_177_1 10) (rng_sq hS) h dX4_readMarks_7 (fun S2_z H locs h hM hS => ?_)
  refine lv_aload_n hx hb dX4_readMarks_10 rfl (lv_at hl 0 rfl) ?_
  refine lv_aload hx hb dX4_readMarks_11 (lv_at hl 4 rfl) ?_
  refine g_put fl_X4_19_X4 C hM (i := 177) (by omega) (e_177 b kc T S2_z) rfl rfl (Nat.le_of_ble_eq_true rfl) (fs1 := [va_rf (os b (gq S2_z 177 0)), va_rf (os b (gq S2_z 177 1)), .ref (b + 3), .int (oi (gi S2_z 177 3)), .int (oi (gi S2_z 177 4)), .int (oi (gi S2_z 177 5)), .int (oi (gi S2_z 177 6))]) rfl (p_177_2 3) (rng_sq hS) h dX4_readMarks_13 (fun S3_z H locs h hM hS => ?_)
  refine lv_aload_n hx hb dX4_readMarks_16 rfl (lv_at hl 0 rfl) ?_
  refine lv_iload_n hx hb dX4_readMarks_17 rfl (lv_at hl 3 rfl) ?_
  refine g_put fl_X4_23_X4 C hM (i := 177) (by omega) (e_177 b kc T S3_z) rfl rfl (Nat.le_of_ble_eq_true rfl) (fs1 := [va_rf (os b (gq S3_z 177 0)), va_rf (os b (gq S3_z 177 1)), va_rf (os b (gq S3_z 177 2)), .int x3, .int (oi (gi S3_z 177 4)), .int (oi (gi S3_z 177 5)), .int (oi (gi S3_z 177 6))]) rfl (p_177_3 hx3) (rng_si hS (i32_of hx3)) h dX4_readMarks_18 (fun S4_z H locs h hM hS => ?_)
  refine lv_aload_n hx hb dX4_readMarks_21 rfl (lv_at hl 0 rfl) ?_
  refine lv_iconst (v := 0) hx hb dX4_readMarks_22 (by decide) ?_
  refine g_put fl_X4_27_X4 C hM (i := 177) (by omega) (e_177 b kc T S4_z) rfl rfl (Nat.le_of_ble_eq_true rfl) (fs1 := [va_rf (os b (gq S4_z 177 0)), va_rf (os b (gq S4_z 177 1)), va_rf (os b (gq S4_z 177 2)), .int (oi (gi S4_z 177 3)), .int 0, .int (oi (gi S4_z 177 5)), .int (oi (gi S4_z 177 6))]) rfl (p_177_4 (show (0 : Int32).toInt = 0 by decide)) (rng_si hS (i32_of (show (0 : Int32).toInt = 0 by decide))) h dX4_readMarks_23 (fun S5_z H locs h hM hS => ?_)
  refine lv_aload_n hx hb dX4_readMarks_26 rfl (lv_at hl 0 rfl) ?_
  refine g_getqf fl_X4_19_X4 C hM (i := 177) (r := 177) (by omega) (e_177 b kc T S5_z) rfl h dX4_readMarks_27 (fun h => ?_)
  obtain ⟨S6_z, cS6_z, h⟩ := w_ltE h
  refine g_callV (J := jX b kc T) (m_runV calV_X1_clear wd_708 (g_Fault_clear l D kc b T S5_z hS cS6_z.symm) C hM (i := 3) (by omega) (e_3 b kc T S5_z) rfl hl.1 rfl rfl (Nat.le_of_ble_eq_true rfl) dX4_readMarks_30 ⟨Nat.le_of_ble_eq_true rfl, Nat.le_of_ble_eq_true rfl⟩ ⟨Nat.le_of_ble_eq_true rfl, Nat.le_of_ble_eq_true rfl⟩) hM (fun H locs hM hS => ?_)
  refine lv_aload_n hx hb dX4_readMarks_33 rfl (lv_at hl 0 rfl) ?_
  refine g_getqf fl_X4_15_X4 C hM (i := 177) (r := 177) (by omega) (e_177 b kc T S6_z) rfl h dX4_readMarks_34 (fun h => ?_)
  refine lv_iconst (v := 0) hx hb dX4_readMarks_37 (by decide) ?_
  refine g_putN fl_X4_35_X5 C hM (i := 10) (by omega) (e_10 b kc T S6_z) rfl rfl (Nat.le_of_ble_eq_true rfl) (fs1 := [.ref (b + 11), .ref (b + 12), .ref (b + 13), .int (oi (gi S6_z 10 3)), .int 0, .int (oi (gi S6_z 10 5))]) rfl (p_10_4 (show (0 : Int32).toInt = 0 by decide)) (rng_si hS (i32_of (show (0 : Int32).toInt = 0 by decide))) h dX4_readMarks_38 (fun S8_z H locs h hM hS => ?_)
  refine lv_iconst (v := 0) hx hb dX4_readMarks_41 (by decide) ?_
  refine lv_istore (lv' := [(5, .int 0), (0, .ref (b + 177)), (1, .ref (b + 1)), (2, .ref (b + 10)), (3, .int x3), (4, .ref (b + 3))]) hx hb dX4_readMarks_42 hl (by decide) rfl (fun ls hl => ?_)
  exact B44 FU S8_z _ _ _ 0 0 (show (0 : Int32).toInt = 0 by decide) hS hM (lv_sub hl [1, 0] rfl) h

def f_MP_settle (S : SS) : Option SS := w_b1 (f_Pile_decide S) (fun S1_z => w_b1 (f_Setter_takeDone S1_z 0) (fun S3_z => w_b1 (f_Setter_make S3_z 4 8) (fun S5_z => some S5_z)))
set_option maxHeartbeats 4000000 in
set_option maxRecDepth 100000 in
theorem g_MP_settle (l : Launch) (D : va_G) (kc : Nat → ClassId) (b : Nat) (T S : SS) (hS : rng S) {Sr : SS} (h : f_MP_settle S = some Sr) : cV l yX11_settle cX11_settle 1 94 D kc b (jX b kc T) S [.ref (b + 0)] Sr := by
  refine g_beg_v (by decide) (Nat.le_of_ble_eq_true rfl) ?_
  intro p e s m args below meth c Q C ret hM ls hl
  obtain ⟨hx, hb, hml, hown, hts, hE, hbs⟩ := id C
  have hl : lv_has ls 1 [(0, .ref (b + 0))] := hl
  unfold f_MP_settle at h
  refine lv_aload_n hx hb dX11_settle_0 rfl (lv_at hl 0 rfl) ?_
  refine m_get fl_X11_41_X11 C hM (i := 0) (by omega) (e_0 b kc T S) (v := .ref (b + 10)) rfl dX11_settle_1 ?_
  obtain ⟨S1_z, cS1_z, h⟩ := w_b1E h
  refine g_callV (J := jX b kc T) (m_runV calV_X5_decide wd_602 (g_Pile_decide l D kc b T S hS cS1_z) C hM (i := 10) (by omega) (e_10 b kc T S) rfl hl.1 rfl rfl (Nat.le_of_ble_eq_true rfl) dX11_settle_4 ⟨Nat.le_of_ble_eq_true rfl, Nat.le_of_ble_eq_true rfl⟩ ⟨Nat.le_of_ble_eq_true rfl, Nat.le_of_ble_eq_true rfl⟩) hM (fun H locs hM hS => ?_)
  refine lv_aload_n hx hb dX11_settle_7 rfl (lv_at hl 0 rfl) ?_
  refine m_get fl_X11_62_X11 C hM (i := 0) (by omega) (e_0 b kc T S1_z) (v := .ref (b + 178)) rfl dX11_settle_8 ?_
  refine lv_aload_n hx hb dX11_settle_11 rfl (lv_at hl 0 rfl) ?_
  refine m_get fl_X11_41_X11 C hM (i := 0) (by omega) (e_0 b kc T S1_z) (v := .ref (b + 10)) rfl dX11_settle_12 ?_
  refine lv_iconst (v := 0) hx hb dX11_settle_15 (by decide) ?_
  obtain ⟨S3_z, cS3_z, h⟩ := w_b1E h
  refine g_callV (J := jX b kc T) (m_runV calV_X7_takeDone wd_650 (g_Setter_takeDone l D kc b T S1_z 0 0 (show (0 : Int32).toInt = 0 by decide) hS cS3_z) C hM (i := 178) (by omega) (e_178 b kc T S1_z) rfl hl.1 rfl rfl (Nat.le_of_ble_eq_true rfl) dX11_settle_16 ⟨Nat.le_of_ble_eq_true rfl, Nat.le_of_ble_eq_true rfl⟩ ⟨Nat.le_of_ble_eq_true rfl, Nat.le_of_ble_eq_true rfl⟩) hM (fun H locs hM hS => ?_)
  refine lv_aload_n hx hb dX11_settle_19 rfl (lv_at hl 0 rfl) ?_
  refine m_get fl_X11_62_X11 C hM (i := 0) (by omega) (e_0 b kc T S3_z) (v := .ref (b + 178)) rfl dX11_settle_20 ?_
  refine lv_aload_n hx hb dX11_settle_23 rfl (lv_at hl 0 rfl) ?_
  refine m_get fl_X11_28_X11 C hM (i := 0) (by omega) (e_0 b kc T S3_z) (v := .ref (b + 4)) rfl dX11_settle_24 ?_
  refine lv_aload_n hx hb dX11_settle_27 rfl (lv_at hl 0 rfl) ?_
  refine m_get fl_X11_35_X11 C hM (i := 0) (by omega) (e_0 b kc T S3_z) (v := .ref (b + 8)) rfl dX11_settle_28 ?_
  obtain ⟨S5_z, cS5_z, h⟩ := w_b1E h
  refine g_callV (J := jX b kc T) (m_runV calV_X7_make wd_659 (g_Setter_make l D kc b T S3_z 4 (show shOk 4 by decide) 8 (show shOk 8 by decide) hS cS5_z) C hM (i := 178) (by omega) (e_178 b kc T S3_z) rfl hl.1 rfl rfl (Nat.le_of_ble_eq_true rfl) dX11_settle_31 ⟨Nat.le_of_ble_eq_true rfl, Nat.le_of_ble_eq_true rfl⟩ ⟨Nat.le_of_ble_eq_true rfl, Nat.le_of_ble_eq_true rfl⟩) hM (fun H locs hM hS => ?_)
  exact ret S5_z _ _ _ _ (Option.some.inj h) hM hS dX11_settle_34

def f_MP_first (S : SS) : Option (Int × SS) := w_b2 (f_SheetReader_readProof S 60) (fun r2_z S1_z => w_lt (si S1_z 1 1 0) (fun S4_z => (if r2_z = 0 then some ((-1), S4_z) else w_b1 (f_Sheet_copyFrom S4_z 4 175) (fun S5_z => w_lt (f_Pile_clear S5_z) (fun S7_z => w_b1 (f_MP_settle S7_z) (fun S9_z => some (gi S9_z 4 1, S9_z)))))))
set_option maxHeartbeats 4000000 in
set_option maxRecDepth 100000 in
theorem g_MP_first (l : Launch) (D : va_G) (kc : Nat → ClassId) (b : Nat) (T S : SS) (hS : rng S) {vr : Int} {Sr : SS} (h : f_MP_first S = some (vr, Sr)) : cI l yX11_first cX11_first 2 .int 95 D kc b (jX b kc T) S [.ref (b + 0)] vr Sr := by
  refine g_beg_i (by decide) (Nat.le_of_ble_eq_true rfl) ?_
  intro p e s m args below meth c Q C ret hM ls hl
  obtain ⟨hx, hb, hml, hown, hts, hE, hbs⟩ := id C
  have hl : lv_has ls 2 [(0, .ref (b + 0))] := hl
  unfold f_MP_first at h
  refine lv_aload_n hx hb dX11_first_0 rfl (lv_at hl 0 rfl) ?_
  refine m_get fl_X11_48_X11 C hM (i := 0) (by omega) (e_0 b kc T S) (v := .ref (b + 174)) rfl dX11_first_1 ?_
  refine lv_aload_n hx hb dX11_first_4 rfl (lv_at hl 0 rfl) ?_
  refine m_get fl_X11_12_X11 C hM (i := 0) (by omega) (e_0 b kc T S) (v := .ref (b + 1)) rfl dX11_first_5 ?_
  refine lv_bipush (v := 60) hx hb dX11_first_8 (by decide) ?_
  refine lv_aload_n hx hb dX11_first_10 rfl (lv_at hl 0 rfl) ?_
  refine m_get fl_X11_19_X11 C hM (i := 0) (by omega) (e_0 b kc T S) (v := .ref (b + 3)) rfl dX11_first_11 ?_
  obtain ⟨r2_z, S1_z, cr2_z, h⟩ := w_b2E h
  refine g_callI (J := jX b kc T) (m_runV calV_X9_readProof wd_453 (g_SheetReader_readProof l D kc b T S 60 60 (show (60 : Int32).toInt = 60 by decide) hS cr2_z) C hM (i := 174) (by omega) (e_174 b kc T S) rfl hl.1 rfl rfl (Nat.le_of_ble_eq_true rfl) dX11_first_14 ⟨Nat.le_of_ble_eq_true rfl, Nat.le_of_ble_eq_true rfl⟩ ⟨Nat.le_of_ble_eq_true rfl, Nat.le_of_ble_eq_true rfl⟩) hM (fun z3_z H locs bz3_z hM hS => ?_)
  refine lv_istore_n (lv' := [(1, .int z3_z), (0, .ref (b + 0))]) hx hb dX11_first_17 rfl hl (by decide) rfl (fun ls hl => ?_)
  refine lv_aload_n hx hb dX11_first_18 rfl (lv_at hl 1 rfl) ?_
  refine m_get fl_X11_12_X11 C hM (i := 0) (by omega) (e_0 b kc T S1_z) (v := .ref (b + 1)) rfl dX11_first_19 ?_
  refine lv_iconst (v := 0) hx hb dX11_first_22 (by decide) ?_
  refine g_putN fl_X11_87_X10 C hM (i := 1) (by omega) (e_1 b kc T S1_z) rfl rfl (Nat.le_of_ble_eq_true rfl) (fs1 := [.ref (b + 2), .int 0]) rfl (p_1_1 (show (0 : Int32).toInt = 0 by decide)) (rng_si hS (i32_of (show (0 : Int32).toInt = 0 by decide))) h dX11_first_23 (fun S4_z H locs h hM hS => ?_)
  refine lv_iload_n hx hb dX11_first_26 rfl (lv_at hl 0 rfl) ?_
  refine g_if_ne (tgt := 32) hx hb bz3_z h dX11_first_27 (by decide) (fun h => ?_) (fun h => ?_)
  · refine lv_aload_n hx hb dX11_first_32 rfl (lv_at hl 1 rfl) ?_
    refine m_get fl_X11_28_X11 C hM (i := 0) (by omega) (e_0 b kc T S4_z) (v := .ref (b + 4)) rfl dX11_first_33 ?_
    refine lv_aload_n hx hb dX11_first_36 rfl (lv_at hl 1 rfl) ?_
    refine m_get fl_X11_48_X11 C hM (i := 0) (by omega) (e_0 b kc T S4_z) (v := .ref (b + 174)) rfl dX11_first_37 ?_
    refine m_getN fl_X11_98_X9 C hM (i := 174) (by omega) (e_174 b kc T S4_z) (v := .ref (b + 175)) rfl dX11_first_40 ?_
    obtain ⟨S5_z, cS5_z, h⟩ := w_b1E h
    refine g_callV (J := jX b kc T) (m_runV calV_X8_copyFrom wd_580 (g_Sheet_copyFrom l D kc b T S4_z 4 (show shOk 4 by decide) 175 (show shOk 175 by decide) hS cS5_z) C hM (i := 4) (by omega) (e_sh b kc T S4_z (show shOk 4 by decide)) rfl hl.1 rfl rfl (Nat.le_of_ble_eq_true rfl) dX11_first_43 ⟨Nat.le_of_ble_eq_true rfl, Nat.le_of_ble_eq_true rfl⟩ ⟨Nat.le_of_ble_eq_true rfl, Nat.le_of_ble_eq_true rfl⟩) hM (fun H locs hM hS => ?_)
    refine lv_aload_n hx hb dX11_first_46 rfl (lv_at hl 1 rfl) ?_
    refine m_get fl_X11_41_X11 C hM (i := 0) (by omega) (e_0 b kc T S5_z) (v := .ref (b + 10)) rfl dX11_first_47 ?_
    obtain ⟨S7_z, cS7_z, h⟩ := w_ltE h
    refine g_callV (J := jX b kc T) (m_runV calV_X5_clear wd_594 (g_Pile_clear l D kc b T S5_z hS cS7_z.symm) C hM (i := 10) (by omega) (e_10 b kc T S5_z) rfl hl.1 rfl rfl (Nat.le_of_ble_eq_true rfl) dX11_first_50 ⟨Nat.le_of_ble_eq_true rfl, Nat.le_of_ble_eq_true rfl⟩ ⟨Nat.le_of_ble_eq_true rfl, Nat.le_of_ble_eq_true rfl⟩) hM (fun H locs hM hS => ?_)
    refine lv_aload_n hx hb dX11_first_53 rfl (lv_at hl 1 rfl) ?_
    obtain ⟨S9_z, cS9_z, h⟩ := w_b1E h
    refine g_callV (J := jX b kc T) (m_runV calV_X11_settle wd_598 (g_MP_settle l D kc b T S7_z hS cS9_z) C hM (i := 0) (by omega) (e_0 b kc T S7_z) rfl hl.1 rfl rfl (Nat.le_of_ble_eq_true rfl) dX11_first_54 ⟨Nat.le_of_ble_eq_true rfl, Nat.le_of_ble_eq_true rfl⟩ ⟨Nat.le_of_ble_eq_true rfl, Nat.le_of_ble_eq_true rfl⟩) hM (fun H locs hM hS => ?_)
    refine lv_aload_n hx hb dX11_first_57 rfl (lv_at hl 1 rfl) ?_
    refine m_get fl_X11_28_X11 C hM (i := 0) (by omega) (e_0 b kc T S9_z) (v := .ref (b + 4)) rfl dX11_first_58 ?_
    refine g_getN fl_X11_111_X8 C hM (i := 4) (r := 4) (by omega) (e_sh b kc T S9_z (show shOk 4 by decide)) rfl hS dX11_first_61 (fun z11_z bz11_z => ?_)
    exact ret S9_z _ _ _ _ z11_z (bz11_z.trans (r_1 h)) (r_2 h) hM hS dX11_first_64
  · refine lv_iconst (v := (-1)) hx hb dX11_first_30 (by decide) ?_
    exact ret S4_z _ _ _ _ (-1) ((show ((-1) : Int32).toInt = (-1) by decide).trans (r_1 h)) (r_2 h) hM hS dX11_first_31

def f_MP_second (S : SS) : Option (Int × SS) := w_b2 (f_SheetReader_readProof S 150) (fun r2_z S1_z => w_lt (si S1_z 1 1 0) (fun S4_z => (if r2_z = 0 then some ((-1), S4_z) else w_b1 (f_Sheet_copyFrom S4_z 6 175) (fun S5_z => some (gi S5_z 6 1, S5_z)))))
set_option maxHeartbeats 4000000 in
set_option maxRecDepth 100000 in
theorem g_MP_second (l : Launch) (D : va_G) (kc : Nat → ClassId) (b : Nat) (T S : SS) (hS : rng S) {vr : Int} {Sr : SS} (h : f_MP_second S = some (vr, Sr)) : cI l yX11_second cX11_second 2 .int 7 D kc b (jX b kc T) S [.ref (b + 0)] vr Sr := by
  refine g_beg_i (by decide) (Nat.le_of_ble_eq_true rfl) ?_
  intro p e s m args below meth c Q C ret hM ls hl
  obtain ⟨hx, hb, hml, hown, hts, hE, hbs⟩ := id C
  have hl : lv_has ls 2 [(0, .ref (b + 0))] := hl
  unfold f_MP_second at h
  refine lv_aload_n hx hb dX11_second_0 rfl (lv_at hl 0 rfl) ?_
  refine m_get fl_X11_48_X11 C hM (i := 0) (by omega) (e_0 b kc T S) (v := .ref (b + 174)) rfl dX11_second_1 ?_
  refine lv_aload_n hx hb dX11_second_4 rfl (lv_at hl 0 rfl) ?_
  refine m_get fl_X11_12_X11 C hM (i := 0) (by omega) (e_0 b kc T S) (v := .ref (b + 1)) rfl dX11_second_5 ?_
  refine lv_sipush (v := 150) hx hb dX11_second_8 (by decide) ?_
  refine lv_aload_n hx hb dX11_second_11 rfl (lv_at hl 0 rfl) ?_
  refine m_get fl_X11_19_X11 C hM (i := 0) (by omega) (e_0 b kc T S) (v := .ref (b + 3)) rfl dX11_second_12 ?_
  obtain ⟨r2_z, S1_z, cr2_z, h⟩ := w_b2E h
  refine g_callI (J := jX b kc T) (m_runV calV_X9_readProof wd_453 (g_SheetReader_readProof l D kc b T S 150 150 (show (150 : Int32).toInt = 150 by decide) hS cr2_z) C hM (i := 174) (by omega) (e_174 b kc T S) rfl hl.1 rfl rfl (Nat.le_of_ble_eq_true rfl) dX11_second_15 ⟨Nat.le_of_ble_eq_true rfl, Nat.le_of_ble_eq_true rfl⟩ ⟨Nat.le_of_ble_eq_true rfl, Nat.le_of_ble_eq_true rfl⟩) hM (fun z3_z H locs bz3_z hM hS => ?_)
  refine lv_istore_n (lv' := [(1, .int z3_z), (0, .ref (b + 0))]) hx hb dX11_second_18 rfl hl (by decide) rfl (fun ls hl => ?_)
  refine lv_aload_n hx hb dX11_second_19 rfl (lv_at hl 1 rfl) ?_
  refine m_get fl_X11_12_X11 C hM (i := 0) (by omega) (e_0 b kc T S1_z) (v := .ref (b + 1)) rfl dX11_second_20 ?_
  refine lv_iconst (v := 0) hx hb dX11_second_23 (by decide) ?_
  refine g_putN fl_X11_87_X10 C hM (i := 1) (by omega) (e_1 b kc T S1_z) rfl rfl (Nat.le_of_ble_eq_true rfl) (fs1 := [.ref (b + 2), .int 0]) rfl (p_1_1 (show (0 : Int32).toInt = 0 by decide)) (rng_si hS (i32_of (show (0 : Int32).toInt = 0 by decide))) h dX11_second_24 (fun S4_z H locs h hM hS => ?_)
  refine lv_iload_n hx hb dX11_second_27 rfl (lv_at hl 0 rfl) ?_
  refine g_if_ne (tgt := 33) hx hb bz3_z h dX11_second_28 (by decide) (fun h => ?_) (fun h => ?_)
  · refine lv_aload_n hx hb dX11_second_33 rfl (lv_at hl 1 rfl) ?_
    refine m_get fl_X11_32_X11 C hM (i := 0) (by omega) (e_0 b kc T S4_z) (v := .ref (b + 6)) rfl dX11_second_34 ?_
    refine lv_aload_n hx hb dX11_second_37 rfl (lv_at hl 1 rfl) ?_
    refine m_get fl_X11_48_X11 C hM (i := 0) (by omega) (e_0 b kc T S4_z) (v := .ref (b + 174)) rfl dX11_second_38 ?_
    refine m_getN fl_X11_98_X9 C hM (i := 174) (by omega) (e_174 b kc T S4_z) (v := .ref (b + 175)) rfl dX11_second_41 ?_
    obtain ⟨S5_z, cS5_z, h⟩ := w_b1E h
    refine g_callV (J := jX b kc T) (m_runV calV_X8_copyFrom wd_580 (g_Sheet_copyFrom l D kc b T S4_z 6 (show shOk 6 by decide) 175 (show shOk 175 by decide) hS cS5_z) C hM (i := 6) (by omega) (e_sh b kc T S4_z (show shOk 6 by decide)) rfl hl.1 rfl rfl (Nat.le_of_ble_eq_true rfl) dX11_second_44 ⟨Nat.le_of_ble_eq_true rfl, Nat.le_of_ble_eq_true rfl⟩ ⟨Nat.le_of_ble_eq_true rfl, Nat.le_of_ble_eq_true rfl⟩) hM (fun H locs hM hS => ?_)
    refine lv_aload_n hx hb dX11_second_47 rfl (lv_at hl 1 rfl) ?_
    refine m_get fl_X11_32_X11 C hM (i := 0) (by omega) (e_0 b kc T S5_z) (v := .ref (b + 6)) rfl dX11_second_48 ?_
    refine g_getN fl_X11_111_X8 C hM (i := 6) (r := 6) (by omega) (e_sh b kc T S5_z (show shOk 6 by decide)) rfl hS dX11_second_51 (fun z7_z bz7_z => ?_)
    exact ret S5_z _ _ _ _ z7_z (bz7_z.trans (r_1 h)) (r_2 h) hM hS dX11_second_54
  · refine lv_iconst (v := (-1)) hx hb dX11_second_31 (by decide) ?_
    exact ret S4_z _ _ _ _ (-1) ((show ((-1) : Int32).toInt = (-1) by decide).trans (r_1 h)) (r_2 h) hM hS dX11_second_32

def f_MP_marks (S : SS) : Option (Int × SS) := w_b2 (f_MarkReader_readMarks S (gi S 4 1)) (fun r3_z S2_z => w_lt (si S2_z 1 1 0) (fun S5_z => (if r3_z = 0 then some ((-1), S5_z) else w_b2 (f_Pile_accept S5_z) (fun r7_z S6_z => w_b1 (f_MP_settle S6_z) (fun S9_z => some (r7_z, S9_z))))))
set_option maxHeartbeats 4000000 in
set_option maxRecDepth 100000 in
theorem g_MP_marks (l : Launch) (D : va_G) (kc : Nat → ClassId) (b : Nat) (T S : SS) (hS : rng S) {vr : Int} {Sr : SS} (h : f_MP_marks S = some (vr, Sr)) : cI l yX11_marks cX11_marks 3 .int 95 D kc b (jX b kc T) S [.ref (b + 0)] vr Sr := by
  refine g_beg_i (by decide) (Nat.le_of_ble_eq_true rfl) ?_
  intro p e s m args below meth c Q C ret hM ls hl
  obtain ⟨hx, hb, hml, hown, hts, hE, hbs⟩ := id C
  have hl : lv_has ls 3 [(0, .ref (b + 0))] := hl
  unfold f_MP_marks at h
  refine lv_aload_n hx hb dX11_marks_0 rfl (lv_at hl 0 rfl) ?_
  refine m_get fl_X11_55_X11 C hM (i := 0) (by omega) (e_0 b kc T S) (v := .ref (b + 177)) rfl dX11_marks_1 ?_
  refine lv_aload_n hx hb dX11_marks_4 rfl (lv_at hl 0 rfl) ?_
  refine m_get fl_X11_12_X11 C hM (i := 0) (by omega) (e_0 b kc T S) (v := .ref (b + 1)) rfl dX11_marks_5 ?_
  refine lv_aload_n hx hb dX11_marks_8 rfl (lv_at hl 0 rfl) ?_
  refine m_get fl_X11_41_X11 C hM (i := 0) (by omega) (e_0 b kc T S) (v := .ref (b + 10)) rfl dX11_marks_9 ?_
  refine lv_aload_n hx hb dX11_marks_12 rfl (lv_at hl 0 rfl) ?_
  refine m_get fl_X11_28_X11 C hM (i := 0) (by omega) (e_0 b kc T S) (v := .ref (b + 4)) rfl dX11_marks_13 ?_
  refine g_getN fl_X11_111_X8 C hM (i := 4) (r := 4) (by omega) (e_sh b kc T S (show shOk 4 by decide)) rfl hS dX11_marks_16 (fun z1_z bz1_z => ?_)
  refine lv_aload_n hx hb dX11_marks_19 rfl (lv_at hl 0 rfl) ?_
  refine m_get fl_X11_19_X11 C hM (i := 0) (by omega) (e_0 b kc T S) (v := .ref (b + 3)) rfl dX11_marks_20 ?_
  obtain ⟨r3_z, S2_z, cr3_z, h⟩ := w_b2E h
  refine g_callI (J := jX b kc T) (m_runV calV_X4_readMarks wd_704 (g_MarkReader_readMarks l D kc b T S z1_z (gi S 4 1) bz1_z hS cr3_z) C hM (i := 177) (by omega) (e_177 b kc T S) rfl hl.1 rfl rfl (Nat.le_of_ble_eq_true rfl) dX11_marks_23 ⟨Nat.le_of_ble_eq_true rfl, Nat.le_of_ble_eq_true rfl⟩ ⟨Nat.le_of_ble_eq_true rfl, Nat.le_of_ble_eq_true rfl⟩) hM (fun z4_z H locs bz4_z hM hS => ?_)
  refine lv_istore_n (lv' := [(1, .int z4_z), (0, .ref (b + 0))]) hx hb dX11_marks_26 rfl hl (by decide) rfl (fun ls hl => ?_)
  refine lv_aload_n hx hb dX11_marks_27 rfl (lv_at hl 1 rfl) ?_
  refine m_get fl_X11_12_X11 C hM (i := 0) (by omega) (e_0 b kc T S2_z) (v := .ref (b + 1)) rfl dX11_marks_28 ?_
  refine lv_iconst (v := 0) hx hb dX11_marks_31 (by decide) ?_
  refine g_putN fl_X11_87_X10 C hM (i := 1) (by omega) (e_1 b kc T S2_z) rfl rfl (Nat.le_of_ble_eq_true rfl) (fs1 := [.ref (b + 2), .int 0]) rfl (p_1_1 (show (0 : Int32).toInt = 0 by decide)) (rng_si hS (i32_of (show (0 : Int32).toInt = 0 by decide))) h dX11_marks_32 (fun S5_z H locs h hM hS => ?_)
  refine lv_iload_n hx hb dX11_marks_35 rfl (lv_at hl 0 rfl) ?_
  refine g_if_ne (tgt := 41) hx hb bz4_z h dX11_marks_36 (by decide) (fun h => ?_) (fun h => ?_)
  · refine lv_aload_n hx hb dX11_marks_41 rfl (lv_at hl 1 rfl) ?_
    refine m_get fl_X11_41_X11 C hM (i := 0) (by omega) (e_0 b kc T S5_z) (v := .ref (b + 10)) rfl dX11_marks_42 ?_
    obtain ⟨r7_z, S6_z, cr7_z, h⟩ := w_b2E h
    refine g_callI (J := jX b kc T) (m_runV calV_X5_accept wd_828 (g_Pile_accept l D kc b T S5_z hS cr7_z) C hM (i := 10) (by omega) (e_10 b kc T S5_z) rfl hl.1 rfl rfl (Nat.le_of_ble_eq_true rfl) dX11_marks_45 ⟨Nat.le_of_ble_eq_true rfl, Nat.le_of_ble_eq_true rfl⟩ ⟨Nat.le_of_ble_eq_true rfl, Nat.le_of_ble_eq_true rfl⟩) hM (fun z8_z H locs bz8_z hM hS => ?_)
    refine lv_istore_n (lv' := [(2, .int z8_z), (1, .int z4_z), (0, .ref (b + 0))]) hx hb dX11_marks_48 rfl hl (by decide) rfl (fun ls hl => ?_)
    refine lv_aload_n hx hb dX11_marks_49 rfl (lv_at hl 2 rfl) ?_
    obtain ⟨S9_z, cS9_z, h⟩ := w_b1E h
    refine g_callV (J := jX b kc T) (m_runV calV_X11_settle wd_598 (g_MP_settle l D kc b T S6_z hS cS9_z) C hM (i := 0) (by omega) (e_0 b kc T S6_z) rfl hl.1 rfl rfl (Nat.le_of_ble_eq_true rfl) dX11_marks_50 ⟨Nat.le_of_ble_eq_true rfl, Nat.le_of_ble_eq_true rfl⟩ ⟨Nat.le_of_ble_eq_true rfl, Nat.le_of_ble_eq_true rfl⟩) hM (fun H locs hM hS => ?_)
    refine lv_iload_n hx hb dX11_marks_53 rfl (lv_at hl 0 rfl) ?_
    exact ret S9_z _ _ _ _ z8_z (bz8_z.trans (r_1 h)) (r_2 h) hM hS dX11_marks_54
  · refine lv_iconst (v := (-1)) hx hb dX11_marks_39 (by decide) ?_
    exact ret S5_z _ _ _ _ (-1) ((show ((-1) : Int32).toInt = (-1) by decide).trans (r_1 h)) (r_2 h) hM hS dX11_marks_40

def f_MP_answer_42 (v1 : Int) (v2 : Int) (S : SS) (vt0_ : Int) (jt1_ : Nat) : Option (Int × SS) := w_chk (vt0_ = 0 ∨ vt0_ = 1) (w_lt (si S (14 + 4 * jt1_) 8 vt0_) (fun S2_z => w_b1 (f_MP_settle S2_z) (fun S3_z => some (1, S3_z))))
def f_MP_answer (S : SS) (v1 : Int) (v2 : Int) : Option (Int × SS) := w_b1 (f_Pile_find S v1) (fun o1_z => w_on o1_z (some ((-2), S)) (fun j3_z => w_chk (j3_z < 40) ((if gi S (14 + 4 * j3_z) 11 = 3 then w_lt (si S (14 + 4 * j3_z) 7 0) (fun S5_z => (if v2 = 0 then f_MP_answer_42 v1 v2 S5_z 1 j3_z else f_MP_answer_42 v1 v2 S5_z 0 j3_z)) else some ((-4), S)))))
set_option maxHeartbeats 4000000 in
set_option maxRecDepth 100000 in
theorem g_MP_answer (l : Launch) (D : va_G) (kc : Nat → ClassId) (b : Nat) (T S : SS) (x1 : Int32) (v1 : Int) (hx1 : x1.toInt = v1) (x2 : Int32) (v2 : Int) (hx2 : x2.toInt = v2) (hS : rng S) {vr : Int} {Sr : SS} (h : f_MP_answer S v1 v2 = some (vr, Sr)) : cI l yX11_answer cX11_answer 4 .int 95 D kc b (jX b kc T) S [.ref (b + 0), .int x1, .int x2] vr Sr := by
  refine g_beg_i (by decide) (Nat.le_of_ble_eq_true rfl) ?_
  intro p e s m args below meth c Q C ret hM ls hl
  obtain ⟨hx, hb, hml, hown, hts, hE, hbs⟩ := id C
  have hl : lv_has ls 4 [(0, .ref (b + 0)), (1, .int x1), (2, .int x2)] := hl
  unfold f_MP_answer at h
  have B42 : ∀ (S : SS) (H : Heap) (locs : List Loc) (ls : Array Slot) (xt0_ : Int32) (vt0_ : Int) (hxt0_ : xt0_.toInt = vt0_) (jt1_ : Nat) (hjt1_ : jt1_ < 40), rng S → mS D b s 220 (jX b kc T S) H locs → lv_has ls 4 [(0, .ref (b + 0))] → f_MP_answer_42 v1 v2 S vt0_ jt1_ = some (vr, Sr) → W p l e (mR 95 0 0) s m args below meth c H locs 0 0 Q (F0 m 42 ls [.int xt0_, .ref (b + (14 + 4 * jt1_))]) := by
    intro S H locs ls xt0_ vt0_ hxt0_ jt1_ hjt1_ hS hM hl h
    unfold f_MP_answer_42 at h
    obtain ⟨c1_z, h⟩ := w_chkE h
    refine g_putN fl_X11_154_X3 C hM (i := 14 + 4 * jt1_) (by omega) (e_mk b kc T S hjt1_) (z_nar hxt0_ c1_z) (z_fit hxt0_ c1_z) (Nat.le_of_ble_eq_true rfl) (fs1 := [.ref (b + (14 + 4 * jt1_ + 1)), .ref (b + (14 + 4 * jt1_ + 2)), .int (oi (gi S (14 + 4 * jt1_) 2)), .int (oi (gi S (14 + 4 * jt1_) 3)), .int (oi (gi S (14 + 4 * jt1_) 4)), .int (oi (gi S (14 + 4 * jt1_) 5)), .int (oi (gi S (14 + 4 * jt1_) 6)), .int (oi (gi S (14 + 4 * jt1_) 7)), .int xt0_, .int (oi (gi S (14 + 4 * jt1_) 9)), .int (oi (gi S (14 + 4 * jt1_) 10)), .int (oi (gi S (14 + 4 * jt1_) 11)), .int (oi (gi S (14 + 4 * jt1_) 12))]) rfl (p_mk_8 hjt1_ hxt0_) (rng_si hS (i32_of hxt0_)) h dX11_answer_42 (fun S2_z H locs h hM hS => ?_)
    refine lv_aload_n hx hb dX11_answer_45 rfl (lv_at hl 0 rfl) ?_
    obtain ⟨S3_z, cS3_z, h⟩ := w_b1E h
    refine g_callV (J := jX b kc T) (m_runV calV_X11_settle wd_598 (g_MP_settle l D kc b T S2_z hS cS3_z) C hM (i := 0) (by omega) (e_0 b kc T S2_z) rfl hl.1 rfl rfl (Nat.le_of_ble_eq_true rfl) dX11_answer_46 ⟨Nat.le_of_ble_eq_true rfl, Nat.le_of_ble_eq_true rfl⟩ ⟨Nat.le_of_ble_eq_true rfl, Nat.le_of_ble_eq_true rfl⟩) hM (fun H locs hM hS => ?_)
    refine lv_iconst (v := 1) hx hb dX11_answer_49 (by decide) ?_
    exact ret S3_z _ _ _ _ 1 ((show (1 : Int32).toInt = 1 by decide).trans (r_1 h)) (r_2 h) hM hS dX11_answer_50
  refine lv_aload_n hx hb dX11_answer_0 rfl (lv_at hl 0 rfl) ?_
  refine m_get fl_X11_41_X11 C hM (i := 0) (by omega) (e_0 b kc T S) (v := .ref (b + 10)) rfl dX11_answer_1 ?_
  refine lv_iload_n hx hb dX11_answer_4 rfl (lv_at hl 1 rfl) ?_
  obtain ⟨o1_z, co1_z, h⟩ := w_b1E h
  refine g_callQ (J := jX b kc T) (m_runV calV_X5_find wd_854 (g_Pile_find l D kc b T S x1 v1 hx1 hS co1_z) C hM (i := 10) (by omega) (e_10 b kc T S) rfl hl.1 rfl rfl (Nat.le_of_ble_eq_true rfl) dX11_answer_5 ⟨Nat.le_of_ble_eq_true rfl, Nat.le_of_ble_eq_true rfl⟩ ⟨Nat.le_of_ble_eq_true rfl, Nat.le_of_ble_eq_true rfl⟩) hM (fun z2_z H locs bz2_z hM hS => ?_)
  subst bz2_z
  refine lv_astore_nq (lv' := [(3, va_rf (om b o1_z)), (0, .ref (b + 0)), (1, .int x1), (2, .int x2)]) hx hb dX11_answer_8 rfl hl (by decide) rfl (fun ls hl => ?_)
  refine lv_aload_nq hx hb dX11_answer_9 rfl (lv_at hl 0 rfl) ?_
  cases o1_z with
  | none =>
    replace h := w_onN h
    have hl : lv_has ls 4 [(3, .null), (0, .ref (b + 0)), (1, .int x1), (2, .int x2)] := hl
    refine lv_ifnonnullN hx hb dX11_answer_10 ?_
    refine lv_bipush (v := (-2)) hx hb dX11_answer_13 (by decide) ?_
    exact ret S _ _ _ _ (-2) ((show ((-2) : Int32).toInt = (-2) by decide).trans (r_1 h)) (r_2 h) hM hS dX11_answer_15
  | some j3_z =>
    obtain ⟨hj3_z, h⟩ := w_chkE (w_onS h)
    have hl : lv_has ls 4 [(3, .ref (b + (14 + 4 * j3_z))), (0, .ref (b + 0)), (1, .int x1), (2, .int x2)] := hl
    refine lv_ifnonnull (tgt := 16) hx hb dX11_answer_10 (by decide) ?_
    refine lv_aload_n hx hb dX11_answer_16 rfl (lv_at hl 0 rfl) ?_
    refine g_getN fl_X11_147_X3 C hM (i := 14 + 4 * j3_z) (r := 14 + 4 * j3_z) (by omega) (e_mk b kc T S hj3_z) rfl hS dX11_answer_17 (fun z4_z bz4_z => ?_)
    refine lv_iconst (v := 3) hx hb dX11_answer_20 (by decide) ?_
    refine g_icmp_eq (tgt := 27) hx hb bz4_z (show (3 : Int32).toInt = 3 by decide) h dX11_answer_21 (by decide) (fun h => ?_) (fun h => ?_)
    · refine lv_aload_n hx hb dX11_answer_27 rfl (lv_at hl 0 rfl) ?_
      refine lv_iconst (v := 0) hx hb dX11_answer_28 (by decide) ?_
      refine g_putN fl_X11_150_X3 C hM (i := 14 + 4 * j3_z) (by omega) (e_mk b kc T S hj3_z) (z_nar (show (0 : Int32).toInt = 0 by decide) (by decide)) (z_fit (show (0 : Int32).toInt = 0 by decide) (by decide)) (Nat.le_of_ble_eq_true rfl) (fs1 := [.ref (b + (14 + 4 * j3_z + 1)), .ref (b + (14 + 4 * j3_z + 2)), .int (oi (gi S (14 + 4 * j3_z) 2)), .int (oi (gi S (14 + 4 * j3_z) 3)), .int (oi (gi S (14 + 4 * j3_z) 4)), .int (oi (gi S (14 + 4 * j3_z) 5)), .int (oi (gi S (14 + 4 * j3_z) 6)), .int 0, .int (oi (gi S (14 + 4 * j3_z) 8)), .int (oi (gi S (14 + 4 * j3_z) 9)), .int (oi (gi S (14 + 4 * j3_z) 10)), .int (oi (gi S (14 + 4 * j3_z) 11)), .int (oi (gi S (14 + 4 * j3_z) 12))]) rfl (p_mk_7 hj3_z (show (0 : Int32).toInt = 0 by decide)) (rng_si hS (i32_of (show (0 : Int32).toInt = 0 by decide))) h dX11_answer_29 (fun S5_z H locs h hM hS => ?_)
      refine lv_aload_n hx hb dX11_answer_32 rfl (lv_at hl 0 rfl) ?_
      refine lv_iload_n hx hb dX11_answer_33 rfl (lv_at hl 3 rfl) ?_
      refine g_if_ne (tgt := 41) hx hb hx2 h dX11_answer_34 (by decide) (fun h => ?_) (fun h => ?_)
      · refine lv_iconst (v := 0) hx hb dX11_answer_41 (by decide) ?_
        exact B42 S5_z _ _ _ 0 0 (show (0 : Int32).toInt = 0 by decide) j3_z hj3_z hS hM (lv_sub hl [1] rfl) h
      · refine lv_iconst (v := 1) hx hb dX11_answer_37 (by decide) ?_
        refine lv_goto (tgt := 42) hx hb dX11_answer_38 (by decide) ?_
        exact B42 S5_z _ _ _ 1 1 (show (1 : Int32).toInt = 1 by decide) j3_z hj3_z hS hM (lv_sub hl [1] rfl) h
    · refine lv_bipush (v := (-4)) hx hb dX11_answer_24 (by decide) ?_
      exact ret S _ _ _ _ (-4) ((show ((-4) : Int32).toInt = (-4) by decide).trans (r_1 h)) (r_2 h) hM hS dX11_answer_26

def f_MP_rank (S : SS) (v1 : Int) (v2 : Int) : Option (Int × SS) := (if v1 < 0 then some ((-2), S) else (if 3 ≤ v1 then some ((-2), S) else (if v2 < 0 then some ((-2), S) else (if v2 ≤ 9 then w_b1 (f_Pile_rankOf S v1) (fun r1_z => w_chk (0 ≤ v1 ∧ v1 < 3) (w_lt (si S 12 (v1).toNat v2) (fun S3_z => w_b1 (f_MP_settle S3_z) (fun S4_z => some (r1_z, S4_z))))) else some ((-2), S)))))
set_option maxHeartbeats 4000000 in
set_option maxRecDepth 100000 in
theorem g_MP_rank (l : Launch) (D : va_G) (kc : Nat → ClassId) (b : Nat) (T S : SS) (x1 : Int32) (v1 : Int) (hx1 : x1.toInt = v1) (x2 : Int32) (v2 : Int) (hx2 : x2.toInt = v2) (hS : rng S) {vr : Int} {Sr : SS} (h : f_MP_rank S v1 v2 = some (vr, Sr)) : cI l yX11_rank cX11_rank 4 .int 95 D kc b (jX b kc T) S [.ref (b + 0), .int x1, .int x2] vr Sr := by
  refine g_beg_i (by decide) (Nat.le_of_ble_eq_true rfl) ?_
  intro p e s m args below meth c Q C ret hM ls hl
  obtain ⟨hx, hb, hml, hown, hts, hE, hbs⟩ := id C
  have hl : lv_has ls 4 [(0, .ref (b + 0)), (1, .int x1), (2, .int x2)] := hl
  unfold f_MP_rank at h
  refine lv_iload_n hx hb dX11_rank_0 rfl (lv_at hl 1 rfl) ?_
  refine g_if_lt (tgt := 19) hx hb hx1 h dX11_rank_1 (by decide) (fun h => ?_) (fun h => ?_)
  · refine lv_bipush (v := (-2)) hx hb dX11_rank_19 (by decide) ?_
    exact ret S _ _ _ _ (-2) ((show ((-2) : Int32).toInt = (-2) by decide).trans (r_1 h)) (r_2 h) hM hS dX11_rank_21
  · refine lv_iload_n hx hb dX11_rank_4 rfl (lv_at hl 1 rfl) ?_
    refine lv_iconst (v := 3) hx hb dX11_rank_5 (by decide) ?_
    refine g_icmp_ge (tgt := 19) hx hb hx1 (show (3 : Int32).toInt = 3 by decide) h dX11_rank_6 (by decide) (fun h => ?_) (fun h => ?_)
    · refine lv_bipush (v := (-2)) hx hb dX11_rank_19 (by decide) ?_
      exact ret S _ _ _ _ (-2) ((show ((-2) : Int32).toInt = (-2) by decide).trans (r_1 h)) (r_2 h) hM hS dX11_rank_21
    · refine lv_iload_n hx hb dX11_rank_9 rfl (lv_at hl 2 rfl) ?_
      refine g_if_lt (tgt := 19) hx hb hx2 h dX11_rank_10 (by decide) (fun h => ?_) (fun h => ?_)
      · refine lv_bipush (v := (-2)) hx hb dX11_rank_19 (by decide) ?_
        exact ret S _ _ _ _ (-2) ((show ((-2) : Int32).toInt = (-2) by decide).trans (r_1 h)) (r_2 h) hM hS dX11_rank_21
      · refine lv_iload_n hx hb dX11_rank_13 rfl (lv_at hl 2 rfl) ?_
        refine lv_bipush (v := 9) hx hb dX11_rank_14 (by decide) ?_
        refine g_icmp_le (tgt := 22) hx hb hx2 (show (9 : Int32).toInt = 9 by decide) h dX11_rank_16 (by decide) (fun h => ?_) (fun h => ?_)
        · refine lv_aload_n hx hb dX11_rank_22 rfl (lv_at hl 0 rfl) ?_
          refine m_get fl_X11_41_X11 C hM (i := 0) (by omega) (e_0 b kc T S) (v := .ref (b + 10)) rfl dX11_rank_23 ?_
          refine lv_iload_n hx hb dX11_rank_26 rfl (lv_at hl 1 rfl) ?_
          obtain ⟨r1_z, cr1_z, h⟩ := w_b1E h
          refine g_callI (J := jX b kc T) (m_runV calV_X5_rankOf wd_876 (g_Pile_rankOf l D kc b T S x1 v1 hx1 hS cr1_z) C hM (i := 10) (by omega) (e_10 b kc T S) rfl hl.1 rfl rfl (Nat.le_of_ble_eq_true rfl) dX11_rank_27 ⟨Nat.le_of_ble_eq_true rfl, Nat.le_of_ble_eq_true rfl⟩ ⟨Nat.le_of_ble_eq_true rfl, Nat.le_of_ble_eq_true rfl⟩) hM (fun z2_z H locs bz2_z hM hS => ?_)
          refine lv_istore_n (lv' := [(3, .int z2_z), (0, .ref (b + 0)), (1, .int x1), (2, .int x2)]) hx hb dX11_rank_30 rfl hl (by decide) rfl (fun ls hl => ?_)
          refine lv_aload_n hx hb dX11_rank_31 rfl (lv_at hl 1 rfl) ?_
          refine m_get fl_X11_41_X11 C hM (i := 0) (by omega) (e_0 b kc T S) (v := .ref (b + 10)) rfl dX11_rank_32 ?_
          refine m_getN fl_X11_160_X5 C hM (i := 10) (by omega) (e_10 b kc T S) (v := .ref (b + 12)) rfl dX11_rank_35 ?_
          refine lv_iload_n hx hb dX11_rank_38 rfl (lv_at hl 2 rfl) ?_
          refine lv_iload_n hx hb dX11_rank_39 rfl (lv_at hl 3 rfl) ?_
          refine g_iast C hM (j := 12) (by omega) (jK_X b kc T (by omega)) (a_12 b kc) hS hx1 hx2 (B := 3) rfl h dX11_rank_40 (fun S3_z H locs h hM hS => ?_)
          refine lv_aload_n hx hb dX11_rank_41 rfl (lv_at hl 1 rfl) ?_
          obtain ⟨S4_z, cS4_z, h⟩ := w_b1E h
          refine g_callV (J := jX b kc T) (m_runV calV_X11_settle wd_598 (g_MP_settle l D kc b T S3_z hS cS4_z) C hM (i := 0) (by omega) (e_0 b kc T S3_z) rfl hl.1 rfl rfl (Nat.le_of_ble_eq_true rfl) dX11_rank_42 ⟨Nat.le_of_ble_eq_true rfl, Nat.le_of_ble_eq_true rfl⟩ ⟨Nat.le_of_ble_eq_true rfl, Nat.le_of_ble_eq_true rfl⟩) hM (fun H locs hM hS => ?_)
          refine lv_iload_n hx hb dX11_rank_45 rfl (lv_at hl 0 rfl) ?_
          exact ret S4_z _ _ _ _ z2_z (bz2_z.trans (r_1 h)) (r_2 h) hM hS dX11_rank_46
        · refine lv_bipush (v := (-2)) hx hb dX11_rank_19 (by decide) ?_
          exact ret S _ _ _ _ (-2) ((show ((-2) : Int32).toInt = (-2) by decide).trans (r_1 h)) (r_2 h) hM hS dX11_rank_21

def f_Holding_weigh_160 (q2 : Nat) (q3 : Nat) (kf23_ : SS → Int → Int → Int → Int → Option (Int × SS)) (S : SS) (v6_ : Int) (v7_ : Int) (v8_ : Int) (v9_ : Int) : Option (Int × SS) := w_chk (i32 (v9_ + 1)) (kf23_ S v6_ v7_ v8_ (v9_ + 1))
def f_Holding_weigh_140 (q2 : Nat) (q3 : Nat) (kf23_ : SS → Int → Int → Int → Int → Option (Int × SS)) (S : SS) (v8_ : Int) (v9_ : Int) (v10_ : Int) (v12_ : Int) (v13_ : Int) : Option (Int × SS) := w_lt (si S 183 8 v9_) (fun S1_z => w_lt (si S1_z 183 10 v12_) (fun S2_z => f_Holding_weigh_160 q2 q3 kf23_ S2_z v13_ v10_ v8_ v9_))
def f_Holding_weigh_23_b (q2 : Nat) (q3 : Nat) (kf23_ : SS → Int → Int → Int → Int → Option (Int × SS)) (S : SS) (v6_ : Int) (v7_ : Int) (v8_ : Int) (v9_ : Int) : Option (Int × SS) := (if v8_ ≤ v9_ then w_lt (si S 183 7 1) (fun S1_z => w_b1 (f_Holding_listMissed S1_z) (fun S2_z => w_b1 (f_Setter_takeDone S2_z (gi S2_z 183 8)) (fun S5_z => w_b1 (f_Setter_make S5_z q2 184) (fun S7_z => w_b1 (f_Holding_listChanges S7_z q3) (fun S9_z => some (v6_, S9_z)))))) else w_b1 (f_bitCount S v9_) (fun r11_z => w_chk (i32 (r11_z * (gi S 183 6))) (w_chk (i32 (v6_ - (r11_z * (gi S 183 6)))) (w_b1 (f_Holding_distanceFor S (v6_ - (r11_z * (gi S 183 6)))) (fun r16_z => (if 0 ≤ r16_z then w_b1 (f_Setter_takeDone S v9_) (fun S18_z => w_b1 (f_Setter_make S18_z q2 184) (fun S20_z => w_b2 (f_Ruler_measure S20_z 184 0 q3 0 r16_z) (fun r23_z S22_z => w_chk (i32 (r23_z * (gi S22_z 183 5))) (w_chk (i32 (r11_z * (gi S22_z 183 6))) (w_chk (i32 ((r23_z * (gi S22_z 183 5)) + (r11_z * (gi S22_z 183 6)))) ((if r16_z < r23_z then f_Holding_weigh_160 q2 q3 kf23_ S22_z v6_ v7_ v8_ v9_ else (if (r23_z * (gi S22_z 183 5)) + (r11_z * (gi S22_z 183 6)) < v6_ then f_Holding_weigh_140 q2 q3 kf23_ S22_z v8_ v9_ r11_z r23_z ((r23_z * (gi S22_z 183 5)) + (r11_z * (gi S22_z 183 6))) else (if (r23_z * (gi S22_z 183 5)) + (r11_z * (gi S22_z 183 6)) = v6_ then (if v7_ ≤ r11_z then f_Holding_weigh_160 q2 q3 kf23_ S22_z v6_ v7_ v8_ v9_ else f_Holding_weigh_140 q2 q3 kf23_ S22_z v8_ v9_ r11_z r23_z ((r23_z * (gi S22_z 183 5)) + (r11_z * (gi S22_z 183 6)))) else f_Holding_weigh_160 q2 q3 kf23_ S22_z v6_ v7_ v8_ v9_))))))))) else f_Holding_weigh_160 q2 q3 kf23_ S v6_ v7_ v8_ v9_))))))
def f_Holding_weigh_23 (q2 : Nat) (q3 : Nat) : Nat → SS → Int → Int → Int → Int → Option (Int × SS)
  | 0 => fun _ _ _ _ _ => none
  | n + 1 => f_Holding_weigh_23_b q2 q3 (f_Holding_weigh_23 q2 q3 n)
def f_Holding_weigh (S : SS) (q2 : Nat) (q3 : Nat) : Option (Int × SS) := f_Holding_weigh_23 q2 q3 FU S 100000 0 (shli 1 (min (gi S 10 5) 8)) 0
set_option maxHeartbeats 4000000 in
set_option maxRecDepth 100000 in
theorem g_Holding_weigh (l : Launch) (D : va_G) (kc : Nat → ClassId) (b : Nat) (T S : SS) (q2 : Nat) (hq2 : shOk q2) (q3 : Nat) (hq3 : shOk q3) (hS : rng S) {vr : Int} {Sr : SS} (h : f_Holding_weigh S q2 q3 = some (vr, Sr)) : cI l yX2_weigh cX2_weigh 14 .int 94 D kc b (jX b kc T) S [.ref (b + 183), .ref (b + 10), .ref (b + q2), .ref (b + q3), .ref (b + 178), .ref (b + 181)] vr Sr := by
  refine g_beg_i (by decide) (Nat.le_of_ble_eq_true rfl) ?_
  intro p e s m args below meth c Q C ret hM ls hl
  obtain ⟨hx, hb, hml, hown, hts, hE, hbs⟩ := id C
  have hl : lv_has ls 14 [(0, .ref (b + 183)), (1, .ref (b + 10)), (2, .ref (b + q2)), (3, .ref (b + q3)), (4, .ref (b + 178)), (5, .ref (b + 181))] := hl
  unfold f_Holding_weigh at h
  have B160 : ∀ (kf23_ : SS → Int → Int → Int → Int → Option (Int × SS)) (hkf23_ : ∀ (S : SS) (H : Heap) (locs : List Loc) (ls : Array Slot) (x6_ : Int32) (v6_ : Int) (hx6_ : x6_.toInt = v6_) (x7_ : Int32) (v7_ : Int) (hx7_ : x7_.toInt = v7_) (x8_ : Int32) (v8_ : Int) (hx8_ : x8_.toInt = v8_) (x9_ : Int32) (v9_ : Int) (hx9_ : x9_.toInt = v9_), rng S → mS D b s 220 (jX b kc T S) H locs → lv_has ls 14 [(0, .ref (b + 183)), (1, .ref (b + 10)), (2, .ref (b + q2)), (3, .ref (b + q3)), (4, .ref (b + 178)), (5, .ref (b + 181)), (6, .int x6_), (7, .int x7_), (8, .int x8_), (9, .int x9_)] → kf23_ S v6_ v7_ v8_ v9_ = some (vr, Sr) → W p l e (mR 94 0 0) s m args below meth c H locs 0 0 Q (F0 m 23 ls [])), ∀ (S : SS) (H : Heap) (locs : List Loc) (ls : Array Slot) (x6_ : Int32) (v6_ : Int) (hx6_ : x6_.toInt = v6_) (x7_ : Int32) (v7_ : Int) (hx7_ : x7_.toInt = v7_) (x8_ : Int32) (v8_ : Int) (hx8_ : x8_.toInt = v8_) (x9_ : Int32) (v9_ : Int) (hx9_ : x9_.toInt = v9_), rng S → mS D b s 220 (jX b kc T S) H locs → lv_has ls 14 [(0, .ref (b + 183)), (1, .ref (b + 10)), (2, .ref (b + q2)), (3, .ref (b + q3)), (4, .ref (b + 178)), (5, .ref (b + 181)), (6, .int x6_), (7, .int x7_), (8, .int x8_), (9, .int x9_)] → f_Holding_weigh_160 q2 q3 kf23_ S v6_ v7_ v8_ v9_ = some (vr, Sr) → W p l e (mR 94 0 0) s m args below meth c H locs 0 0 Q (F0 m 160 ls []) := by
    intro kf23_ hkf23_ S H locs ls x6_ v6_ hx6_ x7_ v7_ hx7_ x8_ v8_ hx8_ x9_ v9_ hx9_ hS hM hl h
    unfold f_Holding_weigh_160 at h
    refine g_iinc (y := 1) hx hb hx9_ (by decide) (by decide) h dX2_weigh_160 hl (k := 9) rfl (by decide) (fun z1_z ls bz1_z h hl => ?_)
    have hl : lv_has ls 14 [(9, .int z1_z), (0, .ref (b + 183)), (1, .ref (b + 10)), (2, .ref (b + q2)), (3, .ref (b + q3)), (4, .ref (b + 178)), (5, .ref (b + 181)), (6, .int x6_), (7, .int x7_), (8, .int x8_)] := hl
    refine lv_goto (tgt := 23) hx hb dX2_weigh_163 (by decide) ?_
    exact hkf23_ S _ _ _ x6_ v6_ hx6_ x7_ v7_ hx7_ x8_ v8_ hx8_ z1_z (v9_ + 1) bz1_z hS hM (lv_sub hl [1, 2, 3, 4, 5, 6, 7, 8, 9, 0] rfl) h
  have B140 : ∀ (kf23_ : SS → Int → Int → Int → Int → Option (Int × SS)) (hkf23_ : ∀ (S : SS) (H : Heap) (locs : List Loc) (ls : Array Slot) (x6_ : Int32) (v6_ : Int) (hx6_ : x6_.toInt = v6_) (x7_ : Int32) (v7_ : Int) (hx7_ : x7_.toInt = v7_) (x8_ : Int32) (v8_ : Int) (hx8_ : x8_.toInt = v8_) (x9_ : Int32) (v9_ : Int) (hx9_ : x9_.toInt = v9_), rng S → mS D b s 220 (jX b kc T S) H locs → lv_has ls 14 [(0, .ref (b + 183)), (1, .ref (b + 10)), (2, .ref (b + q2)), (3, .ref (b + q3)), (4, .ref (b + 178)), (5, .ref (b + 181)), (6, .int x6_), (7, .int x7_), (8, .int x8_), (9, .int x9_)] → kf23_ S v6_ v7_ v8_ v9_ = some (vr, Sr) → W p l e (mR 94 0 0) s m args below meth c H locs 0 0 Q (F0 m 23 ls [])), ∀ (S : SS) (H : Heap) (locs : List Loc) (ls : Array Slot) (x8_ : Int32) (v8_ : Int) (hx8_ : x8_.toInt = v8_) (x9_ : Int32) (v9_ : Int) (hx9_ : x9_.toInt = v9_) (x10_ : Int32) (v10_ : Int) (hx10_ : x10_.toInt = v10_) (x12_ : Int32) (v12_ : Int) (hx12_ : x12_.toInt = v12_) (x13_ : Int32) (v13_ : Int) (hx13_ : x13_.toInt = v13_), rng S → mS D b s 220 (jX b kc T S) H locs → lv_has ls 14 [(0, .ref (b + 183)), (1, .ref (b + 10)), (2, .ref (b + q2)), (3, .ref (b + q3)), (4, .ref (b + 178)), (5, .ref (b + 181)), (8, .int x8_), (9, .int x9_), (10, .int x10_), (12, .int x12_), (13, .int x13_)] → f_Holding_weigh_140 q2 q3 kf23_ S v8_ v9_ v10_ v12_ v13_ = some (vr, Sr) → W p l e (mR 94 0 0) s m args below meth c H locs 0 0 Q (F0 m 140 ls []) := by
    intro kf23_ hkf23_ S H locs ls x8_ v8_ hx8_ x9_ v9_ hx9_ x10_ v10_ hx10_ x12_ v12_ hx12_ x13_ v13_ hx13_ hS hM hl h
    unfold f_Holding_weigh_140 at h
    refine lv_iload hx hb dX2_weigh_140 (lv_at hl 10 rfl) ?_
    refine lv_istore (lv' := [(6, .int x13_), (0, .ref (b + 183)), (1, .ref (b + 10)), (2, .ref (b + q2)), (3, .ref (b + q3)), (4, .ref (b + 178)), (5, .ref (b + 181)), (8, .int x8_), (9, .int x9_), (10, .int x10_), (12, .int x12_), (13, .int x13_)]) hx hb dX2_weigh_142 hl (by decide) rfl (fun ls hl => ?_)
    refine lv_iload hx hb dX2_weigh_144 (lv_at hl 9 rfl) ?_
    refine lv_istore (lv' := [(7, .int x10_), (6, .int x13_), (0, .ref (b + 183)), (1, .ref (b + 10)), (2, .ref (b + q2)), (3, .ref (b + q3)), (4, .ref (b + 178)), (5, .ref (b + 181)), (8, .int x8_), (9, .int x9_), (10, .int x10_), (12, .int x12_), (13, .int x13_)]) hx hb dX2_weigh_146 hl (by decide) rfl (fun ls hl => ?_)
    refine lv_aload_n hx hb dX2_weigh_148 rfl (lv_at hl 2 rfl) ?_
    refine lv_iload hx hb dX2_weigh_149 (lv_at hl 9 rfl) ?_
    refine g_put fl_X2_77_X2 C hM (i := 183) (by omega) (e_183 b kc T S) rfl rfl (Nat.le_of_ble_eq_true rfl) (fs1 := [.ref (b + 184), .ref (b + 186), .ref (b + 187), .ref (b + 188), .ref (b + 189), .int (oi (gi S 183 5)), .int (oi (gi S 183 6)), .int (oi (gi S 183 7)), .int x9_, .int (oi (gi S 183 9)), .int (oi (gi S 183 10)), .int (oi (gi S 183 11))]) rfl (p_183_8 hx9_) (rng_si hS (i32_of hx9_)) h dX2_weigh_151 (fun S1_z H locs h hM hS => ?_)
    refine lv_aload_n hx hb dX2_weigh_154 rfl (lv_at hl 2 rfl) ?_
    refine lv_iload hx hb dX2_weigh_155 (lv_at hl 11 rfl) ?_
    refine g_put fl_X2_80_X2 C hM (i := 183) (by omega) (e_183 b kc T S1_z) rfl rfl (Nat.le_of_ble_eq_true rfl) (fs1 := [.ref (b + 184), .ref (b + 186), .ref (b + 187), .ref (b + 188), .ref (b + 189), .int (oi (gi S1_z 183 5)), .int (oi (gi S1_z 183 6)), .int (oi (gi S1_z 183 7)), .int (oi (gi S1_z 183 8)), .int (oi (gi S1_z 183 9)), .int x12_, .int (oi (gi S1_z 183 11))]) rfl (p_183_10 hx12_) (rng_si hS (i32_of hx12_)) h dX2_weigh_157 (fun S2_z H locs h hM hS => ?_)
    exact B160 kf23_ hkf23_ S2_z _ _ _ x13_ v13_ hx13_ x10_ v10_ hx10_ x8_ v8_ hx8_ x9_ v9_ hx9_ hS hM (lv_sub hl [2, 3, 4, 5, 6, 7, 1, 0, 8, 9] rfl) h
  have B23 : ∀ (n : Nat), ∀ (S : SS) (H : Heap) (locs : List Loc) (ls : Array Slot) (x6_ : Int32) (v6_ : Int) (hx6_ : x6_.toInt = v6_) (x7_ : Int32) (v7_ : Int) (hx7_ : x7_.toInt = v7_) (x8_ : Int32) (v8_ : Int) (hx8_ : x8_.toInt = v8_) (x9_ : Int32) (v9_ : Int) (hx9_ : x9_.toInt = v9_), rng S → mS D b s 220 (jX b kc T S) H locs → lv_has ls 14 [(0, .ref (b + 183)), (1, .ref (b + 10)), (2, .ref (b + q2)), (3, .ref (b + q3)), (4, .ref (b + 178)), (5, .ref (b + 181)), (6, .int x6_), (7, .int x7_), (8, .int x8_), (9, .int x9_)] → f_Holding_weigh_23 q2 q3 n S v6_ v7_ v8_ v9_ = some (vr, Sr) → W p l e (mR 94 0 0) s m args below meth c H locs 0 0 Q (F0 m 23 ls []) := by
    intro n
    induction n with
    | zero => intro S H locs ls x6_ v6_ hx6_ x7_ v7_ hx7_ x8_ v8_ hx8_ x9_ v9_ hx9_ hS hM hl h; exact absurd (h : none = some _) (fun q => nomatch q)
    | succ n hkf23_ =>
      intro S H locs ls x6_ v6_ hx6_ x7_ v7_ hx7_ x8_ v8_ hx8_ x9_ v9_ hx9_ hS hM hl h
      have h : f_Holding_weigh_23_b q2 q3 (f_Holding_weigh_23 q2 q3 n) S v6_ v7_ v8_ v9_ = some (vr, Sr) := h
      unfold f_Holding_weigh_23_b at h
      refine lv_iload hx hb dX2_weigh_23 (lv_at hl 9 rfl) ?_
      refine lv_iload hx hb dX2_weigh_25 (lv_at hl 8 rfl) ?_
      refine g_icmp_ge (tgt := 166) hx hb hx9_ hx8_ h dX2_weigh_27 (by decide) (fun h => ?_) (fun h => ?_)
      · refine lv_aload_n hx hb dX2_weigh_166 rfl (lv_at hl 0 rfl) ?_
        refine lv_iconst (v := 1) hx hb dX2_weigh_167 (by decide) ?_
        refine g_put fl_X2_83_X2 C hM (i := 183) (by omega) (e_183 b kc T S) (z_nar (show (1 : Int32).toInt = 1 by decide) (by decide)) (z_fit (show (1 : Int32).toInt = 1 by decide) (by decide)) (Nat.le_of_ble_eq_true rfl) (fs1 := [.ref (b + 184), .ref (b + 186), .ref (b + 187), .ref (b + 188), .ref (b + 189), .int (oi (gi S 183 5)), .int (oi (gi S 183 6)), .int 1, .int (oi (gi S 183 8)), .int (oi (gi S 183 9)), .int (oi (gi S 183 10)), .int (oi (gi S 183 11))]) rfl (p_183_7 (show (1 : Int32).toInt = 1 by decide)) (rng_si hS (i32_of (show (1 : Int32).toInt = 1 by decide))) h dX2_weigh_168 (fun S1_z H locs h hM hS => ?_)
        refine lv_aload_n hx hb dX2_weigh_171 rfl (lv_at hl 0 rfl) ?_
        refine lv_aload_n hx hb dX2_weigh_172 rfl (lv_at hl 1 rfl) ?_
        obtain ⟨S2_z, cS2_z, h⟩ := w_b1E h
        refine g_callV (J := jX b kc T) (m_runV calV_X2_listMissed wd_931 (g_Holding_listMissed l D kc b T S1_z hS cS2_z) C hM (i := 183) (by omega) (e_183 b kc T S1_z) rfl hl.1 rfl rfl (Nat.le_of_ble_eq_true rfl) dX2_weigh_173 ⟨Nat.le_of_ble_eq_true rfl, Nat.le_of_ble_eq_true rfl⟩ ⟨Nat.le_of_ble_eq_true rfl, Nat.le_of_ble_eq_true rfl⟩) hM (fun H locs hM hS => ?_)
        refine lv_aload hx hb dX2_weigh_176 (lv_at hl 4 rfl) ?_
        refine lv_aload_n hx hb dX2_weigh_178 rfl (lv_at hl 1 rfl) ?_
        refine lv_aload_n hx hb dX2_weigh_179 rfl (lv_at hl 0 rfl) ?_
        refine g_get fl_X2_77_X2 C hM (i := 183) (r := 183) (by omega) (e_183 b kc T S2_z) rfl hS dX2_weigh_180 (fun z4_z bz4_z => ?_)
        obtain ⟨S5_z, cS5_z, h⟩ := w_b1E h
        refine g_callV (J := jX b kc T) (m_runV calV_X7_takeDone wd_915 (g_Setter_takeDone l D kc b T S2_z z4_z (gi S2_z 183 8) bz4_z hS cS5_z) C hM (i := 178) (by omega) (e_178 b kc T S2_z) rfl hl.1 rfl rfl (Nat.le_of_ble_eq_true rfl) dX2_weigh_183 ⟨Nat.le_of_ble_eq_true rfl, Nat.le_of_ble_eq_true rfl⟩ ⟨Nat.le_of_ble_eq_true rfl, Nat.le_of_ble_eq_true rfl⟩) hM (fun H locs hM hS => ?_)
        refine lv_aload hx hb dX2_weigh_186 (lv_at hl 4 rfl) ?_
        refine lv_aload_n hx hb dX2_weigh_188 rfl (lv_at hl 2 rfl) ?_
        refine lv_aload_n hx hb dX2_weigh_189 rfl (lv_at hl 0 rfl) ?_
        refine m_get fl_X2_14_X2 C hM (i := 183) (by omega) (e_183 b kc T S5_z) (v := .ref (b + 184)) rfl dX2_weigh_190 ?_
        obtain ⟨S7_z, cS7_z, h⟩ := w_b1E h
        refine g_callV (J := jX b kc T) (m_runV calV_X7_make wd_916 (g_Setter_make l D kc b T S5_z q2 hq2 184 (show shOk 184 by decide) hS cS7_z) C hM (i := 178) (by omega) (e_178 b kc T S5_z) rfl hl.1 rfl rfl (Nat.le_of_ble_eq_true rfl) dX2_weigh_193 ⟨Nat.le_of_ble_eq_true rfl, Nat.le_of_ble_eq_true rfl⟩ ⟨Nat.le_of_ble_eq_true rfl, Nat.le_of_ble_eq_true rfl⟩) hM (fun H locs hM hS => ?_)
        refine lv_aload_n hx hb dX2_weigh_196 rfl (lv_at hl 0 rfl) ?_
        refine lv_aload_n hx hb dX2_weigh_197 rfl (lv_at hl 3 rfl) ?_
        refine lv_aload hx hb dX2_weigh_198 (lv_at hl 5 rfl) ?_
        obtain ⟨S9_z, cS9_z, h⟩ := w_b1E h
        refine g_callV (J := jX b kc T) (m_runV calV_X2_listChanges wd_936 (g_Holding_listChanges l D kc b T S7_z q3 hq3 hS cS9_z) C hM (i := 183) (by omega) (e_183 b kc T S7_z) rfl hl.1 rfl rfl (Nat.le_of_ble_eq_true rfl) dX2_weigh_200 ⟨Nat.le_of_ble_eq_true rfl, Nat.le_of_ble_eq_true rfl⟩ ⟨Nat.le_of_ble_eq_true rfl, Nat.le_of_ble_eq_true rfl⟩) hM (fun H locs hM hS => ?_)
        refine lv_iload hx hb dX2_weigh_203 (lv_at hl 6 rfl) ?_
        exact ret S9_z _ _ _ _ x6_ (hx6_.trans (r_1 h)) (r_2 h) hM hS dX2_weigh_205
      · refine lv_iload hx hb dX2_weigh_30 (lv_at hl 9 rfl) ?_
        obtain ⟨r11_z, cr11_z, h⟩ := w_b1E h
        refine g_callI (J := jX b kc T) (m_runS calS_J6_bitCount_0f7a4 wd_905 (g_bitCount l D kc b (jX b kc T) S x9_ v9_ hx9_ hS cr11_z) C hM hl.1 rfl rfl (Nat.le_of_ble_eq_true rfl) dX2_weigh_32 ⟨Nat.le_of_ble_eq_true rfl, Nat.le_of_ble_eq_true rfl⟩ ⟨Nat.le_of_ble_eq_true rfl, Nat.le_of_ble_eq_true rfl⟩) hM (fun z12_z H locs bz12_z hM hS => ?_)
        refine lv_istore (lv' := [(10, .int z12_z), (0, .ref (b + 183)), (1, .ref (b + 10)), (2, .ref (b + q2)), (3, .ref (b + q3)), (4, .ref (b + 178)), (5, .ref (b + 181)), (6, .int x6_), (7, .int x7_), (8, .int x8_), (9, .int x9_)]) hx hb dX2_weigh_35 hl (by decide) rfl (fun ls hl => ?_)
        refine lv_aload_n hx hb dX2_weigh_37 rfl (lv_at hl 1 rfl) ?_
        refine lv_iload hx hb dX2_weigh_38 (lv_at hl 7 rfl) ?_
        refine lv_iload hx hb dX2_weigh_40 (lv_at hl 0 rfl) ?_
        refine lv_aload_n hx hb dX2_weigh_42 rfl (lv_at hl 1 rfl) ?_
        refine g_get fl_X2_37_X2 C hM (i := 183) (r := 183) (by omega) (e_183 b kc T S) rfl hS dX2_weigh_43 (fun z13_z bz13_z => ?_)
        refine g_imul hx hb bz12_z bz13_z h dX2_weigh_46 (fun z14_z bz14_z h => ?_)
        refine g_isub hx hb hx6_ bz14_z h dX2_weigh_47 (fun z15_z bz15_z h => ?_)
        obtain ⟨r16_z, cr16_z, h⟩ := w_b1E h
        refine g_callI (J := jX b kc T) (m_runV calV_X2_distanceFor wd_911 (g_Holding_distanceFor l D kc b T S z15_z (v6_ - (r11_z * (gi S 183 6))) bz15_z hS cr16_z) C hM (i := 183) (by omega) (e_183 b kc T S) rfl hl.1 rfl rfl (Nat.le_of_ble_eq_true rfl) dX2_weigh_48 ⟨Nat.le_of_ble_eq_true rfl, Nat.le_of_ble_eq_true rfl⟩ ⟨Nat.le_of_ble_eq_true rfl, Nat.le_of_ble_eq_true rfl⟩) hM (fun z17_z H locs bz17_z hM hS => ?_)
        refine lv_istore (lv' := [(11, .int z17_z), (10, .int z12_z), (0, .ref (b + 183)), (1, .ref (b + 10)), (2, .ref (b + q2)), (3, .ref (b + q3)), (4, .ref (b + 178)), (5, .ref (b + 181)), (6, .int x6_), (7, .int x7_), (8, .int x8_), (9, .int x9_)]) hx hb dX2_weigh_51 hl (by decide) rfl (fun ls hl => ?_)
        refine lv_iload hx hb dX2_weigh_53 (lv_at hl 0 rfl) ?_
        refine g_if_ge (tgt := 61) hx hb bz17_z h dX2_weigh_55 (by decide) (fun h => ?_) (fun h => ?_)
        · refine lv_aload hx hb dX2_weigh_61 (lv_at hl 6 rfl) ?_
          refine lv_aload_n hx hb dX2_weigh_63 rfl (lv_at hl 3 rfl) ?_
          refine lv_iload hx hb dX2_weigh_64 (lv_at hl 11 rfl) ?_
          obtain ⟨S18_z, cS18_z, h⟩ := w_b1E h
          refine g_callV (J := jX b kc T) (m_runV calV_X7_takeDone wd_915 (g_Setter_takeDone l D kc b T S x9_ v9_ hx9_ hS cS18_z) C hM (i := 178) (by omega) (e_178 b kc T S) rfl hl.1 rfl rfl (Nat.le_of_ble_eq_true rfl) dX2_weigh_66 ⟨Nat.le_of_ble_eq_true rfl, Nat.le_of_ble_eq_true rfl⟩ ⟨Nat.le_of_ble_eq_true rfl, Nat.le_of_ble_eq_true rfl⟩) hM (fun H locs hM hS => ?_)
          refine lv_aload hx hb dX2_weigh_69 (lv_at hl 6 rfl) ?_
          refine lv_aload_n hx hb dX2_weigh_71 rfl (lv_at hl 4 rfl) ?_
          refine lv_aload_n hx hb dX2_weigh_72 rfl (lv_at hl 2 rfl) ?_
          refine m_get fl_X2_14_X2 C hM (i := 183) (by omega) (e_183 b kc T S18_z) (v := .ref (b + 184)) rfl dX2_weigh_73 ?_
          obtain ⟨S20_z, cS20_z, h⟩ := w_b1E h
          refine g_callV (J := jX b kc T) (m_runV calV_X7_make wd_916 (g_Setter_make l D kc b T S18_z q2 hq2 184 (show shOk 184 by decide) hS cS20_z) C hM (i := 178) (by omega) (e_178 b kc T S18_z) rfl hl.1 rfl rfl (Nat.le_of_ble_eq_true rfl) dX2_weigh_76 ⟨Nat.le_of_ble_eq_true rfl, Nat.le_of_ble_eq_true rfl⟩ ⟨Nat.le_of_ble_eq_true rfl, Nat.le_of_ble_eq_true rfl⟩) hM (fun H locs hM hS => ?_)
          refine lv_aload hx hb dX2_weigh_79 (lv_at hl 7 rfl) ?_
          refine lv_aload_n hx hb dX2_weigh_81 rfl (lv_at hl 2 rfl) ?_
          refine m_get fl_X2_14_X2 C hM (i := 183) (by omega) (e_183 b kc T S20_z) (v := .ref (b + 184)) rfl dX2_weigh_82 ?_
          refine lv_iconst (v := 0) hx hb dX2_weigh_85 (by decide) ?_
          refine lv_aload_n hx hb dX2_weigh_86 rfl (lv_at hl 5 rfl) ?_
          refine lv_iconst (v := 0) hx hb dX2_weigh_87 (by decide) ?_
          refine lv_iload hx hb dX2_weigh_88 (lv_at hl 0 rfl) ?_
          obtain ⟨r23_z, S22_z, cr23_z, h⟩ := w_b2E h
          refine g_callI (J := jX b kc T) (m_runV calV_X6_measure wd_917 (g_Ruler_measure l D kc b T S20_z 184 (show shOk 184 by decide) 0 0 (show (0 : Int32).toInt = 0 by decide) q3 hq3 0 0 (show (0 : Int32).toInt = 0 by decide) z17_z r16_z bz17_z hS cr23_z) C hM (i := 181) (by omega) (e_181 b kc T S20_z) rfl hl.1 rfl rfl (Nat.le_of_ble_eq_true rfl) dX2_weigh_90 ⟨Nat.le_of_ble_eq_true rfl, Nat.le_of_ble_eq_true rfl⟩ ⟨Nat.le_of_ble_eq_true rfl, Nat.le_of_ble_eq_true rfl⟩) hM (fun z24_z H locs bz24_z hM hS => ?_)
          refine lv_istore (lv' := [(12, .int z24_z), (11, .int z17_z), (10, .int z12_z), (0, .ref (b + 183)), (1, .ref (b + 10)), (2, .ref (b + q2)), (3, .ref (b + q3)), (4, .ref (b + 178)), (5, .ref (b + 181)), (6, .int x6_), (7, .int x7_), (8, .int x8_), (9, .int x9_)]) hx hb dX2_weigh_93 hl (by decide) rfl (fun ls hl => ?_)
          refine lv_iload hx hb dX2_weigh_95 (lv_at hl 0 rfl) ?_
          refine lv_aload_n hx hb dX2_weigh_97 rfl (lv_at hl 3 rfl) ?_
          refine g_get fl_X2_33_X2 C hM (i := 183) (r := 183) (by omega) (e_183 b kc T S22_z) rfl hS dX2_weigh_98 (fun z25_z bz25_z => ?_)
          refine g_imul hx hb bz24_z bz25_z h dX2_weigh_101 (fun z26_z bz26_z h => ?_)
          refine lv_iload hx hb dX2_weigh_102 (lv_at hl 2 rfl) ?_
          refine lv_aload_n hx hb dX2_weigh_104 rfl (lv_at hl 3 rfl) ?_
          refine g_get fl_X2_37_X2 C hM (i := 183) (r := 183) (by omega) (e_183 b kc T S22_z) rfl hS dX2_weigh_105 (fun z27_z bz27_z => ?_)
          refine g_imul hx hb bz12_z bz27_z h dX2_weigh_108 (fun z28_z bz28_z h => ?_)
          refine g_iadd hx hb bz26_z bz28_z h dX2_weigh_109 (fun z29_z bz29_z h => ?_)
          refine lv_istore (lv' := [(13, .int z29_z), (12, .int z24_z), (11, .int z17_z), (10, .int z12_z), (0, .ref (b + 183)), (1, .ref (b + 10)), (2, .ref (b + q2)), (3, .ref (b + q3)), (4, .ref (b + 178)), (5, .ref (b + 181)), (6, .int x6_), (7, .int x7_), (8, .int x8_), (9, .int x9_)]) hx hb dX2_weigh_110 hl (by decide) rfl (fun ls hl => ?_)
          refine lv_iload hx hb dX2_weigh_112 (lv_at hl 1 rfl) ?_
          refine lv_iload hx hb dX2_weigh_114 (lv_at hl 2 rfl) ?_
          refine g_icmp_gt (tgt := 160) hx hb bz24_z bz17_z h dX2_weigh_116 (by decide) (fun h => ?_) (fun h => ?_)
          · exact B160 (f_Holding_weigh_23 q2 q3 n) hkf23_ S22_z _ _ _ x6_ v6_ hx6_ x7_ v7_ hx7_ x8_ v8_ hx8_ x9_ v9_ hx9_ hS hM (lv_sub hl [4, 5, 6, 7, 8, 9, 10, 11, 12, 13] rfl) h
          · refine lv_iload hx hb dX2_weigh_119 (lv_at hl 0 rfl) ?_
            refine lv_iload hx hb dX2_weigh_121 (lv_at hl 10 rfl) ?_
            refine g_icmp_lt (tgt := 140) hx hb bz29_z hx6_ h dX2_weigh_123 (by decide) (fun h => ?_) (fun h => ?_)
            · exact B140 (f_Holding_weigh_23 q2 q3 n) hkf23_ S22_z _ _ _ x8_ v8_ hx8_ x9_ v9_ hx9_ z12_z r11_z bz12_z z24_z r23_z bz24_z z29_z ((r23_z * (gi S22_z 183 5)) + (r11_z * (gi S22_z 183 6))) bz29_z hS hM (lv_sub hl [4, 5, 6, 7, 8, 9, 12, 13, 3, 1, 0] rfl) h
            · refine lv_iload hx hb dX2_weigh_126 (lv_at hl 0 rfl) ?_
              refine lv_iload hx hb dX2_weigh_128 (lv_at hl 10 rfl) ?_
              refine g_icmp_ne (tgt := 160) hx hb bz29_z hx6_ h dX2_weigh_130 (by decide) (fun h => ?_) (fun h => ?_)
              · exact B160 (f_Holding_weigh_23 q2 q3 n) hkf23_ S22_z _ _ _ x6_ v6_ hx6_ x7_ v7_ hx7_ x8_ v8_ hx8_ x9_ v9_ hx9_ hS hM (lv_sub hl [4, 5, 6, 7, 8, 9, 10, 11, 12, 13] rfl) h
              · refine lv_iload hx hb dX2_weigh_133 (lv_at hl 3 rfl) ?_
                refine lv_iload hx hb dX2_weigh_135 (lv_at hl 11 rfl) ?_
                refine g_icmp_ge (tgt := 160) hx hb bz12_z hx7_ h dX2_weigh_137 (by decide) (fun h => ?_) (fun h => ?_)
                · exact B160 (f_Holding_weigh_23 q2 q3 n) hkf23_ S22_z _ _ _ x6_ v6_ hx6_ x7_ v7_ hx7_ x8_ v8_ hx8_ x9_ v9_ hx9_ hS hM (lv_sub hl [4, 5, 6, 7, 8, 9, 10, 11, 12, 13] rfl) h
                · exact B140 (f_Holding_weigh_23 q2 q3 n) hkf23_ S22_z _ _ _ x8_ v8_ hx8_ x9_ v9_ hx9_ z12_z r11_z bz12_z z24_z r23_z bz24_z z29_z ((r23_z * (gi S22_z 183 5)) + (r11_z * (gi S22_z 183 6))) bz29_z hS hM (lv_sub hl [4, 5, 6, 7, 8, 9, 12, 13, 3, 1, 0] rfl) h
        · refine lv_goto (tgt := 160) hx hb dX2_weigh_58 (by decide) ?_
          exact B160 (f_Holding_weigh_23 q2 q3 n) hkf23_ S _ _ _ x6_ v6_ hx6_ x7_ v7_ hx7_ x8_ v8_ hx8_ x9_ v9_ hx9_ hS hM (lv_sub hl [2, 3, 4, 5, 6, 7, 8, 9, 10, 11] rfl) h
  refine lv_ldc (v := 100000) hx hb hown (hts _ wd_903) dX2_weigh_0 ?_
  refine lv_istore (lv' := [(6, .int 100000), (0, .ref (b + 183)), (1, .ref (b + 10)), (2, .ref (b + q2)), (3, .ref (b + q3)), (4, .ref (b + 178)), (5, .ref (b + 181))]) hx hb dX2_weigh_2 hl (by decide) rfl (fun ls hl => ?_)
  refine lv_iconst (v := 0) hx hb dX2_weigh_4 (by decide) ?_
  refine lv_istore (lv' := [(7, .int 0), (6, .int 100000), (0, .ref (b + 183)), (1, .ref (b + 10)), (2, .ref (b + q2)), (3, .ref (b + q3)), (4, .ref (b + 178)), (5, .ref (b + 181))]) hx hb dX2_weigh_5 hl (by decide) rfl (fun ls hl => ?_)
  refine lv_iconst (v := 1) hx hb dX2_weigh_7 (by decide) ?_
  refine lv_aload_n hx hb dX2_weigh_8 rfl (lv_at hl 3 rfl) ?_
  refine g_getN fl_X2_41_X5 C hM (i := 10) (r := 10) (by omega) (e_10 b kc T S) rfl hS dX2_weigh_9 (fun z1_z bz1_z => ?_)
  refine lv_bipush (v := 8) hx hb dX2_weigh_12 (by decide) ?_
  refine g_mmin hx hb (hml.trans hl.1.symm) hown (hts _ wd_904) (hts _ wd_522) (hts _ wd_91) (hts _ wd_523) (Nat.le_of_ble_eq_true rfl) (Nat.le_of_ble_eq_true rfl) (Nat.le_of_ble_eq_true rfl) (Nat.le_of_ble_eq_true rfl) bz1_z (show (8 : Int32).toInt = 8 by decide) dX2_weigh_14 (fun z2_z bz2_z => ?_)
  refine g_ishl hx hb (show (1 : Int32).toInt = 1 by decide) bz2_z dX2_weigh_17 (fun z3_z bz3_z => ?_)
  refine lv_istore (lv' := [(8, .int z3_z), (7, .int 0), (6, .int 100000), (0, .ref (b + 183)), (1, .ref (b + 10)), (2, .ref (b + q2)), (3, .ref (b + q3)), (4, .ref (b + 178)), (5, .ref (b + 181))]) hx hb dX2_weigh_18 hl (by decide) rfl (fun ls hl => ?_)
  refine lv_iconst (v := 0) hx hb dX2_weigh_20 (by decide) ?_
  refine lv_istore (lv' := [(9, .int 0), (8, .int z3_z), (7, .int 0), (6, .int 100000), (0, .ref (b + 183)), (1, .ref (b + 10)), (2, .ref (b + q2)), (3, .ref (b + q3)), (4, .ref (b + 178)), (5, .ref (b + 181))]) hx hb dX2_weigh_21 hl (by decide) rfl (fun ls hl => ?_)
  exact B23 FU S _ _ _ 100000 100000 (show (100000 : Int32).toInt = 100000 by decide) 0 0 (show (0 : Int32).toInt = 0 by decide) z3_z (shli 1 (min (gi S 10 5) 8)) bz3_z 0 0 (show (0 : Int32).toInt = 0 by decide) hS hM (lv_sub hl [4, 5, 6, 7, 8, 9, 3, 2, 1, 0] rfl) h

def f_MP_hold (S : SS) : Option (Int × SS) := (if gi S 10 5 ≤ 8 then w_b2 (f_Holding_weigh S 4 6) (fun r3_z S2_z => some (r3_z, S2_z)) else some ((-3), S))
set_option maxHeartbeats 4000000 in
set_option maxRecDepth 100000 in
theorem g_MP_hold (l : Launch) (D : va_G) (kc : Nat → ClassId) (b : Nat) (T S : SS) (hS : rng S) {vr : Int} {Sr : SS} (h : f_MP_hold S = some (vr, Sr)) : cI l yX11_hold cX11_hold 1 .int 95 D kc b (jX b kc T) S [.ref (b + 0)] vr Sr := by
  refine g_beg_i (by decide) (Nat.le_of_ble_eq_true rfl) ?_
  intro p e s m args below meth c Q C ret hM ls hl
  obtain ⟨hx, hb, hml, hown, hts, hE, hbs⟩ := id C
  have hl : lv_has ls 1 [(0, .ref (b + 0))] := hl
  unfold f_MP_hold at h
  refine lv_aload_n hx hb dX11_hold_0 rfl (lv_at hl 0 rfl) ?_
  refine m_get fl_X11_41_X11 C hM (i := 0) (by omega) (e_0 b kc T S) (v := .ref (b + 10)) rfl dX11_hold_1 ?_
  refine g_getN fl_X11_180_X5 C hM (i := 10) (r := 10) (by omega) (e_10 b kc T S) rfl hS dX11_hold_4 (fun z1_z bz1_z => ?_)
  refine lv_bipush (v := 8) hx hb dX11_hold_7 (by decide) ?_
  refine g_icmp_le (tgt := 15) hx hb bz1_z (show (8 : Int32).toInt = 8 by decide) h dX11_hold_9 (by decide) (fun h => ?_) (fun h => ?_)
  · refine lv_aload_n hx hb dX11_hold_15 rfl (lv_at hl 0 rfl) ?_
    refine m_get fl_X11_76_X11 C hM (i := 0) (by omega) (e_0 b kc T S) (v := .ref (b + 183)) rfl dX11_hold_16 ?_
    refine lv_aload_n hx hb dX11_hold_19 rfl (lv_at hl 0 rfl) ?_
    refine m_get fl_X11_41_X11 C hM (i := 0) (by omega) (e_0 b kc T S) (v := .ref (b + 10)) rfl dX11_hold_20 ?_
    refine lv_aload_n hx hb dX11_hold_23 rfl (lv_at hl 0 rfl) ?_
    refine m_get fl_X11_28_X11 C hM (i := 0) (by omega) (e_0 b kc T S) (v := .ref (b + 4)) rfl dX11_hold_24 ?_
    refine lv_aload_n hx hb dX11_hold_27 rfl (lv_at hl 0 rfl) ?_
    refine m_get fl_X11_32_X11 C hM (i := 0) (by omega) (e_0 b kc T S) (v := .ref (b + 6)) rfl dX11_hold_28 ?_
    refine lv_aload_n hx hb dX11_hold_31 rfl (lv_at hl 0 rfl) ?_
    refine m_get fl_X11_62_X11 C hM (i := 0) (by omega) (e_0 b kc T S) (v := .ref (b + 178)) rfl dX11_hold_32 ?_
    refine lv_aload_n hx hb dX11_hold_35 rfl (lv_at hl 0 rfl) ?_
    refine m_get fl_X11_69_X11 C hM (i := 0) (by omega) (e_0 b kc T S) (v := .ref (b + 181)) rfl dX11_hold_36 ?_
    obtain ⟨r3_z, S2_z, cr3_z, h⟩ := w_b2E h
    refine g_callI (J := jX b kc T) (m_runV calV_X2_weigh wd_899 (g_Holding_weigh l D kc b T S 4 (show shOk 4 by decide) 6 (show shOk 6 by decide) hS cr3_z) C hM (i := 183) (by omega) (e_183 b kc T S) rfl hl.1 rfl rfl (Nat.le_of_ble_eq_true rfl) dX11_hold_39 ⟨Nat.le_of_ble_eq_true rfl, Nat.le_of_ble_eq_true rfl⟩ ⟨Nat.le_of_ble_eq_true rfl, Nat.le_of_ble_eq_true rfl⟩) hM (fun z4_z H locs bz4_z hM hS => ?_)
    exact ret S2_z _ _ _ _ z4_z (bz4_z.trans (r_1 h)) (r_2 h) hM hS dX11_hold_42
  · refine lv_bipush (v := (-3)) hx hb dX11_hold_12 (by decide) ?_
    exact ret S _ _ _ _ (-3) ((show ((-3) : Int32).toInt = (-3) by decide).trans (r_1 h)) (r_2 h) hM hS dX11_hold_14

def f_MP_next (S : SS) : Option (Int × SS) := (if gi S 6 1 = 0 then some ((-4), S) else (if gi S 6 1 ≤ 60 then w_b1 (f_Sheet_copyFrom S 4 6) (fun S3_z => w_lt (f_Sheet_clear S3_z 6) (fun S5_z => w_lt (f_Pile_clear S5_z) (fun S7_z => w_b1 (f_MP_settle S7_z) (fun S9_z => some (gi S9_z 4 1, S9_z))))) else some ((-4), S)))
set_option maxHeartbeats 4000000 in
set_option maxRecDepth 100000 in
theorem g_MP_next (l : Launch) (D : va_G) (kc : Nat → ClassId) (b : Nat) (T S : SS) (hS : rng S) {vr : Int} {Sr : SS} (h : f_MP_next S = some (vr, Sr)) : cI l yX11_next cX11_next 1 .int 95 D kc b (jX b kc T) S [.ref (b + 0)] vr Sr := by
  refine g_beg_i (by decide) (Nat.le_of_ble_eq_true rfl) ?_
  intro p e s m args below meth c Q C ret hM ls hl
  obtain ⟨hx, hb, hml, hown, hts, hE, hbs⟩ := id C
  have hl : lv_has ls 1 [(0, .ref (b + 0))] := hl
  unfold f_MP_next at h
  refine lv_aload_n hx hb dX11_next_0 rfl (lv_at hl 0 rfl) ?_
  refine m_get fl_X11_32_X11 C hM (i := 0) (by omega) (e_0 b kc T S) (v := .ref (b + 6)) rfl dX11_next_1 ?_
  refine g_getN fl_X11_111_X8 C hM (i := 6) (r := 6) (by omega) (e_sh b kc T S (show shOk 6 by decide)) rfl hS dX11_next_4 (fun z1_z bz1_z => ?_)
  refine g_if_eq (tgt := 22) hx hb bz1_z h dX11_next_7 (by decide) (fun h => ?_) (fun h => ?_)
  · refine lv_bipush (v := (-4)) hx hb dX11_next_22 (by decide) ?_
    exact ret S _ _ _ _ (-4) ((show ((-4) : Int32).toInt = (-4) by decide).trans (r_1 h)) (r_2 h) hM hS dX11_next_24
  · refine lv_aload_n hx hb dX11_next_10 rfl (lv_at hl 0 rfl) ?_
    refine m_get fl_X11_32_X11 C hM (i := 0) (by omega) (e_0 b kc T S) (v := .ref (b + 6)) rfl dX11_next_11 ?_
    refine g_getN fl_X11_111_X8 C hM (i := 6) (r := 6) (by omega) (e_sh b kc T S (show shOk 6 by decide)) rfl hS dX11_next_14 (fun z2_z bz2_z => ?_)
    refine lv_bipush (v := 60) hx hb dX11_next_17 (by decide) ?_
    refine g_icmp_le (tgt := 25) hx hb bz2_z (show (60 : Int32).toInt = 60 by decide) h dX11_next_19 (by decide) (fun h => ?_) (fun h => ?_)
    · refine lv_aload_n hx hb dX11_next_25 rfl (lv_at hl 0 rfl) ?_
      refine m_get fl_X11_28_X11 C hM (i := 0) (by omega) (e_0 b kc T S) (v := .ref (b + 4)) rfl dX11_next_26 ?_
      refine lv_aload_n hx hb dX11_next_29 rfl (lv_at hl 0 rfl) ?_
      refine m_get fl_X11_32_X11 C hM (i := 0) (by omega) (e_0 b kc T S) (v := .ref (b + 6)) rfl dX11_next_30 ?_
      obtain ⟨S3_z, cS3_z, h⟩ := w_b1E h
      refine g_callV (J := jX b kc T) (m_runV calV_X8_copyFrom wd_580 (g_Sheet_copyFrom l D kc b T S 4 (show shOk 4 by decide) 6 (show shOk 6 by decide) hS cS3_z) C hM (i := 4) (by omega) (e_sh b kc T S (show shOk 4 by decide)) rfl hl.1 rfl rfl (Nat.le_of_ble_eq_true rfl) dX11_next_33 ⟨Nat.le_of_ble_eq_true rfl, Nat.le_of_ble_eq_true rfl⟩ ⟨Nat.le_of_ble_eq_true rfl, Nat.le_of_ble_eq_true rfl⟩) hM (fun H locs hM hS => ?_)
      refine lv_aload_n hx hb dX11_next_36 rfl (lv_at hl 0 rfl) ?_
      refine m_get fl_X11_32_X11 C hM (i := 0) (by omega) (e_0 b kc T S3_z) (v := .ref (b + 6)) rfl dX11_next_37 ?_
      obtain ⟨S5_z, cS5_z, h⟩ := w_ltE h
      refine g_callV (J := jX b kc T) (m_runV calV_X8_clear wd_974 (g_Sheet_clear l D kc b T S3_z 6 (show shOk 6 by decide) hS cS5_z.symm) C hM (i := 6) (by omega) (e_sh b kc T S3_z (show shOk 6 by decide)) rfl hl.1 rfl rfl (Nat.le_of_ble_eq_true rfl) dX11_next_40 ⟨Nat.le_of_ble_eq_true rfl, Nat.le_of_ble_eq_true rfl⟩ ⟨Nat.le_of_ble_eq_true rfl, Nat.le_of_ble_eq_true rfl⟩) hM (fun H locs hM hS => ?_)
      refine lv_aload_n hx hb dX11_next_43 rfl (lv_at hl 0 rfl) ?_
      refine m_get fl_X11_41_X11 C hM (i := 0) (by omega) (e_0 b kc T S5_z) (v := .ref (b + 10)) rfl dX11_next_44 ?_
      obtain ⟨S7_z, cS7_z, h⟩ := w_ltE h
      refine g_callV (J := jX b kc T) (m_runV calV_X5_clear wd_594 (g_Pile_clear l D kc b T S5_z hS cS7_z.symm) C hM (i := 10) (by omega) (e_10 b kc T S5_z) rfl hl.1 rfl rfl (Nat.le_of_ble_eq_true rfl) dX11_next_47 ⟨Nat.le_of_ble_eq_true rfl, Nat.le_of_ble_eq_true rfl⟩ ⟨Nat.le_of_ble_eq_true rfl, Nat.le_of_ble_eq_true rfl⟩) hM (fun H locs hM hS => ?_)
      refine lv_aload_n hx hb dX11_next_50 rfl (lv_at hl 0 rfl) ?_
      obtain ⟨S9_z, cS9_z, h⟩ := w_b1E h
      refine g_callV (J := jX b kc T) (m_runV calV_X11_settle wd_598 (g_MP_settle l D kc b T S7_z hS cS9_z) C hM (i := 0) (by omega) (e_0 b kc T S7_z) rfl hl.1 rfl rfl (Nat.le_of_ble_eq_true rfl) dX11_next_51 ⟨Nat.le_of_ble_eq_true rfl, Nat.le_of_ble_eq_true rfl⟩ ⟨Nat.le_of_ble_eq_true rfl, Nat.le_of_ble_eq_true rfl⟩) hM (fun H locs hM hS => ?_)
      refine lv_aload_n hx hb dX11_next_54 rfl (lv_at hl 0 rfl) ?_
      refine m_get fl_X11_28_X11 C hM (i := 0) (by omega) (e_0 b kc T S9_z) (v := .ref (b + 4)) rfl dX11_next_55 ?_
      refine g_getN fl_X11_111_X8 C hM (i := 4) (r := 4) (by omega) (e_sh b kc T S9_z (show shOk 4 by decide)) rfl hS dX11_next_58 (fun z11_z bz11_z => ?_)
      exact ret S9_z _ _ _ _ z11_z (bz11_z.trans (r_1 h)) (r_2 h) hM hS dX11_next_61
    · refine lv_bipush (v := (-4)) hx hb dX11_next_22 (by decide) ?_
      exact ret S _ _ _ _ (-4) ((show ((-4) : Int32).toInt = (-4) by decide).trans (r_1 h)) (r_2 h) hM hS dX11_next_24
